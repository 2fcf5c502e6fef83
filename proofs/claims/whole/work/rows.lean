section
-- ===== PART A: goes FIRST, ahead of the names: the tables' words, and 'selects' of the private methods out of them =====
/-- a private method of a class that the tables say can be made, by its rows of tables_1 -/
def lw_okq (q : MethodName × Nat) : Prop := (q.1.cls ≠ "java/lang/invoke/MethodHandle" ∧ q.1.cls ≠ "java/lang/invoke/VarHandle") ∧ Cond.instantiable q.1.cls q.2 ∈ tables_1 ∧ Cond.privateMethod q.1 ∈ tables_1 ∧ Cond.instanceMethod q.1 ∈ tables_1
theorem lw_p0 : lw_okq (⟨"CarvedWeeks$Table", "placeOf", "(II)I"⟩, 4) := ⟨⟨by decide +kernel, by decide +kernel⟩, List.mem_of_getElem? (i := 29) (by decide +kernel), List.mem_of_getElem? (i := 213) (by decide +kernel), List.mem_of_getElem? (i := 214) (by decide +kernel)⟩
theorem lw_p1 : lw_okq (⟨"CarvedWeeks$Text", "readItem", "(LCarvedWeeks$Town;)Z"⟩, 3) := ⟨⟨by decide +kernel, by decide +kernel⟩, List.mem_of_getElem? (i := 23) (by decide +kernel), List.mem_of_getElem? (i := 233) (by decide +kernel), List.mem_of_getElem? (i := 234) (by decide +kernel)⟩
theorem lw_p2 : lw_okq (⟨"CarvedWeeks$Text", "readNumber", "()I"⟩, 3) := ⟨⟨by decide +kernel, by decide +kernel⟩, List.mem_of_getElem? (i := 23) (by decide +kernel), List.mem_of_getElem? (i := 245) (by decide +kernel), List.mem_of_getElem? (i := 246) (by decide +kernel)⟩
theorem lw_p3 : lw_okq (⟨"CarvedWeeks$Week", "restoreHours", "(LCarvedWeeks$Town;)V"⟩, 4) := ⟨⟨by decide +kernel, by decide +kernel⟩, List.mem_of_getElem? (i := 67) (by decide +kernel), List.mem_of_getElem? (i := 309) (by decide +kernel), List.mem_of_getElem? (i := 310) (by decide +kernel)⟩
theorem lw_p4 : lw_okq (⟨"CarvedWeeks$Shelf", "top", "()LCarvedWeeks$Week;"⟩, 3) := ⟨⟨by decide +kernel, by decide +kernel⟩, List.mem_of_getElem? (i := 60) (by decide +kernel), List.mem_of_getElem? (i := 401) (by decide +kernel), List.mem_of_getElem? (i := 402) (by decide +kernel)⟩
theorem lw_p5 : lw_okq (⟨"CarvedWeeks$Table", "copyRow", "(LCarvedWeeks$Table;II)V"⟩, 4) := ⟨⟨by decide +kernel, by decide +kernel⟩, List.mem_of_getElem? (i := 29) (by decide +kernel), List.mem_of_getElem? (i := 416) (by decide +kernel), List.mem_of_getElem? (i := 417) (by decide +kernel)⟩
theorem lw_p6 : lw_okq (⟨"CarvedWeeks", "rightFrom", "(I)I"⟩, 7) := ⟨⟨by decide +kernel, by decide +kernel⟩, List.mem_of_getElem? (i := 15) (by decide +kernel), List.mem_of_getElem? (i := 506) (by decide +kernel), List.mem_of_getElem? (i := 507) (by decide +kernel)⟩
theorem lw_p7 : lw_okq (⟨"CarvedWeeks", "wrongFrom", "(LCarvedWeeks$Week;I)I"⟩, 7) := ⟨⟨by decide +kernel, by decide +kernel⟩, List.mem_of_getElem? (i := 15) (by decide +kernel), List.mem_of_getElem? (i := 511) (by decide +kernel), List.mem_of_getElem? (i := 512) (by decide +kernel)⟩
theorem lw_p8 : lw_okq (⟨"CarvedWeeks", "leastFor", "(I)I"⟩, 7) := ⟨⟨by decide +kernel, by decide +kernel⟩, List.mem_of_getElem? (i := 15) (by decide +kernel), List.mem_of_getElem? (i := 543) (by decide +kernel), List.mem_of_getElem? (i := 544) (by decide +kernel)⟩
theorem lw_p9 : lw_okq (⟨"CarvedWeeks", "bestLie", "(II)I"⟩, 7) := ⟨⟨by decide +kernel, by decide +kernel⟩, List.mem_of_getElem? (i := 15) (by decide +kernel), List.mem_of_getElem? (i := 561) (by decide +kernel), List.mem_of_getElem? (i := 562) (by decide +kernel)⟩
theorem lw_p10 : lw_okq (⟨"CarvedWeeks", "wrongByLie", "(IIII)I"⟩, 7) := ⟨⟨by decide +kernel, by decide +kernel⟩, List.mem_of_getElem? (i := 15) (by decide +kernel), List.mem_of_getElem? (i := 565) (by decide +kernel), List.mem_of_getElem? (i := 566) (by decide +kernel)⟩
theorem lw_p11 : lw_okq (⟨"CarvedWeeks", "standingSets", "(I)I"⟩, 7) := ⟨⟨by decide +kernel, by decide +kernel⟩, List.mem_of_getElem? (i := 15) (by decide +kernel), List.mem_of_getElem? (i := 590) (by decide +kernel), List.mem_of_getElem? (i := 591) (by decide +kernel)⟩
theorem lw_p12 : lw_okq (⟨"CarvedWeeks", "stoodBefore", "(II)Z"⟩, 7) := ⟨⟨by decide +kernel, by decide +kernel⟩, List.mem_of_getElem? (i := 15) (by decide +kernel), List.mem_of_getElem? (i := 594) (by decide +kernel), List.mem_of_getElem? (i := 595) (by decide +kernel)⟩
theorem lw_p13 : lw_okq (⟨"CarvedWeeks$Week", "lowestFreeStone", "(LCarvedWeeks$Town;)I"⟩, 4) := ⟨⟨by decide +kernel, by decide +kernel⟩, List.mem_of_getElem? (i := 67) (by decide +kernel), List.mem_of_getElem? (i := 642) (by decide +kernel), List.mem_of_getElem? (i := 643) (by decide +kernel)⟩
theorem lw_p14 : lw_okq (⟨"CarvedWeeksModel", "begins", "()V"⟩, 19) := ⟨⟨by decide +kernel, by decide +kernel⟩, List.mem_of_getElem? (i := 662) (by decide +kernel), List.mem_of_getElem? (i := 668) (by decide +kernel), List.mem_of_getElem? (i := 669) (by decide +kernel)⟩
theorem lw_p15 : lw_okq (⟨"CarvedWeeksModel", "takes", "()V"⟩, 19) := ⟨⟨by decide +kernel, by decide +kernel⟩, List.mem_of_getElem? (i := 662) (by decide +kernel), List.mem_of_getElem? (i := 672) (by decide +kernel), List.mem_of_getElem? (i := 673) (by decide +kernel)⟩
def lw_privs_1 : List (MethodName × Nat) := [(⟨"CarvedWeeks$Table", "placeOf", "(II)I"⟩, 4), (⟨"CarvedWeeks$Text", "readItem", "(LCarvedWeeks$Town;)Z"⟩, 3), (⟨"CarvedWeeks$Text", "readNumber", "()I"⟩, 3), (⟨"CarvedWeeks$Week", "restoreHours", "(LCarvedWeeks$Town;)V"⟩, 4), (⟨"CarvedWeeks$Shelf", "top", "()LCarvedWeeks$Week;"⟩, 3), (⟨"CarvedWeeks$Table", "copyRow", "(LCarvedWeeks$Table;II)V"⟩, 4), (⟨"CarvedWeeks", "rightFrom", "(I)I"⟩, 7), (⟨"CarvedWeeks", "wrongFrom", "(LCarvedWeeks$Week;I)I"⟩, 7), (⟨"CarvedWeeks", "leastFor", "(I)I"⟩, 7), (⟨"CarvedWeeks", "bestLie", "(II)I"⟩, 7), (⟨"CarvedWeeks", "wrongByLie", "(IIII)I"⟩, 7), (⟨"CarvedWeeks", "standingSets", "(I)I"⟩, 7), (⟨"CarvedWeeks", "stoodBefore", "(II)Z"⟩, 7), (⟨"CarvedWeeks$Week", "lowestFreeStone", "(LCarvedWeeks$Town;)I"⟩, 4), (⟨"CarvedWeeksModel", "begins", "()V"⟩, 19), (⟨"CarvedWeeksModel", "takes", "()V"⟩, 19)]
theorem lw_r1 : ∀ q ∈ lw_privs_1, lw_okq q := List.forall_mem_cons.mpr ⟨lw_p0, List.forall_mem_cons.mpr ⟨lw_p1, List.forall_mem_cons.mpr ⟨lw_p2, List.forall_mem_cons.mpr ⟨lw_p3, List.forall_mem_cons.mpr ⟨lw_p4, List.forall_mem_cons.mpr ⟨lw_p5, List.forall_mem_cons.mpr ⟨lw_p6, List.forall_mem_cons.mpr ⟨lw_p7, List.forall_mem_cons.mpr ⟨lw_p8, List.forall_mem_cons.mpr ⟨lw_p9, List.forall_mem_cons.mpr ⟨lw_p10, List.forall_mem_cons.mpr ⟨lw_p11, List.forall_mem_cons.mpr ⟨lw_p12, List.forall_mem_cons.mpr ⟨lw_p13, List.forall_mem_cons.mpr ⟨lw_p14, List.forall_mem_cons.mpr ⟨lw_p15, fun _ h => absurd h List.not_mem_nil⟩⟩⟩⟩⟩⟩⟩⟩⟩⟩⟩⟩⟩⟩⟩⟩
theorem lw_p16 : lw_okq (⟨"CarvedWeeksModel", "isLawful", "(III)Z"⟩, 19) := ⟨⟨by decide +kernel, by decide +kernel⟩, List.mem_of_getElem? (i := 662) (by decide +kernel), List.mem_of_getElem? (i := 676) (by decide +kernel), List.mem_of_getElem? (i := 677) (by decide +kernel)⟩
theorem lw_p17 : lw_okq (⟨"CarvedWeeksModel", "rests", "(I)V"⟩, 19) := ⟨⟨by decide +kernel, by decide +kernel⟩, List.mem_of_getElem? (i := 662) (by decide +kernel), List.mem_of_getElem? (i := 683) (by decide +kernel), List.mem_of_getElem? (i := 684) (by decide +kernel)⟩
theorem lw_p18 : lw_okq (⟨"CarvedWeeksModel", "isItem", "()Z"⟩, 19) := ⟨⟨by decide +kernel, by decide +kernel⟩, List.mem_of_getElem? (i := 662) (by decide +kernel), List.mem_of_getElem? (i := 763) (by decide +kernel), List.mem_of_getElem? (i := 764) (by decide +kernel)⟩
theorem lw_p19 : lw_okq (⟨"CarvedWeeksModel", "number", "()I"⟩, 19) := ⟨⟨by decide +kernel, by decide +kernel⟩, List.mem_of_getElem? (i := 662) (by decide +kernel), List.mem_of_getElem? (i := 770) (by decide +kernel), List.mem_of_getElem? (i := 771) (by decide +kernel)⟩
theorem lw_p20 : lw_okq (⟨"CarvedWeeksModel", "isGood", "(I)Z"⟩, 19) := ⟨⟨by decide +kernel, by decide +kernel⟩, List.mem_of_getElem? (i := 662) (by decide +kernel), List.mem_of_getElem? (i := 777) (by decide +kernel), List.mem_of_getElem? (i := 778) (by decide +kernel)⟩
theorem lw_p21 : lw_okq (⟨"CarvedWeeksModel", "isPut", "([IIIII)Z"⟩, 19) := ⟨⟨by decide +kernel, by decide +kernel⟩, List.mem_of_getElem? (i := 662) (by decide +kernel), List.mem_of_getElem? (i := 782) (by decide +kernel), List.mem_of_getElem? (i := 783) (by decide +kernel)⟩
theorem lw_p22 : lw_okq (⟨"CarvedWeeksModel", "isPerson", "(I)Z"⟩, 19) := ⟨⟨by decide +kernel, by decide +kernel⟩, List.mem_of_getElem? (i := 662) (by decide +kernel), List.mem_of_getElem? (i := 801) (by decide +kernel), List.mem_of_getElem? (i := 802) (by decide +kernel)⟩
theorem lw_p23 : lw_okq (⟨"CarvedWeeksModel", "isStone", "(I)Z"⟩, 19) := ⟨⟨by decide +kernel, by decide +kernel⟩, List.mem_of_getElem? (i := 662) (by decide +kernel), List.mem_of_getElem? (i := 809) (by decide +kernel), List.mem_of_getElem? (i := 810) (by decide +kernel)⟩
theorem lw_p24 : lw_okq (⟨"CarvedWeeksModel", "free", "(II)I"⟩, 19) := ⟨⟨by decide +kernel, by decide +kernel⟩, List.mem_of_getElem? (i := 662) (by decide +kernel), List.mem_of_getElem? (i := 814) (by decide +kernel), List.mem_of_getElem? (i := 815) (by decide +kernel)⟩
theorem lw_p25 : lw_okq (⟨"CarvedWeeksModel", "isMark", "(I)Z"⟩, 19) := ⟨⟨by decide +kernel, by decide +kernel⟩, List.mem_of_getElem? (i := 662) (by decide +kernel), List.mem_of_getElem? (i := 822) (by decide +kernel), List.mem_of_getElem? (i := 823) (by decide +kernel)⟩
theorem lw_p26 : lw_okq (⟨"CarvedWeeksModel", "worldOf", "(I)I"⟩, 19) := ⟨⟨by decide +kernel, by decide +kernel⟩, List.mem_of_getElem? (i := 662) (by decide +kernel), List.mem_of_getElem? (i := 831) (by decide +kernel), List.mem_of_getElem? (i := 832) (by decide +kernel)⟩
theorem lw_p27 : lw_okq (⟨"CarvedWeeksModel", "isSet", "(I)Z"⟩, 19) := ⟨⟨by decide +kernel, by decide +kernel⟩, List.mem_of_getElem? (i := 662) (by decide +kernel), List.mem_of_getElem? (i := 839) (by decide +kernel), List.mem_of_getElem? (i := 840) (by decide +kernel)⟩
theorem lw_p28 : lw_okq (⟨"CarvedWeeksModel", "known", "()V"⟩, 19) := ⟨⟨by decide +kernel, by decide +kernel⟩, List.mem_of_getElem? (i := 662) (by decide +kernel), List.mem_of_getElem? (i := 843) (by decide +kernel), List.mem_of_getElem? (i := 844) (by decide +kernel)⟩
theorem lw_p29 : lw_okq (⟨"CarvedWeeksModel", "copies", "(II)V"⟩, 19) := ⟨⟨by decide +kernel, by decide +kernel⟩, List.mem_of_getElem? (i := 662) (by decide +kernel), List.mem_of_getElem? (i := 847) (by decide +kernel), List.mem_of_getElem? (i := 848) (by decide +kernel)⟩
theorem lw_p30 : lw_okq (⟨"CarvedWeeksModel", "isFact", "(I)Z"⟩, 19) := ⟨⟨by decide +kernel, by decide +kernel⟩, List.mem_of_getElem? (i := 662) (by decide +kernel), List.mem_of_getElem? (i := 858) (by decide +kernel), List.mem_of_getElem? (i := 859) (by decide +kernel)⟩
theorem lw_p31 : lw_okq (⟨"CarvedWeeksModel", "costs", "(I)I"⟩, 19) := ⟨⟨by decide +kernel, by decide +kernel⟩, List.mem_of_getElem? (i := 662) (by decide +kernel), List.mem_of_getElem? (i := 862) (by decide +kernel), List.mem_of_getElem? (i := 863) (by decide +kernel)⟩
def lw_privs_2 : List (MethodName × Nat) := [(⟨"CarvedWeeksModel", "isLawful", "(III)Z"⟩, 19), (⟨"CarvedWeeksModel", "rests", "(I)V"⟩, 19), (⟨"CarvedWeeksModel", "isItem", "()Z"⟩, 19), (⟨"CarvedWeeksModel", "number", "()I"⟩, 19), (⟨"CarvedWeeksModel", "isGood", "(I)Z"⟩, 19), (⟨"CarvedWeeksModel", "isPut", "([IIIII)Z"⟩, 19), (⟨"CarvedWeeksModel", "isPerson", "(I)Z"⟩, 19), (⟨"CarvedWeeksModel", "isStone", "(I)Z"⟩, 19), (⟨"CarvedWeeksModel", "free", "(II)I"⟩, 19), (⟨"CarvedWeeksModel", "isMark", "(I)Z"⟩, 19), (⟨"CarvedWeeksModel", "worldOf", "(I)I"⟩, 19), (⟨"CarvedWeeksModel", "isSet", "(I)Z"⟩, 19), (⟨"CarvedWeeksModel", "known", "()V"⟩, 19), (⟨"CarvedWeeksModel", "copies", "(II)V"⟩, 19), (⟨"CarvedWeeksModel", "isFact", "(I)Z"⟩, 19), (⟨"CarvedWeeksModel", "costs", "(I)I"⟩, 19)]
theorem lw_r2 : ∀ q ∈ lw_privs_2, lw_okq q := List.forall_mem_cons.mpr ⟨lw_p16, List.forall_mem_cons.mpr ⟨lw_p17, List.forall_mem_cons.mpr ⟨lw_p18, List.forall_mem_cons.mpr ⟨lw_p19, List.forall_mem_cons.mpr ⟨lw_p20, List.forall_mem_cons.mpr ⟨lw_p21, List.forall_mem_cons.mpr ⟨lw_p22, List.forall_mem_cons.mpr ⟨lw_p23, List.forall_mem_cons.mpr ⟨lw_p24, List.forall_mem_cons.mpr ⟨lw_p25, List.forall_mem_cons.mpr ⟨lw_p26, List.forall_mem_cons.mpr ⟨lw_p27, List.forall_mem_cons.mpr ⟨lw_p28, List.forall_mem_cons.mpr ⟨lw_p29, List.forall_mem_cons.mpr ⟨lw_p30, List.forall_mem_cons.mpr ⟨lw_p31, fun _ h => absurd h List.not_mem_nil⟩⟩⟩⟩⟩⟩⟩⟩⟩⟩⟩⟩⟩⟩⟩⟩
theorem lw_p32 : lw_okq (⟨"CarvedWeeksModel", "trueOf", "(II)I"⟩, 19) := ⟨⟨by decide +kernel, by decide +kernel⟩, List.mem_of_getElem? (i := 662) (by decide +kernel), List.mem_of_getElem? (i := 866) (by decide +kernel), List.mem_of_getElem? (i := 867) (by decide +kernel)⟩
theorem lw_p33 : lw_okq (⟨"CarvedWeeksModel", "cuts", "(IIII)I"⟩, 19) := ⟨⟨by decide +kernel, by decide +kernel⟩, List.mem_of_getElem? (i := 662) (by decide +kernel), List.mem_of_getElem? (i := 870) (by decide +kernel), List.mem_of_getElem? (i := 871) (by decide +kernel)⟩
theorem lw_p34 : lw_okq (⟨"CarvedWeeksModel", "goes", "(II)V"⟩, 19) := ⟨⟨by decide +kernel, by decide +kernel⟩, List.mem_of_getElem? (i := 662) (by decide +kernel), List.mem_of_getElem? (i := 878) (by decide +kernel), List.mem_of_getElem? (i := 879) (by decide +kernel)⟩
theorem lw_p35 : lw_okq (⟨"CarvedWeeksModel", "rings", "(I)V"⟩, 19) := ⟨⟨by decide +kernel, by decide +kernel⟩, List.mem_of_getElem? (i := 662) (by decide +kernel), List.mem_of_getElem? (i := 886) (by decide +kernel), List.mem_of_getElem? (i := 887) (by decide +kernel)⟩
theorem lw_p36 : lw_okq (⟨"CarvedWeeksModel", "readBy", "(III)I"⟩, 19) := ⟨⟨by decide +kernel, by decide +kernel⟩, List.mem_of_getElem? (i := 662) (by decide +kernel), List.mem_of_getElem? (i := 902) (by decide +kernel), List.mem_of_getElem? (i := 903) (by decide +kernel)⟩
theorem lw_p37 : lw_okq (⟨"CarvedWeeksModel", "handsOf", "(IIII)I"⟩, 19) := ⟨⟨by decide +kernel, by decide +kernel⟩, List.mem_of_getElem? (i := 662) (by decide +kernel), List.mem_of_getElem? (i := 906) (by decide +kernel), List.mem_of_getElem? (i := 907) (by decide +kernel)⟩
theorem lw_p38 : lw_okq (⟨"CarvedWeeksModel", "knows", "(I)V"⟩, 19) := ⟨⟨by decide +kernel, by decide +kernel⟩, List.mem_of_getElem? (i := 662) (by decide +kernel), List.mem_of_getElem? (i := 910) (by decide +kernel), List.mem_of_getElem? (i := 911) (by decide +kernel)⟩
theorem lw_p39 : lw_okq (⟨"CarvedWeeksModel", "right", "(I)I"⟩, 19) := ⟨⟨by decide +kernel, by decide +kernel⟩, List.mem_of_getElem? (i := 662) (by decide +kernel), List.mem_of_getElem? (i := 917) (by decide +kernel), List.mem_of_getElem? (i := 918) (by decide +kernel)⟩
theorem lw_p40 : lw_okq (⟨"CarvedWeeksModel", "wrong", "(I)I"⟩, 19) := ⟨⟨by decide +kernel, by decide +kernel⟩, List.mem_of_getElem? (i := 662) (by decide +kernel), List.mem_of_getElem? (i := 921) (by decide +kernel), List.mem_of_getElem? (i := 922) (by decide +kernel)⟩
theorem lw_p41 : lw_okq (⟨"CarvedWeeksModel", "isSaying", "(I)Z"⟩, 19) := ⟨⟨by decide +kernel, by decide +kernel⟩, List.mem_of_getElem? (i := 662) (by decide +kernel), List.mem_of_getElem? (i := 929) (by decide +kernel), List.mem_of_getElem? (i := 930) (by decide +kernel)⟩
theorem lw_p42 : lw_okq (⟨"CarvedWeeksModel", "leastOf", "(I)I"⟩, 19) := ⟨⟨by decide +kernel, by decide +kernel⟩, List.mem_of_getElem? (i := 662) (by decide +kernel), List.mem_of_getElem? (i := 943) (by decide +kernel), List.mem_of_getElem? (i := 944) (by decide +kernel)⟩
theorem lw_p43 : lw_okq (⟨"CarvedWeeksModel", "sayings", "(I)I"⟩, 19) := ⟨⟨by decide +kernel, by decide +kernel⟩, List.mem_of_getElem? (i := 662) (by decide +kernel), List.mem_of_getElem? (i := 947) (by decide +kernel), List.mem_of_getElem? (i := 948) (by decide +kernel)⟩
theorem lw_p44 : lw_okq (⟨"CarvedWeeksModel", "lieOf", "(II)I"⟩, 19) := ⟨⟨by decide +kernel, by decide +kernel⟩, List.mem_of_getElem? (i := 662) (by decide +kernel), List.mem_of_getElem? (i := 959) (by decide +kernel), List.mem_of_getElem? (i := 960) (by decide +kernel)⟩
theorem lw_p45 : lw_okq (⟨"CarvedWeeksModel", "says", "(I)I"⟩, 19) := ⟨⟨by decide +kernel, by decide +kernel⟩, List.mem_of_getElem? (i := 662) (by decide +kernel), List.mem_of_getElem? (i := 971) (by decide +kernel), List.mem_of_getElem? (i := 972) (by decide +kernel)⟩
theorem lw_p46 : lw_okq (⟨"CarvedWeeksModel", "isKnown", "(I)Z"⟩, 19) := ⟨⟨by decide +kernel, by decide +kernel⟩, List.mem_of_getElem? (i := 662) (by decide +kernel), List.mem_of_getElem? (i := 983) (by decide +kernel), List.mem_of_getElem? (i := 984) (by decide +kernel)⟩
theorem lw_p47 : lw_okq (⟨"CarvedWeeksModel", "week", "(I)V"⟩, 19) := ⟨⟨by decide +kernel, by decide +kernel⟩, List.mem_of_getElem? (i := 662) (by decide +kernel), List.mem_of_getElem? (i := 1013) (by decide +kernel), List.mem_of_getElem? (i := 1014) (by decide +kernel)⟩
def lw_privs_3 : List (MethodName × Nat) := [(⟨"CarvedWeeksModel", "trueOf", "(II)I"⟩, 19), (⟨"CarvedWeeksModel", "cuts", "(IIII)I"⟩, 19), (⟨"CarvedWeeksModel", "goes", "(II)V"⟩, 19), (⟨"CarvedWeeksModel", "rings", "(I)V"⟩, 19), (⟨"CarvedWeeksModel", "readBy", "(III)I"⟩, 19), (⟨"CarvedWeeksModel", "handsOf", "(IIII)I"⟩, 19), (⟨"CarvedWeeksModel", "knows", "(I)V"⟩, 19), (⟨"CarvedWeeksModel", "right", "(I)I"⟩, 19), (⟨"CarvedWeeksModel", "wrong", "(I)I"⟩, 19), (⟨"CarvedWeeksModel", "isSaying", "(I)Z"⟩, 19), (⟨"CarvedWeeksModel", "leastOf", "(I)I"⟩, 19), (⟨"CarvedWeeksModel", "sayings", "(I)I"⟩, 19), (⟨"CarvedWeeksModel", "lieOf", "(II)I"⟩, 19), (⟨"CarvedWeeksModel", "says", "(I)I"⟩, 19), (⟨"CarvedWeeksModel", "isKnown", "(I)Z"⟩, 19), (⟨"CarvedWeeksModel", "week", "(I)V"⟩, 19)]
theorem lw_r3 : ∀ q ∈ lw_privs_3, lw_okq q := List.forall_mem_cons.mpr ⟨lw_p32, List.forall_mem_cons.mpr ⟨lw_p33, List.forall_mem_cons.mpr ⟨lw_p34, List.forall_mem_cons.mpr ⟨lw_p35, List.forall_mem_cons.mpr ⟨lw_p36, List.forall_mem_cons.mpr ⟨lw_p37, List.forall_mem_cons.mpr ⟨lw_p38, List.forall_mem_cons.mpr ⟨lw_p39, List.forall_mem_cons.mpr ⟨lw_p40, List.forall_mem_cons.mpr ⟨lw_p41, List.forall_mem_cons.mpr ⟨lw_p42, List.forall_mem_cons.mpr ⟨lw_p43, List.forall_mem_cons.mpr ⟨lw_p44, List.forall_mem_cons.mpr ⟨lw_p45, List.forall_mem_cons.mpr ⟨lw_p46, List.forall_mem_cons.mpr ⟨lw_p47, fun _ h => absurd h List.not_mem_nil⟩⟩⟩⟩⟩⟩⟩⟩⟩⟩⟩⟩⟩⟩⟩⟩
def lw_privs : List (MethodName × Nat) := lw_privs_1 ++ (lw_privs_2 ++ (lw_privs_3))
def lw_tbl : List Cond := k2_sels lw_privs ++ tables_1
theorem lw_privs_ok : ∀ q ∈ lw_privs, lw_okq q := by
  show ∀ q ∈ lw_privs_1 ++ (lw_privs_2 ++ (lw_privs_3)), lw_okq q
  exact List.forall_mem_append.mpr ⟨lw_r1, List.forall_mem_append.mpr ⟨lw_r2, lw_r3⟩⟩
-- ===== end of PART A; then your names; then what follows =====
end
section
def RX0 : String := "CarvedWeeks$Shelf"
def TX0 : u_T := fun k => match k with
  | 0 => ("CarvedWeeks$Shelf", "weeks", "[LCarvedWeeks$Week;", true)
  | 1 => ("CarvedWeeks$Shelf", "bottom", "I", false)
  | _ => ("CarvedWeeks$Shelf", "size", "I", false)
def tyX0 : Nat → FieldType := fun k => match k with
  | 0 => .array (.object "CarvedWeeks$Week")
  | 1 => .int
  | _ => .int
abbrev wsX00 : List Cond := u_ws RX0 TX0 3
theorem nmX0 : ∀ a, a < 3 → ∀ b, b < 3 → a ≠ b → (TX0 a).2.1 ≠ (TX0 b).2.1 := by decide +kernel
theorem tyX0_ok : ∀ k, k < 3 → parseFieldDescriptor (TX0 k).2.2.1 = some (tyX0 k) := by decide +kernel
abbrev cX0_init : ByteArray := prog_2_method_1_code
def yX0_init : MethodName := ⟨RX0, "<init>", "(I)V"⟩
abbrev cX0_size : ByteArray := prog_2_method_2_code
def yX0_size : MethodName := ⟨RX0, "size", "()I"⟩
abbrev cX0_isFull : ByteArray := prog_2_method_3_code
def yX0_isFull : MethodName := ⟨RX0, "isFull", "()Z"⟩
abbrev cX0_clear : ByteArray := prog_2_method_4_code
def yX0_clear : MethodName := ⟨RX0, "clear", "()V"⟩
abbrev cX0_push : ByteArray := prog_2_method_5_code
def yX0_push : MethodName := ⟨RX0, "push", "(LCarvedWeeks$Week;)V"⟩
abbrev cX0_pop : ByteArray := prog_2_method_6_code
def yX0_pop : MethodName := ⟨RX0, "pop", "(LCarvedWeeks$Week;)V"⟩
abbrev cX0_top : ByteArray := prog_2_method_7_code
def yX0_top : MethodName := ⟨RX0, "top", "()LCarvedWeeks$Week;"⟩
def RX1 : String := "CarvedWeeks$Table"
def TX1 : u_T := fun k => match k with
  | 0 => ("CarvedWeeks$Table", "most", "I", true)
  | 1 => ("CarvedWeeks$Table", "width", "I", true)
  | 2 => ("CarvedWeeks$Table", "cells", "[I", true)
  | _ => ("CarvedWeeks$Table", "size", "I", false)
def tyX1 : Nat → FieldType := fun k => match k with
  | 0 => .int
  | 1 => .int
  | 2 => .array .int
  | _ => .int
abbrev wsX10 : List Cond := u_ws RX1 TX1 4
theorem nmX1 : ∀ a, a < 4 → ∀ b, b < 4 → a ≠ b → (TX1 a).2.1 ≠ (TX1 b).2.1 := by decide +kernel
theorem tyX1_ok : ∀ k, k < 4 → parseFieldDescriptor (TX1 k).2.2.1 = some (tyX1 k) := by decide +kernel
abbrev cX1_init : ByteArray := prog_3_method_1_code
def yX1_init : MethodName := ⟨RX1, "<init>", "(II)V"⟩
abbrev cX1_size : ByteArray := prog_3_method_2_code
def yX1_size : MethodName := ⟨RX1, "size", "()I"⟩
abbrev cX1_isFull : ByteArray := prog_3_method_3_code
def yX1_isFull : MethodName := ⟨RX1, "isFull", "()Z"⟩
abbrev cX1_has : ByteArray := prog_3_method_4_code
def yX1_has : MethodName := ⟨RX1, "has", "(I)Z"⟩
abbrev cX1_clear : ByteArray := prog_3_method_5_code
def yX1_clear : MethodName := ⟨RX1, "clear", "()V"⟩
abbrev cX1_placeOf : ByteArray := prog_3_method_6_code
def yX1_placeOf : MethodName := ⟨RX1, "placeOf", "(II)I"⟩
abbrev cX1_get : ByteArray := prog_3_method_7_code
def yX1_get : MethodName := ⟨RX1, "get", "(II)I"⟩
abbrev cX1_set : ByteArray := prog_3_method_8_code
def yX1_set : MethodName := ⟨RX1, "set", "(III)V"⟩
abbrev cX1_add : ByteArray := prog_3_method_9_code
def yX1_add : MethodName := ⟨RX1, "add", "(III)Z"⟩
abbrev cX1_remove : ByteArray := prog_3_method_10_code
def yX1_remove : MethodName := ⟨RX1, "remove", "(I)V"⟩
abbrev cX1_copyFrom : ByteArray := prog_3_method_11_code
def yX1_copyFrom : MethodName := ⟨RX1, "copyFrom", "(LCarvedWeeks$Table;)V"⟩
abbrev cX1_copyRow : ByteArray := prog_3_method_12_code
def yX1_copyRow : MethodName := ⟨RX1, "copyRow", "(LCarvedWeeks$Table;II)V"⟩
def RX2 : String := "CarvedWeeks$Text"
def TX2 : u_T := fun k => match k with
  | 0 => ("CarvedWeeks$Text", "letters", "LCarvedWeeks$Table;", true)
  | 1 => ("CarvedWeeks$Text", "numbers", "LCarvedWeeks$Table;", true)
  | _ => ("CarvedWeeks$Text", "place", "I", false)
def tyX2 : Nat → FieldType := fun k => match k with
  | 0 => .object "CarvedWeeks$Table"
  | 1 => .object "CarvedWeeks$Table"
  | _ => .int
abbrev wsX20 : List Cond := u_ws RX2 TX2 3
theorem nmX2 : ∀ a, a < 3 → ∀ b, b < 3 → a ≠ b → (TX2 a).2.1 ≠ (TX2 b).2.1 := by decide +kernel
theorem tyX2_ok : ∀ k, k < 3 → parseFieldDescriptor (TX2 k).2.2.1 = some (tyX2 k) := by decide +kernel
abbrev cX2_init : ByteArray := prog_4_method_1_code
def yX2_init : MethodName := ⟨RX2, "<init>", "()V"⟩
abbrev cX2_readInto : ByteArray := prog_4_method_2_code
def yX2_readInto : MethodName := ⟨RX2, "readInto", "(LCarvedWeeks$Town;)I"⟩
abbrev cX2_readItem : ByteArray := prog_4_method_3_code
def yX2_readItem : MethodName := ⟨RX2, "readItem", "(LCarvedWeeks$Town;)Z"⟩
abbrev cX2_numbersOf : ByteArray := prog_4_method_4_code
def yX2_numbersOf : MethodName := ⟨RX2, "numbersOf", "(I)I"⟩
abbrev cX2_readNumber : ByteArray := prog_4_method_5_code
def yX2_readNumber : MethodName := ⟨RX2, "readNumber", "()I"⟩
abbrev cX2_tell : ByteArray := prog_4_method_6_code
def yX2_tell : MethodName := ⟨RX2, "tell", "(LCarvedWeeks$Town;IIII)Z"⟩
abbrev cX2_tellFacts : ByteArray := prog_4_method_7_code
def yX2_tellFacts : MethodName := ⟨RX2, "tellFacts", "(LCarvedWeeks$Town;I)Z"⟩
abbrev cX2_tellFirst : ByteArray := prog_4_method_8_code
def yX2_tellFirst : MethodName := ⟨RX2, "tellFirst", "(LCarvedWeeks$Town;I)Z"⟩
def RX3 : String := "CarvedWeeks$Town"
def TX3 : u_T := fun k => match k with
  | 0 => ("CarvedWeeks$Town", "laws", "LCarvedWeeks$Table;", true)
  | 1 => ("CarvedWeeks$Town", "persons", "LCarvedWeeks$Table;", true)
  | 2 => ("CarvedWeeks$Town", "stones", "LCarvedWeeks$Table;", true)
  | 3 => ("CarvedWeeks$Town", "bids", "LCarvedWeeks$Table;", true)
  | 4 => ("CarvedWeeks$Town", "worlds", "LCarvedWeeks$Table;", true)
  | 5 => ("CarvedWeeks$Town", "facts", "I", false)
  | 6 => ("CarvedWeeks$Town", "soAtFirst", "I", false)
  | _ => ("CarvedWeeks$Town", "factsSettled", "Z", false)
def tyX3 : Nat → FieldType := fun k => match k with
  | 0 => .object "CarvedWeeks$Table"
  | 1 => .object "CarvedWeeks$Table"
  | 2 => .object "CarvedWeeks$Table"
  | 3 => .object "CarvedWeeks$Table"
  | 4 => .object "CarvedWeeks$Table"
  | 5 => .int
  | 6 => .int
  | _ => .boolean
abbrev wsX30 : List Cond := u_ws RX3 TX3 8
theorem nmX3 : ∀ a, a < 8 → ∀ b, b < 8 → a ≠ b → (TX3 a).2.1 ≠ (TX3 b).2.1 := by decide +kernel
theorem tyX3_ok : ∀ k, k < 8 → parseFieldDescriptor (TX3 k).2.2.1 = some (tyX3 k) := by decide +kernel
abbrev cX3_init : ByteArray := prog_5_method_1_code
def yX3_init : MethodName := ⟨RX3, "<init>", "()V"⟩
abbrev cX3_clear : ByteArray := prog_5_method_2_code
def yX3_clear : MethodName := ⟨RX3, "clear", "()V"⟩
abbrev cX3_isFact : ByteArray := prog_5_method_3_code
def yX3_isFact : MethodName := ⟨RX3, "isFact", "(I)Z"⟩
abbrev cX3_isSaying : ByteArray := prog_5_method_4_code
def yX3_isSaying : MethodName := ⟨RX3, "isSaying", "(I)Z"⟩
abbrev cX3_isSet : ByteArray := prog_5_method_5_code
def yX3_isSet : MethodName := ⟨RX3, "isSet", "(I)Z"⟩
abbrev cX3_allFacts : ByteArray := prog_5_method_6_code
def yX3_allFacts : MethodName := ⟨RX3, "allFacts", "()I"⟩
abbrev cX3_isWorld : ByteArray := prog_5_method_7_code
def yX3_isWorld : MethodName := ⟨RX3, "isWorld", "(I)Z"⟩
abbrev cX3_findWorlds : ByteArray := prog_5_method_8_code
def yX3_findWorlds : MethodName := ⟨RX3, "findWorlds", "()V"⟩
abbrev cX3_sayingsIn : ByteArray := prog_5_method_9_code
def yX3_sayingsIn : MethodName := ⟨RX3, "sayingsIn", "(I)I"⟩
abbrev cX3_factsSaid : ByteArray := prog_5_method_10_code
def yX3_factsSaid : MethodName := ⟨RX3, "factsSaid", "(II)I"⟩
abbrev cX3_isPossible : ByteArray := prog_5_method_11_code
def yX3_isPossible : MethodName := ⟨RX3, "isPossible", "(I)Z"⟩
abbrev cX3_knownFrom : ByteArray := prog_5_method_12_code
def yX3_knownFrom : MethodName := ⟨RX3, "knownFrom", "(I)I"⟩
abbrev cX3_tells : ByteArray := prog_5_method_13_code
def yX3_tells : MethodName := ⟨RX3, "tells", "(III)Z"⟩
abbrev cX3_hoursAt : ByteArray := prog_5_method_14_code
def yX3_hoursAt : MethodName := ⟨RX3, "hoursAt", "(I)I"⟩
abbrev cX3_wearsOff : ByteArray := prog_5_method_15_code
def yX3_wearsOff : MethodName := ⟨RX3, "wearsOff", "(II)Z"⟩
abbrev cX3_highestBidBut : ByteArray := prog_5_method_16_code
def yX3_highestBidBut : MethodName := ⟨RX3, "highestBidBut", "(I)I"⟩
def RX4 : String := "CarvedWeeks$Week"
def TX4 : u_T := fun k => match k with
  | 0 => ("CarvedWeeks$Week", "marks", "LCarvedWeeks$Table;", true)
  | 1 => ("CarvedWeeks$Week", "hoursLeft", "LCarvedWeeks$Table;", true)
  | 2 => ("CarvedWeeks$Week", "truth", "I", false)
  | _ => ("CarvedWeeks$Week", "weeks", "I", false)
def tyX4 : Nat → FieldType := fun k => match k with
  | 0 => .object "CarvedWeeks$Table"
  | 1 => .object "CarvedWeeks$Table"
  | 2 => .int
  | _ => .int
abbrev wsX40 : List Cond := u_ws RX4 TX4 4
theorem nmX4 : ∀ a, a < 4 → ∀ b, b < 4 → a ≠ b → (TX4 a).2.1 ≠ (TX4 b).2.1 := by decide +kernel
theorem tyX4_ok : ∀ k, k < 4 → parseFieldDescriptor (TX4 k).2.2.1 = some (tyX4 k) := by decide +kernel
abbrev cX4_init : ByteArray := prog_6_method_1_code
def yX4_init : MethodName := ⟨RX4, "<init>", "()V"⟩
abbrev cX4_begin : ByteArray := prog_6_method_2_code
def yX4_begin : MethodName := ⟨RX4, "begin", "(LCarvedWeeks$Town;)V"⟩
abbrev cX4_copyFrom : ByteArray := prog_6_method_3_code
def yX4_copyFrom : MethodName := ⟨RX4, "copyFrom", "(LCarvedWeeks$Week;)V"⟩
abbrev cX4_restoreHours : ByteArray := prog_6_method_4_code
def yX4_restoreHours : MethodName := ⟨RX4, "restoreHours", "(LCarvedWeeks$Town;)V"⟩
abbrev cX4_spend : ByteArray := prog_6_method_5_code
def yX4_spend : MethodName := ⟨RX4, "spend", "(II)V"⟩
abbrev cX4_freeRoom : ByteArray := prog_6_method_6_code
def yX4_freeRoom : MethodName := ⟨RX4, "freeRoom", "(LCarvedWeeks$Town;I)I"⟩
abbrev cX4_ring : ByteArray := prog_6_method_7_code
def yX4_ring : MethodName := ⟨RX4, "ring", "(LCarvedWeeks$Town;)V"⟩
abbrev cX4_live : ByteArray := prog_6_method_8_code
def yX4_live : MethodName := ⟨RX4, "live", "(LCarvedWeeks$Town;I)V"⟩
abbrev cX4_lowestFreeStone : ByteArray := prog_6_method_9_code
def yX4_lowestFreeStone : MethodName := ⟨RX4, "lowestFreeStone", "(LCarvedWeeks$Town;)I"⟩
abbrev cX4_handsOf : ByteArray := prog_6_method_10_code
def yX4_handsOf : MethodName := ⟨RX4, "handsOf", "(LCarvedWeeks$Town;II)I"⟩
abbrev cX4_readBy : ByteArray := prog_6_method_11_code
def yX4_readBy : MethodName := ⟨RX4, "readBy", "(LCarvedWeeks$Town;I)I"⟩
abbrev cX4_carvedBut : ByteArray := prog_6_method_12_code
def yX4_carvedBut : MethodName := ⟨RX4, "carvedBut", "(I)I"⟩
abbrev cX4_sayingsOf : ByteArray := prog_6_method_13_code
def yX4_sayingsOf : MethodName := ⟨RX4, "sayingsOf", "(I)I"⟩
abbrev cX4_marksSoIn : ByteArray := prog_6_method_14_code
def yX4_marksSoIn : MethodName := ⟨RX4, "marksSoIn", "(I)I"⟩
abbrev cX4_weightOf : ByteArray := prog_6_method_15_code
def yX4_weightOf : MethodName := ⟨RX4, "weightOf", "(LCarvedWeeks$Town;I)J"⟩
def RX5 : String := "CarvedWeeks"
def TX5 : u_T := fun k => match k with
  | 0 => ("CarvedWeeks", "text", "LCarvedWeeks$Text;", true)
  | 1 => ("CarvedWeeks", "past", "LCarvedWeeks$Shelf;", true)
  | 2 => ("CarvedWeeks", "kept", "LCarvedWeeks$Shelf;", true)
  | 3 => ("CarvedWeeks", "now", "LCarvedWeeks$Week;", true)
  | 4 => ("CarvedWeeks", "dreamt", "LCarvedWeeks$Week;", true)
  | 5 => ("CarvedWeeks", "laid", "LCarvedWeeks$Town;", false)
  | _ => ("CarvedWeeks", "draft", "LCarvedWeeks$Town;", false)
def tyX5 : Nat → FieldType := fun k => match k with
  | 0 => .object "CarvedWeeks$Text"
  | 1 => .object "CarvedWeeks$Shelf"
  | 2 => .object "CarvedWeeks$Shelf"
  | 3 => .object "CarvedWeeks$Week"
  | 4 => .object "CarvedWeeks$Week"
  | 5 => .object "CarvedWeeks$Town"
  | _ => .object "CarvedWeeks$Town"
abbrev wsX50 : List Cond := u_ws RX5 TX5 7
theorem nmX5 : ∀ a, a < 7 → ∀ b, b < 7 → a ≠ b → (TX5 a).2.1 ≠ (TX5 b).2.1 := by decide +kernel
theorem tyX5_ok : ∀ k, k < 7 → parseFieldDescriptor (TX5 k).2.2.1 = some (tyX5 k) := by decide +kernel
abbrev cX5_init : ByteArray := prog_1_method_1_code
def yX5_init : MethodName := ⟨RX5, "<init>", "()V"⟩
abbrev cX5_write : ByteArray := prog_1_method_2_code
def yX5_write : MethodName := ⟨RX5, "write", "(I)I"⟩
abbrev cX5_wipe : ByteArray := prog_1_method_3_code
def yX5_wipe : MethodName := ⟨RX5, "wipe", "()I"⟩
abbrev cX5_fault : ByteArray := prog_1_method_4_code
def yX5_fault : MethodName := ⟨RX5, "fault", "()I"⟩
abbrev cX5_lay : ByteArray := prog_1_method_5_code
def yX5_lay : MethodName := ⟨RX5, "lay", "()I"⟩
abbrev cX5_law : ByteArray := prog_1_method_6_code
def yX5_law : MethodName := ⟨RX5, "law", "(II)I"⟩
abbrev cX5_person : ByteArray := prog_1_method_7_code
def yX5_person : MethodName := ⟨RX5, "person", "(II)I"⟩
abbrev cX5_stone : ByteArray := prog_1_method_8_code
def yX5_stone : MethodName := ⟨RX5, "stone", "(II)I"⟩
abbrev cX5_mark : ByteArray := prog_1_method_9_code
def yX5_mark : MethodName := ⟨RX5, "mark", "(II)I"⟩
abbrev cX5_world : ByteArray := prog_1_method_10_code
def yX5_world : MethodName := ⟨RX5, "world", "(I)I"⟩
abbrev cX5_deed : ByteArray := prog_1_method_11_code
def yX5_deed : MethodName := ⟨RX5, "deed", "(I)I"⟩
abbrev cX5_carve : ByteArray := prog_1_method_12_code
def yX5_carve : MethodName := ⟨RX5, "carve", "(IIIZ)I"⟩
abbrev cX5_chisel : ByteArray := prog_1_method_13_code
def yX5_chisel : MethodName := ⟨RX5, "chisel", "(II)I"⟩
abbrev cX5_bell : ByteArray := prog_1_method_14_code
def yX5_bell : MethodName := ⟨RX5, "bell", "()I"⟩
abbrev cX5_undo : ByteArray := prog_1_method_15_code
def yX5_undo : MethodName := ⟨RX5, "undo", "()I"⟩
abbrev cX5_known : ByteArray := prog_1_method_16_code
def yX5_known : MethodName := ⟨RX5, "known", "(II)I"⟩
abbrev cX5_hands : ByteArray := prog_1_method_17_code
def yX5_hands : MethodName := ⟨RX5, "hands", "(I)I"⟩
abbrev cX5_belief : ByteArray := prog_1_method_18_code
def yX5_belief : MethodName := ⟨RX5, "belief", "(II)J"⟩
abbrev cX5_least : ByteArray := prog_1_method_19_code
def yX5_least : MethodName := ⟨RX5, "least", "(I)I"⟩
abbrev cX5_soonest : ByteArray := prog_1_method_20_code
def yX5_soonest : MethodName := ⟨RX5, "soonest", "(I)I"⟩
abbrev cX5_lie : ByteArray := prog_1_method_21_code
def yX5_lie : MethodName := ⟨RX5, "lie", "(III)I"⟩
abbrev cX5_safe : ByteArray := prog_1_method_22_code
def yX5_safe : MethodName := ⟨RX5, "safe", "(I)I"⟩
abbrev cX5_clash : ByteArray := prog_1_method_23_code
def yX5_clash : MethodName := ⟨RX5, "clash", "()I"⟩
abbrev cX5_stand : ByteArray := prog_1_method_24_code
def yX5_stand : MethodName := ⟨RX5, "stand", "(I)I"⟩
abbrev cX5_was : ByteArray := prog_1_method_25_code
def yX5_was : MethodName := ⟨RX5, "was", "(I)I"⟩
abbrev cX5_missed : ByteArray := prog_1_method_26_code
def yX5_missed : MethodName := ⟨RX5, "missed", "()I"⟩
abbrev cX5_sale : ByteArray := prog_1_method_27_code
def yX5_sale : MethodName := ⟨RX5, "sale", "(II)I"⟩
abbrev cX5_worth : ByteArray := prog_1_method_28_code
def yX5_worth : MethodName := ⟨RX5, "worth", "()I"⟩
abbrev cX5_two : ByteArray := prog_1_method_29_code
def yX5_two : MethodName := ⟨RX5, "two", "(II)I"⟩
abbrev cX5_year : ByteArray := prog_1_method_30_code
def yX5_year : MethodName := ⟨RX5, "year", "(III)I"⟩
abbrev cX5_keep : ByteArray := prog_1_method_31_code
def yX5_keep : MethodName := ⟨RX5, "keep", "()I"⟩
abbrev cX5_back : ByteArray := prog_1_method_32_code
def yX5_back : MethodName := ⟨RX5, "back", "()I"⟩
abbrev cX5_count : ByteArray := prog_1_method_33_code
def yX5_count : MethodName := ⟨RX5, "count", "(I)I"⟩
abbrev cX5_isRule : ByteArray := prog_1_method_34_code
def yX5_isRule : MethodName := ⟨RX5, "isRule", "(I)Z"⟩
abbrev cX5_isSo : ByteArray := prog_1_method_35_code
def yX5_isSo : MethodName := ⟨RX5, "isSo", "(II)Z"⟩
abbrev cX5_trueSaying : ByteArray := prog_1_method_36_code
def yX5_trueSaying : MethodName := ⟨RX5, "trueSaying", "(II)I"⟩
abbrev cX5_opposite : ByteArray := prog_1_method_37_code
def yX5_opposite : MethodName := ⟨RX5, "opposite", "(I)I"⟩
abbrev cX5_commonDivisor : ByteArray := prog_1_method_38_code
def yX5_commonDivisor : MethodName := ⟨RX5, "commonDivisor", "(JJ)J"⟩
abbrev cX5_draw : ByteArray := prog_1_method_39_code
def yX5_draw : MethodName := ⟨RX5, "draw", "(II)I"⟩
abbrev cX5_rightFrom : ByteArray := prog_1_method_40_code
def yX5_rightFrom : MethodName := ⟨RX5, "rightFrom", "(I)I"⟩
abbrev cX5_wrongFrom : ByteArray := prog_1_method_41_code
def yX5_wrongFrom : MethodName := ⟨RX5, "wrongFrom", "(LCarvedWeeks$Week;I)I"⟩
abbrev cX5_leastFor : ByteArray := prog_1_method_42_code
def yX5_leastFor : MethodName := ⟨RX5, "leastFor", "(I)I"⟩
abbrev cX5_bestLie : ByteArray := prog_1_method_43_code
def yX5_bestLie : MethodName := ⟨RX5, "bestLie", "(II)I"⟩
abbrev cX5_wrongByLie : ByteArray := prog_1_method_44_code
def yX5_wrongByLie : MethodName := ⟨RX5, "wrongByLie", "(IIII)I"⟩
abbrev cX5_standingSets : ByteArray := prog_1_method_45_code
def yX5_standingSets : MethodName := ⟨RX5, "standingSets", "(I)I"⟩
abbrev cX5_stoodBefore : ByteArray := prog_1_method_46_code
def yX5_stoodBefore : MethodName := ⟨RX5, "stoodBefore", "(II)Z"⟩
def RX6 : String := "CarvedWeeksModel"
def TX6 : u_T := fun k => match k with
  | 0 => ("CarvedWeeksModel", "length", "I", false)
  | 1 => ("CarvedWeeksModel", "text", "[B", true)
  | 2 => ("CarvedWeeksModel", "at", "I", false)
  | 3 => ("CarvedWeeksModel", "told", "[I", true)
  | 4 => ("CarvedWeeksModel", "laws", "[I", true)
  | 5 => ("CarvedWeeksModel", "persons", "[I", true)
  | 6 => ("CarvedWeeksModel", "stones", "[I", true)
  | 7 => ("CarvedWeeksModel", "bids", "[I", true)
  | 8 => ("CarvedWeeksModel", "isWorld", "[Z", true)
  | 9 => ("CarvedWeeksModel", "worlds", "I", false)
  | 10 => ("CarvedWeeksModel", "slot", "[I", true)
  | 11 => ("CarvedWeeksModel", "kept", "I", false)
  | 12 => ("CarvedWeeksModel", "done", "I", false)
  | 13 => ("CarvedWeeksModel", "isAny", "Z", false)
  | 14 => ("CarvedWeeksModel", "allSo", "I", false)
  | 15 => ("CarvedWeeksModel", "noneSo", "I", false)
  | 16 => ("CarvedWeeksModel", "got", "[I", true)
  | 17 => ("CarvedWeeksModel", "gets", "[I", true)
  | _ => ("CarvedWeeksModel", "lied", "I", false)
def tyX6 : Nat → FieldType := fun k => match k with
  | 0 => .int
  | 1 => .array .byte
  | 2 => .int
  | 3 => .array .int
  | 4 => .array .int
  | 5 => .array .int
  | 6 => .array .int
  | 7 => .array .int
  | 8 => .array .boolean
  | 9 => .int
  | 10 => .array .int
  | 11 => .int
  | 12 => .int
  | 13 => .boolean
  | 14 => .int
  | 15 => .int
  | 16 => .array .int
  | 17 => .array .int
  | _ => .int
abbrev wsX60 : List Cond := u_ws RX6 TX6 19
theorem nmX6 : ∀ a, a < 19 → ∀ b, b < 19 → a ≠ b → (TX6 a).2.1 ≠ (TX6 b).2.1 := by decide +kernel
theorem tyX6_ok : ∀ k, k < 19 → parseFieldDescriptor (TX6 k).2.2.1 = some (tyX6 k) := by decide +kernel
abbrev cX6_init : ByteArray := prog_8_method_1_code
def yX6_init : MethodName := ⟨RX6, "<init>", "()V"⟩
abbrev cX6_in : ByteArray := prog_8_method_2_code
def yX6_in : MethodName := ⟨RX6, "in", "(JJJ)Z"⟩
abbrev cX6_many : ByteArray := prog_8_method_3_code
def yX6_many : MethodName := ⟨RX6, "many", "(I)I"⟩
abbrev cX6_write : ByteArray := prog_8_method_4_code
def yX6_write : MethodName := ⟨RX6, "write", "(I)I"⟩
abbrev cX6_wipe : ByteArray := prog_8_method_5_code
def yX6_wipe : MethodName := ⟨RX6, "wipe", "()I"⟩
abbrev cX6_number : ByteArray := prog_8_method_6_code
def yX6_number : MethodName := ⟨RX6, "number", "()I"⟩
abbrev cX6_numbers : ByteArray := prog_8_method_7_code
def yX6_numbers : MethodName := ⟨RX6, "numbers", "(I)I"⟩
abbrev cX6_isItem : ByteArray := prog_8_method_8_code
def yX6_isItem : MethodName := ⟨RX6, "isItem", "()Z"⟩
abbrev cX6_isGood : ByteArray := prog_8_method_9_code
def yX6_isGood : MethodName := ⟨RX6, "isGood", "(I)Z"⟩
abbrev cX6_isPut : ByteArray := prog_8_method_10_code
def yX6_isPut : MethodName := ⟨RX6, "isPut", "([IIIII)Z"⟩
abbrev cX6_begins : ByteArray := prog_8_method_11_code
def yX6_begins : MethodName := ⟨RX6, "begins", "()V"⟩
abbrev cX6_isSo : ByteArray := prog_8_method_12_code
def yX6_isSo : MethodName := ⟨RX6, "isSo", "(II)Z"⟩
abbrev cX6_isLawful : ByteArray := prog_8_method_13_code
def yX6_isLawful : MethodName := ⟨RX6, "isLawful", "(III)Z"⟩
abbrev cX6_takes : ByteArray := prog_8_method_14_code
def yX6_takes : MethodName := ⟨RX6, "takes", "()V"⟩
abbrev cX6_rests : ByteArray := prog_8_method_15_code
def yX6_rests : MethodName := ⟨RX6, "rests", "(I)V"⟩
abbrev cX6_fault : ByteArray := prog_8_method_16_code
def yX6_fault : MethodName := ⟨RX6, "fault", "()I"⟩
abbrev cX6_lay : ByteArray := prog_8_method_17_code
def yX6_lay : MethodName := ⟨RX6, "lay", "()I"⟩
abbrev cX6_isFact : ByteArray := prog_8_method_18_code
def yX6_isFact : MethodName := ⟨RX6, "isFact", "(I)Z"⟩
abbrev cX6_isSaying : ByteArray := prog_8_method_19_code
def yX6_isSaying : MethodName := ⟨RX6, "isSaying", "(I)Z"⟩
abbrev cX6_isPerson : ByteArray := prog_8_method_20_code
def yX6_isPerson : MethodName := ⟨RX6, "isPerson", "(I)Z"⟩
abbrev cX6_isStone : ByteArray := prog_8_method_21_code
def yX6_isStone : MethodName := ⟨RX6, "isStone", "(I)Z"⟩
abbrev cX6_isMark : ByteArray := prog_8_method_22_code
def yX6_isMark : MethodName := ⟨RX6, "isMark", "(I)Z"⟩
abbrev cX6_isSet : ByteArray := prog_8_method_23_code
def yX6_isSet : MethodName := ⟨RX6, "isSet", "(I)Z"⟩
abbrev cX6_isRule : ByteArray := prog_8_method_24_code
def yX6_isRule : MethodName := ⟨RX6, "isRule", "(I)Z"⟩
abbrev cX6_free : ByteArray := prog_8_method_25_code
def yX6_free : MethodName := ⟨RX6, "free", "(II)I"⟩
abbrev cX6_costs : ByteArray := prog_8_method_26_code
def yX6_costs : MethodName := ⟨RX6, "costs", "(I)I"⟩
abbrev cX6_trueOf : ByteArray := prog_8_method_27_code
def yX6_trueOf : MethodName := ⟨RX6, "trueOf", "(II)I"⟩
abbrev cX6_law : ByteArray := prog_8_method_28_code
def yX6_law : MethodName := ⟨RX6, "law", "(II)I"⟩
abbrev cX6_person : ByteArray := prog_8_method_29_code
def yX6_person : MethodName := ⟨RX6, "person", "(II)I"⟩
abbrev cX6_stone : ByteArray := prog_8_method_30_code
def yX6_stone : MethodName := ⟨RX6, "stone", "(II)I"⟩
abbrev cX6_mark : ByteArray := prog_8_method_31_code
def yX6_mark : MethodName := ⟨RX6, "mark", "(II)I"⟩
abbrev cX6_worldOf : ByteArray := prog_8_method_32_code
def yX6_worldOf : MethodName := ⟨RX6, "worldOf", "(I)I"⟩
abbrev cX6_world : ByteArray := prog_8_method_33_code
def yX6_world : MethodName := ⟨RX6, "world", "(I)I"⟩
abbrev cX6_copies : ByteArray := prog_8_method_34_code
def yX6_copies : MethodName := ⟨RX6, "copies", "(II)V"⟩
abbrev cX6_known : ByteArray := prog_8_method_35_code
def yX6_known : MethodName := ⟨RX6, "known", "()V"⟩
abbrev cX6_deed : ByteArray := prog_8_method_36_code
def yX6_deed : MethodName := ⟨RX6, "deed", "(I)I"⟩
abbrev cX6_cuts : ByteArray := prog_8_method_37_code
def yX6_cuts : MethodName := ⟨RX6, "cuts", "(IIII)I"⟩
abbrev cX6_goes : ByteArray := prog_8_method_38_code
def yX6_goes : MethodName := ⟨RX6, "goes", "(II)V"⟩
abbrev cX6_carve : ByteArray := prog_8_method_39_code
def yX6_carve : MethodName := ⟨RX6, "carve", "(IIIZ)I"⟩
abbrev cX6_chisel : ByteArray := prog_8_method_40_code
def yX6_chisel : MethodName := ⟨RX6, "chisel", "(II)I"⟩
abbrev cX6_rings : ByteArray := prog_8_method_41_code
def yX6_rings : MethodName := ⟨RX6, "rings", "(I)V"⟩
abbrev cX6_bell : ByteArray := prog_8_method_42_code
def yX6_bell : MethodName := ⟨RX6, "bell", "()I"⟩
abbrev cX6_undo : ByteArray := prog_8_method_43_code
def yX6_undo : MethodName := ⟨RX6, "undo", "()I"⟩
abbrev cX6_handsOf : ByteArray := prog_8_method_44_code
def yX6_handsOf : MethodName := ⟨RX6, "handsOf", "(IIII)I"⟩
abbrev cX6_readBy : ByteArray := prog_8_method_45_code
def yX6_readBy : MethodName := ⟨RX6, "readBy", "(III)I"⟩
abbrev cX6_areSo : ByteArray := prog_8_method_46_code
def yX6_areSo : MethodName := ⟨RX6, "areSo", "(II)Z"⟩
abbrev cX6_knows : ByteArray := prog_8_method_47_code
def yX6_knows : MethodName := ⟨RX6, "knows", "(I)V"⟩
abbrev cX6_right : ByteArray := prog_8_method_48_code
def yX6_right : MethodName := ⟨RX6, "right", "(I)I"⟩
abbrev cX6_wrong : ByteArray := prog_8_method_49_code
def yX6_wrong : MethodName := ⟨RX6, "wrong", "(I)I"⟩
abbrev cX6_known_ : ByteArray := prog_8_method_50_code
def yX6_known_ : MethodName := ⟨RX6, "known", "(II)I"⟩
abbrev cX6_hands : ByteArray := prog_8_method_51_code
def yX6_hands : MethodName := ⟨RX6, "hands", "(I)I"⟩
abbrev cX6_belief : ByteArray := prog_8_method_52_code
def yX6_belief : MethodName := ⟨RX6, "belief", "(II)J"⟩
abbrev cX6_sayings : ByteArray := prog_8_method_53_code
def yX6_sayings : MethodName := ⟨RX6, "sayings", "(I)I"⟩
abbrev cX6_leastOf : ByteArray := prog_8_method_54_code
def yX6_leastOf : MethodName := ⟨RX6, "leastOf", "(I)I"⟩
abbrev cX6_least : ByteArray := prog_8_method_55_code
def yX6_least : MethodName := ⟨RX6, "least", "(I)I"⟩
abbrev cX6_soonest : ByteArray := prog_8_method_56_code
def yX6_soonest : MethodName := ⟨RX6, "soonest", "(I)I"⟩
abbrev cX6_lieOf : ByteArray := prog_8_method_57_code
def yX6_lieOf : MethodName := ⟨RX6, "lieOf", "(II)I"⟩
abbrev cX6_lie : ByteArray := prog_8_method_58_code
def yX6_lie : MethodName := ⟨RX6, "lie", "(III)I"⟩
abbrev cX6_safe : ByteArray := prog_8_method_59_code
def yX6_safe : MethodName := ⟨RX6, "safe", "(I)I"⟩
abbrev cX6_says : ByteArray := prog_8_method_60_code
def yX6_says : MethodName := ⟨RX6, "says", "(I)I"⟩
abbrev cX6_clash : ByteArray := prog_8_method_61_code
def yX6_clash : MethodName := ⟨RX6, "clash", "()I"⟩
abbrev cX6_stand : ByteArray := prog_8_method_62_code
def yX6_stand : MethodName := ⟨RX6, "stand", "(I)I"⟩
abbrev cX6_isKnown : ByteArray := prog_8_method_63_code
def yX6_isKnown : MethodName := ⟨RX6, "isKnown", "(I)Z"⟩
abbrev cX6_was : ByteArray := prog_8_method_64_code
def yX6_was : MethodName := ⟨RX6, "was", "(I)I"⟩
abbrev cX6_missed : ByteArray := prog_8_method_65_code
def yX6_missed : MethodName := ⟨RX6, "missed", "()I"⟩
abbrev cX6_sale : ByteArray := prog_8_method_66_code
def yX6_sale : MethodName := ⟨RX6, "sale", "(II)I"⟩
abbrev cX6_worth : ByteArray := prog_8_method_67_code
def yX6_worth : MethodName := ⟨RX6, "worth", "()I"⟩
abbrev cX6_two : ByteArray := prog_8_method_68_code
def yX6_two : MethodName := ⟨RX6, "two", "(II)I"⟩
abbrev cX6_week : ByteArray := prog_8_method_69_code
def yX6_week : MethodName := ⟨RX6, "week", "(I)V"⟩
abbrev cX6_year : ByteArray := prog_8_method_70_code
def yX6_year : MethodName := ⟨RX6, "year", "(III)I"⟩
abbrev cX6_keep : ByteArray := prog_8_method_71_code
def yX6_keep : MethodName := ⟨RX6, "keep", "()I"⟩
abbrev cX6_back : ByteArray := prog_8_method_72_code
def yX6_back : MethodName := ⟨RX6, "back", "()I"⟩
abbrev cX6_count : ByteArray := prog_8_method_73_code
def yX6_count : MethodName := ⟨RX6, "count", "(I)I"⟩
def RJ6 : String := "java/lang/Integer"
def TJ6 : u_T := fun k => match k with
  | _ => ("", "", "", false)
abbrev cJ6_bitCount_0f7a4 : ByteArray := prog_9_method_49_code
def yJ6_bitCount_0f7a4 : MethodName := ⟨RJ6, "bitCount", "(I)I"⟩
def RJ9 : String := "java/lang/Math"
def TJ9 : u_T := fun k => match k with
  | _ => ("", "", "", false)
abbrev cJ9_max_7cf53 : ByteArray := prog_10_method_65_code
def yJ9_max_7cf53 : MethodName := ⟨RJ9, "max", "(II)I"⟩
abbrev cJ9_min_7cf53 : ByteArray := prog_10_method_69_code
def yJ9_min_7cf53 : MethodName := ⟨RJ9, "min", "(II)I"⟩
def RJ0 : String := "java/lang/String"
def TJ0 : u_T := fun k => match k with
  | _ => ("", "", "", false)
abbrev cJ0_length_8abf5 : ByteArray := prog_11_method_54_code
def yJ0_length_8abf5 : MethodName := ⟨RJ0, "length", "()I"⟩
abbrev cJ0_charAt_5068e : ByteArray := prog_11_method_56_code
def yJ0_charAt_5068e : MethodName := ⟨RJ0, "charAt", "(I)C"⟩
abbrev cJ0_coder_7d493 : ByteArray := prog_11_method_152_code
def yJ0_coder_7d493 : MethodName := ⟨RJ0, "coder", "()B"⟩
abbrev cJ0_isLatin1_aae02 : ByteArray := prog_11_method_154_code
def yJ0_isLatin1_aae02 : MethodName := ⟨RJ0, "isLatin1", "()Z"⟩
abbrev cJ0_checkIndex_df160 : ByteArray := prog_11_method_155_code
def yJ0_checkIndex_df160 : MethodName := ⟨RJ0, "checkIndex", "(II)V"⟩
def RJ1 : String := "java/lang/StringLatin1"
def TJ1 : u_T := fun k => match k with
  | _ => ("", "", "", false)
abbrev cJ1_charAt_3b067 : ByteArray := prog_12_method_2_code
def yJ1_charAt_3b067 : MethodName := ⟨RJ1, "charAt", "([BI)C"⟩
def RJ2 : String := "java/lang/StringUTF16"
def TJ2 : u_T := fun k => match k with
  | _ => ("", "", "", false)
abbrev cJ2_getChar_3b067 : ByteArray := prog_13_method_5_code
def yJ2_getChar_3b067 : MethodName := ⟨RJ2, "getChar", "([BI)C"⟩
abbrev cJ2_length_9d52b : ByteArray := prog_13_method_6_code
def yJ2_length_9d52b : MethodName := ⟨RJ2, "length", "([B)I"⟩
abbrev cJ2_charAt_3b067 : ByteArray := prog_13_method_83_code
def yJ2_charAt_3b067 : MethodName := ⟨RJ2, "charAt", "([BI)C"⟩
abbrev cJ2_checkIndex_2214a : ByteArray := prog_13_method_91_code
def yJ2_checkIndex_2214a : MethodName := ⟨RJ2, "checkIndex", "(I[B)V"⟩
def RJ3 : String := "jdk/internal/util/Preconditions"
def TJ3 : u_T := fun k => match k with
  | _ => ("", "", "", false)
abbrev cJ3_checkIndex_8e157 : ByteArray := prog_14_method_11_code
def yJ3_checkIndex_8e157 : MethodName := ⟨RJ3, "checkIndex", "(IILjava/util/function/BiFunction;)I"⟩
def RL : String := "CarvedWeeksLaw"
abbrev cL_law : ByteArray := code
def yL_law : MethodName := ⟨RL, "law", "([I)Z"⟩
theorem dX0_init_0 : decode cX0_init 0 = .ok (.aload_n 0, 1) := by decide +kernel
theorem dX0_init_1 : decode cX0_init 1 = .ok (.invokespecial 1, 3) := by decide +kernel
theorem dX0_init_4 : decode cX0_init 4 = .ok (.aload_n 0, 1) := by decide +kernel
theorem dX0_init_5 : decode cX0_init 5 = .ok (.iload_n 1, 1) := by decide +kernel
theorem dX0_init_6 : decode cX0_init 6 = .ok (.ifCond .le 7, 3) := by decide +kernel
theorem dX0_init_9 : decode cX0_init 9 = .ok (.iload_n 1, 1) := by decide +kernel
theorem dX0_init_10 : decode cX0_init 10 = .ok (.goto 4, 3) := by decide +kernel
theorem dX0_init_13 : decode cX0_init 13 = .ok (.iconst 0, 1) := by decide +kernel
theorem dX0_init_14 : decode cX0_init 14 = .ok (.anewarray 7, 3) := by decide +kernel
theorem dX0_init_17 : decode cX0_init 17 = .ok (.putfield 9, 3) := by decide +kernel
theorem dX0_init_20 : decode cX0_init 20 = .ok (.iconst 0, 1) := by decide +kernel
theorem dX0_init_21 : decode cX0_init 21 = .ok (.istore_n 2, 1) := by decide +kernel
theorem dX0_init_22 : decode cX0_init 22 = .ok (.iload_n 2, 1) := by decide +kernel
theorem dX0_init_23 : decode cX0_init 23 = .ok (.aload_n 0, 1) := by decide +kernel
theorem dX0_init_24 : decode cX0_init 24 = .ok (.getfield 9, 3) := by decide +kernel
theorem dX0_init_27 : decode cX0_init 27 = .ok (.arraylength, 1) := by decide +kernel
theorem dX0_init_28 : decode cX0_init 28 = .ok (.if_icmp .ge 22, 3) := by decide +kernel
theorem dX0_init_31 : decode cX0_init 31 = .ok (.aload_n 0, 1) := by decide +kernel
theorem dX0_init_32 : decode cX0_init 32 = .ok (.getfield 9, 3) := by decide +kernel
theorem dX0_init_35 : decode cX0_init 35 = .ok (.iload_n 2, 1) := by decide +kernel
theorem dX0_init_36 : decode cX0_init 36 = .ok (.new 7, 3) := by decide +kernel
theorem dX0_init_39 : decode cX0_init 39 = .ok (.dup, 1) := by decide +kernel
theorem dX0_init_40 : decode cX0_init 40 = .ok (.invokespecial 15, 3) := by decide +kernel
theorem dX0_init_43 : decode cX0_init 43 = .ok (.aastore, 1) := by decide +kernel
theorem dX0_init_44 : decode cX0_init 44 = .ok (.iinc 2 1, 3) := by decide +kernel
theorem dX0_init_47 : decode cX0_init 47 = .ok (.goto (-25), 3) := by decide +kernel
theorem dX0_init_50 : decode cX0_init 50 = .ok (.return_, 1) := by decide +kernel
theorem dX0_size_0 : decode cX0_size 0 = .ok (.aload_n 0, 1) := by decide +kernel
theorem dX0_size_1 : decode cX0_size 1 = .ok (.getfield 16, 3) := by decide +kernel
theorem dX0_size_4 : decode cX0_size 4 = .ok (.ireturn, 1) := by decide +kernel
theorem dX0_isFull_0 : decode cX0_isFull 0 = .ok (.aload_n 0, 1) := by decide +kernel
theorem dX0_isFull_1 : decode cX0_isFull 1 = .ok (.getfield 16, 3) := by decide +kernel
theorem dX0_isFull_4 : decode cX0_isFull 4 = .ok (.aload_n 0, 1) := by decide +kernel
theorem dX0_isFull_5 : decode cX0_isFull 5 = .ok (.getfield 9, 3) := by decide +kernel
theorem dX0_isFull_8 : decode cX0_isFull 8 = .ok (.arraylength, 1) := by decide +kernel
theorem dX0_isFull_9 : decode cX0_isFull 9 = .ok (.if_icmp .lt 7, 3) := by decide +kernel
theorem dX0_isFull_12 : decode cX0_isFull 12 = .ok (.iconst 1, 1) := by decide +kernel
theorem dX0_isFull_13 : decode cX0_isFull 13 = .ok (.goto 4, 3) := by decide +kernel
theorem dX0_isFull_16 : decode cX0_isFull 16 = .ok (.iconst 0, 1) := by decide +kernel
theorem dX0_isFull_17 : decode cX0_isFull 17 = .ok (.ireturn, 1) := by decide +kernel
theorem dX0_clear_0 : decode cX0_clear 0 = .ok (.aload_n 0, 1) := by decide +kernel
theorem dX0_clear_1 : decode cX0_clear 1 = .ok (.iconst 0, 1) := by decide +kernel
theorem dX0_clear_2 : decode cX0_clear 2 = .ok (.putfield 16, 3) := by decide +kernel
theorem dX0_clear_5 : decode cX0_clear 5 = .ok (.return_, 1) := by decide +kernel
theorem dX0_push_0 : decode cX0_push 0 = .ok (.aload_n 0, 1) := by decide +kernel
theorem dX0_push_1 : decode cX0_push 1 = .ok (.invokevirtual 20, 3) := by decide +kernel
theorem dX0_push_4 : decode cX0_push 4 = .ok (.ifCond .eq 41, 3) := by decide +kernel
theorem dX0_push_7 : decode cX0_push 7 = .ok (.aload_n 0, 1) := by decide +kernel
theorem dX0_push_8 : decode cX0_push 8 = .ok (.aload_n 0, 1) := by decide +kernel
theorem dX0_push_9 : decode cX0_push 9 = .ok (.getfield 24, 3) := by decide +kernel
theorem dX0_push_12 : decode cX0_push 12 = .ok (.iconst 1, 1) := by decide +kernel
theorem dX0_push_13 : decode cX0_push 13 = .ok (.iadd, 1) := by decide +kernel
theorem dX0_push_14 : decode cX0_push 14 = .ok (.aload_n 0, 1) := by decide +kernel
theorem dX0_push_15 : decode cX0_push 15 = .ok (.getfield 9, 3) := by decide +kernel
theorem dX0_push_18 : decode cX0_push 18 = .ok (.arraylength, 1) := by decide +kernel
theorem dX0_push_19 : decode cX0_push 19 = .ok (.if_icmp .ge 12, 3) := by decide +kernel
theorem dX0_push_22 : decode cX0_push 22 = .ok (.aload_n 0, 1) := by decide +kernel
theorem dX0_push_23 : decode cX0_push 23 = .ok (.getfield 24, 3) := by decide +kernel
theorem dX0_push_26 : decode cX0_push 26 = .ok (.iconst 1, 1) := by decide +kernel
theorem dX0_push_27 : decode cX0_push 27 = .ok (.iadd, 1) := by decide +kernel
theorem dX0_push_28 : decode cX0_push 28 = .ok (.goto 4, 3) := by decide +kernel
theorem dX0_push_31 : decode cX0_push 31 = .ok (.iconst 0, 1) := by decide +kernel
theorem dX0_push_32 : decode cX0_push 32 = .ok (.putfield 24, 3) := by decide +kernel
theorem dX0_push_35 : decode cX0_push 35 = .ok (.aload_n 0, 1) := by decide +kernel
theorem dX0_push_36 : decode cX0_push 36 = .ok (.dup, 1) := by decide +kernel
theorem dX0_push_37 : decode cX0_push 37 = .ok (.getfield 16, 3) := by decide +kernel
theorem dX0_push_40 : decode cX0_push 40 = .ok (.iconst 1, 1) := by decide +kernel
theorem dX0_push_41 : decode cX0_push 41 = .ok (.isub, 1) := by decide +kernel
theorem dX0_push_42 : decode cX0_push 42 = .ok (.putfield 16, 3) := by decide +kernel
theorem dX0_push_45 : decode cX0_push 45 = .ok (.aload_n 0, 1) := by decide +kernel
theorem dX0_push_46 : decode cX0_push 46 = .ok (.dup, 1) := by decide +kernel
theorem dX0_push_47 : decode cX0_push 47 = .ok (.getfield 16, 3) := by decide +kernel
theorem dX0_push_50 : decode cX0_push 50 = .ok (.iconst 1, 1) := by decide +kernel
theorem dX0_push_51 : decode cX0_push 51 = .ok (.iadd, 1) := by decide +kernel
theorem dX0_push_52 : decode cX0_push 52 = .ok (.putfield 16, 3) := by decide +kernel
theorem dX0_push_55 : decode cX0_push 55 = .ok (.aload_n 0, 1) := by decide +kernel
theorem dX0_push_56 : decode cX0_push 56 = .ok (.invokevirtual 27, 3) := by decide +kernel
theorem dX0_push_59 : decode cX0_push 59 = .ok (.astore_n 2, 1) := by decide +kernel
theorem dX0_push_60 : decode cX0_push 60 = .ok (.aload_n 2, 1) := by decide +kernel
theorem dX0_push_61 : decode cX0_push 61 = .ok (.ifnull 8, 3) := by decide +kernel
theorem dX0_push_64 : decode cX0_push 64 = .ok (.aload_n 2, 1) := by decide +kernel
theorem dX0_push_65 : decode cX0_push 65 = .ok (.aload_n 1, 1) := by decide +kernel
theorem dX0_push_66 : decode cX0_push 66 = .ok (.invokevirtual 31, 3) := by decide +kernel
theorem dX0_push_69 : decode cX0_push 69 = .ok (.return_, 1) := by decide +kernel
theorem dX0_pop_0 : decode cX0_pop 0 = .ok (.aload_n 0, 1) := by decide +kernel
theorem dX0_pop_1 : decode cX0_pop 1 = .ok (.invokevirtual 27, 3) := by decide +kernel
theorem dX0_pop_4 : decode cX0_pop 4 = .ok (.astore_n 2, 1) := by decide +kernel
theorem dX0_pop_5 : decode cX0_pop 5 = .ok (.aload_n 2, 1) := by decide +kernel
theorem dX0_pop_6 : decode cX0_pop 6 = .ok (.ifnull 18, 3) := by decide +kernel
theorem dX0_pop_9 : decode cX0_pop 9 = .ok (.aload_n 1, 1) := by decide +kernel
theorem dX0_pop_10 : decode cX0_pop 10 = .ok (.aload_n 2, 1) := by decide +kernel
theorem dX0_pop_11 : decode cX0_pop 11 = .ok (.invokevirtual 31, 3) := by decide +kernel
theorem dX0_pop_14 : decode cX0_pop 14 = .ok (.aload_n 0, 1) := by decide +kernel
theorem dX0_pop_15 : decode cX0_pop 15 = .ok (.dup, 1) := by decide +kernel
theorem dX0_pop_16 : decode cX0_pop 16 = .ok (.getfield 16, 3) := by decide +kernel
theorem dX0_pop_19 : decode cX0_pop 19 = .ok (.iconst 1, 1) := by decide +kernel
theorem dX0_pop_20 : decode cX0_pop 20 = .ok (.isub, 1) := by decide +kernel
theorem dX0_pop_21 : decode cX0_pop 21 = .ok (.putfield 16, 3) := by decide +kernel
theorem dX0_pop_24 : decode cX0_pop 24 = .ok (.return_, 1) := by decide +kernel
theorem dX0_top_0 : decode cX0_top 0 = .ok (.aload_n 0, 1) := by decide +kernel
theorem dX0_top_1 : decode cX0_top 1 = .ok (.getfield 16, 3) := by decide +kernel
theorem dX0_top_4 : decode cX0_top 4 = .ok (.iconst 1, 1) := by decide +kernel
theorem dX0_top_5 : decode cX0_top 5 = .ok (.if_icmp .lt 12, 3) := by decide +kernel
theorem dX0_top_8 : decode cX0_top 8 = .ok (.aload_n 0, 1) := by decide +kernel
theorem dX0_top_9 : decode cX0_top 9 = .ok (.getfield 9, 3) := by decide +kernel
theorem dX0_top_12 : decode cX0_top 12 = .ok (.arraylength, 1) := by decide +kernel
theorem dX0_top_13 : decode cX0_top 13 = .ok (.iconst 1, 1) := by decide +kernel
theorem dX0_top_14 : decode cX0_top 14 = .ok (.if_icmp .ge 5, 3) := by decide +kernel
theorem dX0_top_17 : decode cX0_top 17 = .ok (.aconst_null, 1) := by decide +kernel
theorem dX0_top_18 : decode cX0_top 18 = .ok (.areturn, 1) := by decide +kernel
theorem dX0_top_19 : decode cX0_top 19 = .ok (.aload_n 0, 1) := by decide +kernel
theorem dX0_top_20 : decode cX0_top 20 = .ok (.getfield 24, 3) := by decide +kernel
theorem dX0_top_23 : decode cX0_top 23 = .ok (.aload_n 0, 1) := by decide +kernel
theorem dX0_top_24 : decode cX0_top 24 = .ok (.getfield 16, 3) := by decide +kernel
theorem dX0_top_27 : decode cX0_top 27 = .ok (.iadd, 1) := by decide +kernel
theorem dX0_top_28 : decode cX0_top 28 = .ok (.iconst 1, 1) := by decide +kernel
theorem dX0_top_29 : decode cX0_top 29 = .ok (.isub, 1) := by decide +kernel
theorem dX0_top_30 : decode cX0_top 30 = .ok (.aload_n 0, 1) := by decide +kernel
theorem dX0_top_31 : decode cX0_top 31 = .ok (.getfield 9, 3) := by decide +kernel
theorem dX0_top_34 : decode cX0_top 34 = .ok (.arraylength, 1) := by decide +kernel
theorem dX0_top_35 : decode cX0_top 35 = .ok (.irem, 1) := by decide +kernel
theorem dX0_top_36 : decode cX0_top 36 = .ok (.istore_n 1, 1) := by decide +kernel
theorem dX0_top_37 : decode cX0_top 37 = .ok (.iload_n 1, 1) := by decide +kernel
theorem dX0_top_38 : decode cX0_top 38 = .ok (.ifCond .lt 21, 3) := by decide +kernel
theorem dX0_top_41 : decode cX0_top 41 = .ok (.iload_n 1, 1) := by decide +kernel
theorem dX0_top_42 : decode cX0_top 42 = .ok (.aload_n 0, 1) := by decide +kernel
theorem dX0_top_43 : decode cX0_top 43 = .ok (.getfield 9, 3) := by decide +kernel
theorem dX0_top_46 : decode cX0_top 46 = .ok (.arraylength, 1) := by decide +kernel
theorem dX0_top_47 : decode cX0_top 47 = .ok (.if_icmp .ge 12, 3) := by decide +kernel
theorem dX0_top_50 : decode cX0_top 50 = .ok (.aload_n 0, 1) := by decide +kernel
theorem dX0_top_51 : decode cX0_top 51 = .ok (.getfield 9, 3) := by decide +kernel
theorem dX0_top_54 : decode cX0_top 54 = .ok (.iload_n 1, 1) := by decide +kernel
theorem dX0_top_55 : decode cX0_top 55 = .ok (.aaload, 1) := by decide +kernel
theorem dX0_top_56 : decode cX0_top 56 = .ok (.goto 4, 3) := by decide +kernel
theorem dX0_top_59 : decode cX0_top 59 = .ok (.aconst_null, 1) := by decide +kernel
theorem dX0_top_60 : decode cX0_top 60 = .ok (.areturn, 1) := by decide +kernel
theorem dX1_init_0 : decode cX1_init 0 = .ok (.aload_n 0, 1) := by decide +kernel
theorem dX1_init_1 : decode cX1_init 1 = .ok (.invokespecial 1, 3) := by decide +kernel
theorem dX1_init_4 : decode cX1_init 4 = .ok (.iload_n 1, 1) := by decide +kernel
theorem dX1_init_5 : decode cX1_init 5 = .ok (.iload_n 2, 1) := by decide +kernel
theorem dX1_init_6 : decode cX1_init 6 = .ok (.imul, 1) := by decide +kernel
theorem dX1_init_7 : decode cX1_init 7 = .ok (.istore_n 3, 1) := by decide +kernel
theorem dX1_init_8 : decode cX1_init 8 = .ok (.aload_n 0, 1) := by decide +kernel
theorem dX1_init_9 : decode cX1_init 9 = .ok (.iload_n 1, 1) := by decide +kernel
theorem dX1_init_10 : decode cX1_init 10 = .ok (.putfield 7, 3) := by decide +kernel
theorem dX1_init_13 : decode cX1_init 13 = .ok (.aload_n 0, 1) := by decide +kernel
theorem dX1_init_14 : decode cX1_init 14 = .ok (.iload_n 2, 1) := by decide +kernel
theorem dX1_init_15 : decode cX1_init 15 = .ok (.putfield 13, 3) := by decide +kernel
theorem dX1_init_18 : decode cX1_init 18 = .ok (.aload_n 0, 1) := by decide +kernel
theorem dX1_init_19 : decode cX1_init 19 = .ok (.iload_n 3, 1) := by decide +kernel
theorem dX1_init_20 : decode cX1_init 20 = .ok (.ifCond .le 7, 3) := by decide +kernel
theorem dX1_init_23 : decode cX1_init 23 = .ok (.iload_n 3, 1) := by decide +kernel
theorem dX1_init_24 : decode cX1_init 24 = .ok (.goto 4, 3) := by decide +kernel
theorem dX1_init_27 : decode cX1_init 27 = .ok (.iconst 0, 1) := by decide +kernel
theorem dX1_init_28 : decode cX1_init 28 = .ok (.newarray .int, 2) := by decide +kernel
theorem dX1_init_30 : decode cX1_init 30 = .ok (.putfield 16, 3) := by decide +kernel
theorem dX1_init_33 : decode cX1_init 33 = .ok (.return_, 1) := by decide +kernel
theorem dX1_size_0 : decode cX1_size 0 = .ok (.aload_n 0, 1) := by decide +kernel
theorem dX1_size_1 : decode cX1_size 1 = .ok (.getfield 20, 3) := by decide +kernel
theorem dX1_size_4 : decode cX1_size 4 = .ok (.ireturn, 1) := by decide +kernel
theorem dX1_isFull_0 : decode cX1_isFull 0 = .ok (.aload_n 0, 1) := by decide +kernel
theorem dX1_isFull_1 : decode cX1_isFull 1 = .ok (.getfield 20, 3) := by decide +kernel
theorem dX1_isFull_4 : decode cX1_isFull 4 = .ok (.aload_n 0, 1) := by decide +kernel
theorem dX1_isFull_5 : decode cX1_isFull 5 = .ok (.getfield 7, 3) := by decide +kernel
theorem dX1_isFull_8 : decode cX1_isFull 8 = .ok (.if_icmp .lt 7, 3) := by decide +kernel
theorem dX1_isFull_11 : decode cX1_isFull 11 = .ok (.iconst 1, 1) := by decide +kernel
theorem dX1_isFull_12 : decode cX1_isFull 12 = .ok (.goto 4, 3) := by decide +kernel
theorem dX1_isFull_15 : decode cX1_isFull 15 = .ok (.iconst 0, 1) := by decide +kernel
theorem dX1_isFull_16 : decode cX1_isFull 16 = .ok (.ireturn, 1) := by decide +kernel
theorem dX1_has_0 : decode cX1_has 0 = .ok (.iload_n 1, 1) := by decide +kernel
theorem dX1_has_1 : decode cX1_has 1 = .ok (.ifCond .lt 15, 3) := by decide +kernel
theorem dX1_has_4 : decode cX1_has 4 = .ok (.iload_n 1, 1) := by decide +kernel
theorem dX1_has_5 : decode cX1_has 5 = .ok (.aload_n 0, 1) := by decide +kernel
theorem dX1_has_6 : decode cX1_has 6 = .ok (.getfield 20, 3) := by decide +kernel
theorem dX1_has_9 : decode cX1_has 9 = .ok (.if_icmp .ge 7, 3) := by decide +kernel
theorem dX1_has_12 : decode cX1_has 12 = .ok (.iconst 1, 1) := by decide +kernel
theorem dX1_has_13 : decode cX1_has 13 = .ok (.goto 4, 3) := by decide +kernel
theorem dX1_has_16 : decode cX1_has 16 = .ok (.iconst 0, 1) := by decide +kernel
theorem dX1_has_17 : decode cX1_has 17 = .ok (.ireturn, 1) := by decide +kernel
theorem dX1_clear_0 : decode cX1_clear 0 = .ok (.aload_n 0, 1) := by decide +kernel
theorem dX1_clear_1 : decode cX1_clear 1 = .ok (.iconst 0, 1) := by decide +kernel
theorem dX1_clear_2 : decode cX1_clear 2 = .ok (.putfield 20, 3) := by decide +kernel
theorem dX1_clear_5 : decode cX1_clear 5 = .ok (.return_, 1) := by decide +kernel
theorem dX1_placeOf_0 : decode cX1_placeOf 0 = .ok (.iload_n 1, 1) := by decide +kernel
theorem dX1_placeOf_1 : decode cX1_placeOf 1 = .ok (.ifCond .lt 34, 3) := by decide +kernel
theorem dX1_placeOf_4 : decode cX1_placeOf 4 = .ok (.iload_n 1, 1) := by decide +kernel
theorem dX1_placeOf_5 : decode cX1_placeOf 5 = .ok (.aload_n 0, 1) := by decide +kernel
theorem dX1_placeOf_6 : decode cX1_placeOf 6 = .ok (.getfield 20, 3) := by decide +kernel
theorem dX1_placeOf_9 : decode cX1_placeOf 9 = .ok (.if_icmp .ge 26, 3) := by decide +kernel
theorem dX1_placeOf_12 : decode cX1_placeOf 12 = .ok (.iload_n 2, 1) := by decide +kernel
theorem dX1_placeOf_13 : decode cX1_placeOf 13 = .ok (.ifCond .lt 22, 3) := by decide +kernel
theorem dX1_placeOf_16 : decode cX1_placeOf 16 = .ok (.iload_n 2, 1) := by decide +kernel
theorem dX1_placeOf_17 : decode cX1_placeOf 17 = .ok (.aload_n 0, 1) := by decide +kernel
theorem dX1_placeOf_18 : decode cX1_placeOf 18 = .ok (.getfield 13, 3) := by decide +kernel
theorem dX1_placeOf_21 : decode cX1_placeOf 21 = .ok (.if_icmp .ge 14, 3) := by decide +kernel
theorem dX1_placeOf_24 : decode cX1_placeOf 24 = .ok (.iload_n 1, 1) := by decide +kernel
theorem dX1_placeOf_25 : decode cX1_placeOf 25 = .ok (.aload_n 0, 1) := by decide +kernel
theorem dX1_placeOf_26 : decode cX1_placeOf 26 = .ok (.getfield 13, 3) := by decide +kernel
theorem dX1_placeOf_29 : decode cX1_placeOf 29 = .ok (.imul, 1) := by decide +kernel
theorem dX1_placeOf_30 : decode cX1_placeOf 30 = .ok (.iload_n 2, 1) := by decide +kernel
theorem dX1_placeOf_31 : decode cX1_placeOf 31 = .ok (.iadd, 1) := by decide +kernel
theorem dX1_placeOf_32 : decode cX1_placeOf 32 = .ok (.goto 4, 3) := by decide +kernel
theorem dX1_placeOf_35 : decode cX1_placeOf 35 = .ok (.iconst (-1), 1) := by decide +kernel
theorem dX1_placeOf_36 : decode cX1_placeOf 36 = .ok (.ireturn, 1) := by decide +kernel
theorem dX1_get_0 : decode cX1_get 0 = .ok (.aload_n 0, 1) := by decide +kernel
theorem dX1_get_1 : decode cX1_get 1 = .ok (.iload_n 1, 1) := by decide +kernel
theorem dX1_get_2 : decode cX1_get 2 = .ok (.iload_n 2, 1) := by decide +kernel
theorem dX1_get_3 : decode cX1_get 3 = .ok (.invokevirtual 23, 3) := by decide +kernel
theorem dX1_get_6 : decode cX1_get 6 = .ok (.istore_n 3, 1) := by decide +kernel
theorem dX1_get_7 : decode cX1_get 7 = .ok (.iload_n 3, 1) := by decide +kernel
theorem dX1_get_8 : decode cX1_get 8 = .ok (.ifCond .lt 21, 3) := by decide +kernel
theorem dX1_get_11 : decode cX1_get 11 = .ok (.iload_n 3, 1) := by decide +kernel
theorem dX1_get_12 : decode cX1_get 12 = .ok (.aload_n 0, 1) := by decide +kernel
theorem dX1_get_13 : decode cX1_get 13 = .ok (.getfield 16, 3) := by decide +kernel
theorem dX1_get_16 : decode cX1_get 16 = .ok (.arraylength, 1) := by decide +kernel
theorem dX1_get_17 : decode cX1_get 17 = .ok (.if_icmp .ge 12, 3) := by decide +kernel
theorem dX1_get_20 : decode cX1_get 20 = .ok (.aload_n 0, 1) := by decide +kernel
theorem dX1_get_21 : decode cX1_get 21 = .ok (.getfield 16, 3) := by decide +kernel
theorem dX1_get_24 : decode cX1_get 24 = .ok (.iload_n 3, 1) := by decide +kernel
theorem dX1_get_25 : decode cX1_get 25 = .ok (.iaload, 1) := by decide +kernel
theorem dX1_get_26 : decode cX1_get 26 = .ok (.goto 4, 3) := by decide +kernel
theorem dX1_get_29 : decode cX1_get 29 = .ok (.iconst 0, 1) := by decide +kernel
theorem dX1_get_30 : decode cX1_get 30 = .ok (.ireturn, 1) := by decide +kernel
theorem dX1_set_0 : decode cX1_set 0 = .ok (.aload_n 0, 1) := by decide +kernel
theorem dX1_set_1 : decode cX1_set 1 = .ok (.iload_n 1, 1) := by decide +kernel
theorem dX1_set_2 : decode cX1_set 2 = .ok (.iload_n 2, 1) := by decide +kernel
theorem dX1_set_3 : decode cX1_set 3 = .ok (.invokevirtual 23, 3) := by decide +kernel
theorem dX1_set_6 : decode cX1_set 6 = .ok (.istore 4, 2) := by decide +kernel
theorem dX1_set_8 : decode cX1_set 8 = .ok (.iload 4, 2) := by decide +kernel
theorem dX1_set_10 : decode cX1_set 10 = .ok (.ifCond .lt 21, 3) := by decide +kernel
theorem dX1_set_13 : decode cX1_set 13 = .ok (.iload 4, 2) := by decide +kernel
theorem dX1_set_15 : decode cX1_set 15 = .ok (.aload_n 0, 1) := by decide +kernel
theorem dX1_set_16 : decode cX1_set 16 = .ok (.getfield 16, 3) := by decide +kernel
theorem dX1_set_19 : decode cX1_set 19 = .ok (.arraylength, 1) := by decide +kernel
theorem dX1_set_20 : decode cX1_set 20 = .ok (.if_icmp .ge 11, 3) := by decide +kernel
theorem dX1_set_23 : decode cX1_set 23 = .ok (.aload_n 0, 1) := by decide +kernel
theorem dX1_set_24 : decode cX1_set 24 = .ok (.getfield 16, 3) := by decide +kernel
theorem dX1_set_27 : decode cX1_set 27 = .ok (.iload 4, 2) := by decide +kernel
theorem dX1_set_29 : decode cX1_set 29 = .ok (.iload_n 3, 1) := by decide +kernel
theorem dX1_set_30 : decode cX1_set 30 = .ok (.iastore, 1) := by decide +kernel
theorem dX1_set_31 : decode cX1_set 31 = .ok (.return_, 1) := by decide +kernel
theorem dX1_add_0 : decode cX1_add 0 = .ok (.aload_n 0, 1) := by decide +kernel
theorem dX1_add_1 : decode cX1_add 1 = .ok (.getfield 20, 3) := by decide +kernel
theorem dX1_add_4 : decode cX1_add 4 = .ok (.aload_n 0, 1) := by decide +kernel
theorem dX1_add_5 : decode cX1_add 5 = .ok (.getfield 7, 3) := by decide +kernel
theorem dX1_add_8 : decode cX1_add 8 = .ok (.if_icmp .lt 5, 3) := by decide +kernel
theorem dX1_add_11 : decode cX1_add 11 = .ok (.iconst 0, 1) := by decide +kernel
theorem dX1_add_12 : decode cX1_add 12 = .ok (.ireturn, 1) := by decide +kernel
theorem dX1_add_13 : decode cX1_add 13 = .ok (.aload_n 0, 1) := by decide +kernel
theorem dX1_add_14 : decode cX1_add 14 = .ok (.dup, 1) := by decide +kernel
theorem dX1_add_15 : decode cX1_add 15 = .ok (.getfield 20, 3) := by decide +kernel
theorem dX1_add_18 : decode cX1_add 18 = .ok (.iconst 1, 1) := by decide +kernel
theorem dX1_add_19 : decode cX1_add 19 = .ok (.iadd, 1) := by decide +kernel
theorem dX1_add_20 : decode cX1_add 20 = .ok (.putfield 20, 3) := by decide +kernel
theorem dX1_add_23 : decode cX1_add 23 = .ok (.iconst 0, 1) := by decide +kernel
theorem dX1_add_24 : decode cX1_add 24 = .ok (.istore 4, 2) := by decide +kernel
theorem dX1_add_26 : decode cX1_add 26 = .ok (.iload 4, 2) := by decide +kernel
theorem dX1_add_28 : decode cX1_add 28 = .ok (.aload_n 0, 1) := by decide +kernel
theorem dX1_add_29 : decode cX1_add 29 = .ok (.getfield 13, 3) := by decide +kernel
theorem dX1_add_32 : decode cX1_add 32 = .ok (.if_icmp .ge 51, 3) := by decide +kernel
theorem dX1_add_35 : decode cX1_add 35 = .ok (.aload_n 0, 1) := by decide +kernel
theorem dX1_add_36 : decode cX1_add 36 = .ok (.aload_n 0, 1) := by decide +kernel
theorem dX1_add_37 : decode cX1_add 37 = .ok (.getfield 20, 3) := by decide +kernel
theorem dX1_add_40 : decode cX1_add 40 = .ok (.iconst 1, 1) := by decide +kernel
theorem dX1_add_41 : decode cX1_add 41 = .ok (.isub, 1) := by decide +kernel
theorem dX1_add_42 : decode cX1_add 42 = .ok (.iload 4, 2) := by decide +kernel
theorem dX1_add_44 : decode cX1_add 44 = .ok (.iload 4, 2) := by decide +kernel
theorem dX1_add_46 : decode cX1_add 46 = .ok (.ifCond .ne 7, 3) := by decide +kernel
theorem dX1_add_49 : decode cX1_add 49 = .ok (.iload_n 1, 1) := by decide +kernel
theorem dX1_add_50 : decode cX1_add 50 = .ok (.goto 24, 3) := by decide +kernel
theorem dX1_add_53 : decode cX1_add 53 = .ok (.iload 4, 2) := by decide +kernel
theorem dX1_add_55 : decode cX1_add 55 = .ok (.iconst 1, 1) := by decide +kernel
theorem dX1_add_56 : decode cX1_add 56 = .ok (.if_icmp .ne 7, 3) := by decide +kernel
theorem dX1_add_59 : decode cX1_add 59 = .ok (.iload_n 2, 1) := by decide +kernel
theorem dX1_add_60 : decode cX1_add 60 = .ok (.goto 14, 3) := by decide +kernel
theorem dX1_add_63 : decode cX1_add 63 = .ok (.iload 4, 2) := by decide +kernel
theorem dX1_add_65 : decode cX1_add 65 = .ok (.iconst 2, 1) := by decide +kernel
theorem dX1_add_66 : decode cX1_add 66 = .ok (.if_icmp .ne 7, 3) := by decide +kernel
theorem dX1_add_69 : decode cX1_add 69 = .ok (.iload_n 3, 1) := by decide +kernel
theorem dX1_add_70 : decode cX1_add 70 = .ok (.goto 4, 3) := by decide +kernel
theorem dX1_add_73 : decode cX1_add 73 = .ok (.iconst 0, 1) := by decide +kernel
theorem dX1_add_74 : decode cX1_add 74 = .ok (.invokevirtual 27, 3) := by decide +kernel
theorem dX1_add_77 : decode cX1_add 77 = .ok (.iinc 4 1, 3) := by decide +kernel
theorem dX1_add_80 : decode cX1_add 80 = .ok (.goto (-54), 3) := by decide +kernel
theorem dX1_add_83 : decode cX1_add 83 = .ok (.iconst 1, 1) := by decide +kernel
theorem dX1_add_84 : decode cX1_add 84 = .ok (.ireturn, 1) := by decide +kernel
theorem dX1_remove_0 : decode cX1_remove 0 = .ok (.iload_n 1, 1) := by decide +kernel
theorem dX1_remove_1 : decode cX1_remove 1 = .ok (.ifCond .lt 11, 3) := by decide +kernel
theorem dX1_remove_4 : decode cX1_remove 4 = .ok (.iload_n 1, 1) := by decide +kernel
theorem dX1_remove_5 : decode cX1_remove 5 = .ok (.aload_n 0, 1) := by decide +kernel
theorem dX1_remove_6 : decode cX1_remove 6 = .ok (.getfield 20, 3) := by decide +kernel
theorem dX1_remove_9 : decode cX1_remove 9 = .ok (.if_icmp .lt 4, 3) := by decide +kernel
theorem dX1_remove_12 : decode cX1_remove 12 = .ok (.return_, 1) := by decide +kernel
theorem dX1_remove_13 : decode cX1_remove 13 = .ok (.iload_n 1, 1) := by decide +kernel
theorem dX1_remove_14 : decode cX1_remove 14 = .ok (.istore_n 2, 1) := by decide +kernel
theorem dX1_remove_15 : decode cX1_remove 15 = .ok (.iload_n 2, 1) := by decide +kernel
theorem dX1_remove_16 : decode cX1_remove 16 = .ok (.aload_n 0, 1) := by decide +kernel
theorem dX1_remove_17 : decode cX1_remove 17 = .ok (.getfield 20, 3) := by decide +kernel
theorem dX1_remove_20 : decode cX1_remove 20 = .ok (.iconst 1, 1) := by decide +kernel
theorem dX1_remove_21 : decode cX1_remove 21 = .ok (.isub, 1) := by decide +kernel
theorem dX1_remove_22 : decode cX1_remove 22 = .ok (.if_icmp .ge 18, 3) := by decide +kernel
theorem dX1_remove_25 : decode cX1_remove 25 = .ok (.aload_n 0, 1) := by decide +kernel
theorem dX1_remove_26 : decode cX1_remove 26 = .ok (.aload_n 0, 1) := by decide +kernel
theorem dX1_remove_27 : decode cX1_remove 27 = .ok (.iload_n 2, 1) := by decide +kernel
theorem dX1_remove_28 : decode cX1_remove 28 = .ok (.iconst 1, 1) := by decide +kernel
theorem dX1_remove_29 : decode cX1_remove 29 = .ok (.iadd, 1) := by decide +kernel
theorem dX1_remove_30 : decode cX1_remove 30 = .ok (.iload_n 2, 1) := by decide +kernel
theorem dX1_remove_31 : decode cX1_remove 31 = .ok (.invokevirtual 31, 3) := by decide +kernel
theorem dX1_remove_34 : decode cX1_remove 34 = .ok (.iinc 2 1, 3) := by decide +kernel
theorem dX1_remove_37 : decode cX1_remove 37 = .ok (.goto (-22), 3) := by decide +kernel
theorem dX1_remove_40 : decode cX1_remove 40 = .ok (.aload_n 0, 1) := by decide +kernel
theorem dX1_remove_41 : decode cX1_remove 41 = .ok (.dup, 1) := by decide +kernel
theorem dX1_remove_42 : decode cX1_remove 42 = .ok (.getfield 20, 3) := by decide +kernel
theorem dX1_remove_45 : decode cX1_remove 45 = .ok (.iconst 1, 1) := by decide +kernel
theorem dX1_remove_46 : decode cX1_remove 46 = .ok (.isub, 1) := by decide +kernel
theorem dX1_remove_47 : decode cX1_remove 47 = .ok (.putfield 20, 3) := by decide +kernel
theorem dX1_remove_50 : decode cX1_remove 50 = .ok (.return_, 1) := by decide +kernel
theorem dX1_copyFrom_0 : decode cX1_copyFrom 0 = .ok (.aload_n 0, 1) := by decide +kernel
theorem dX1_copyFrom_1 : decode cX1_copyFrom 1 = .ok (.aload_n 1, 1) := by decide +kernel
theorem dX1_copyFrom_2 : decode cX1_copyFrom 2 = .ok (.getfield 20, 3) := by decide +kernel
theorem dX1_copyFrom_5 : decode cX1_copyFrom 5 = .ok (.aload_n 0, 1) := by decide +kernel
theorem dX1_copyFrom_6 : decode cX1_copyFrom 6 = .ok (.getfield 7, 3) := by decide +kernel
theorem dX1_copyFrom_9 : decode cX1_copyFrom 9 = .ok (.invokestatic 35, 3) := by decide +kernel
theorem dX1_copyFrom_12 : decode cX1_copyFrom 12 = .ok (.putfield 20, 3) := by decide +kernel
theorem dX1_copyFrom_15 : decode cX1_copyFrom 15 = .ok (.iconst 0, 1) := by decide +kernel
theorem dX1_copyFrom_16 : decode cX1_copyFrom 16 = .ok (.istore_n 2, 1) := by decide +kernel
theorem dX1_copyFrom_17 : decode cX1_copyFrom 17 = .ok (.iload_n 2, 1) := by decide +kernel
theorem dX1_copyFrom_18 : decode cX1_copyFrom 18 = .ok (.aload_n 0, 1) := by decide +kernel
theorem dX1_copyFrom_19 : decode cX1_copyFrom 19 = .ok (.getfield 20, 3) := by decide +kernel
theorem dX1_copyFrom_22 : decode cX1_copyFrom 22 = .ok (.if_icmp .ge 16, 3) := by decide +kernel
theorem dX1_copyFrom_25 : decode cX1_copyFrom 25 = .ok (.aload_n 0, 1) := by decide +kernel
theorem dX1_copyFrom_26 : decode cX1_copyFrom 26 = .ok (.aload_n 1, 1) := by decide +kernel
theorem dX1_copyFrom_27 : decode cX1_copyFrom 27 = .ok (.iload_n 2, 1) := by decide +kernel
theorem dX1_copyFrom_28 : decode cX1_copyFrom 28 = .ok (.iload_n 2, 1) := by decide +kernel
theorem dX1_copyFrom_29 : decode cX1_copyFrom 29 = .ok (.invokevirtual 31, 3) := by decide +kernel
theorem dX1_copyFrom_32 : decode cX1_copyFrom 32 = .ok (.iinc 2 1, 3) := by decide +kernel
theorem dX1_copyFrom_35 : decode cX1_copyFrom 35 = .ok (.goto (-18), 3) := by decide +kernel
theorem dX1_copyFrom_38 : decode cX1_copyFrom 38 = .ok (.return_, 1) := by decide +kernel
theorem dX1_copyRow_0 : decode cX1_copyRow 0 = .ok (.iconst 0, 1) := by decide +kernel
theorem dX1_copyRow_1 : decode cX1_copyRow 1 = .ok (.istore 4, 2) := by decide +kernel
theorem dX1_copyRow_3 : decode cX1_copyRow 3 = .ok (.iload 4, 2) := by decide +kernel
theorem dX1_copyRow_5 : decode cX1_copyRow 5 = .ok (.aload_n 0, 1) := by decide +kernel
theorem dX1_copyRow_6 : decode cX1_copyRow 6 = .ok (.getfield 13, 3) := by decide +kernel
theorem dX1_copyRow_9 : decode cX1_copyRow 9 = .ok (.if_icmp .ge 23, 3) := by decide +kernel
theorem dX1_copyRow_12 : decode cX1_copyRow 12 = .ok (.aload_n 0, 1) := by decide +kernel
theorem dX1_copyRow_13 : decode cX1_copyRow 13 = .ok (.iload_n 3, 1) := by decide +kernel
theorem dX1_copyRow_14 : decode cX1_copyRow 14 = .ok (.iload 4, 2) := by decide +kernel
theorem dX1_copyRow_16 : decode cX1_copyRow 16 = .ok (.aload_n 1, 1) := by decide +kernel
theorem dX1_copyRow_17 : decode cX1_copyRow 17 = .ok (.iload_n 2, 1) := by decide +kernel
theorem dX1_copyRow_18 : decode cX1_copyRow 18 = .ok (.iload 4, 2) := by decide +kernel
theorem dX1_copyRow_20 : decode cX1_copyRow 20 = .ok (.invokevirtual 40, 3) := by decide +kernel
theorem dX1_copyRow_23 : decode cX1_copyRow 23 = .ok (.invokevirtual 27, 3) := by decide +kernel
theorem dX1_copyRow_26 : decode cX1_copyRow 26 = .ok (.iinc 4 1, 3) := by decide +kernel
theorem dX1_copyRow_29 : decode cX1_copyRow 29 = .ok (.goto (-26), 3) := by decide +kernel
theorem dX1_copyRow_32 : decode cX1_copyRow 32 = .ok (.return_, 1) := by decide +kernel
theorem dX2_init_0 : decode cX2_init 0 = .ok (.aload_n 0, 1) := by decide +kernel
theorem dX2_init_1 : decode cX2_init 1 = .ok (.invokespecial 3, 3) := by decide +kernel
theorem dX2_init_4 : decode cX2_init 4 = .ok (.aload_n 0, 1) := by decide +kernel
theorem dX2_init_5 : decode cX2_init 5 = .ok (.new 9, 3) := by decide +kernel
theorem dX2_init_8 : decode cX2_init 8 = .ok (.dup, 1) := by decide +kernel
theorem dX2_init_9 : decode cX2_init 9 = .ok (.sipush 200, 3) := by decide +kernel
theorem dX2_init_12 : decode cX2_init 12 = .ok (.iconst 1, 1) := by decide +kernel
theorem dX2_init_13 : decode cX2_init 13 = .ok (.invokespecial 11, 3) := by decide +kernel
theorem dX2_init_16 : decode cX2_init 16 = .ok (.putfield 14, 3) := by decide +kernel
theorem dX2_init_19 : decode cX2_init 19 = .ok (.aload_n 0, 1) := by decide +kernel
theorem dX2_init_20 : decode cX2_init 20 = .ok (.new 9, 3) := by decide +kernel
theorem dX2_init_23 : decode cX2_init 23 = .ok (.dup, 1) := by decide +kernel
theorem dX2_init_24 : decode cX2_init 24 = .ok (.iconst 3, 1) := by decide +kernel
theorem dX2_init_25 : decode cX2_init 25 = .ok (.iconst 1, 1) := by decide +kernel
theorem dX2_init_26 : decode cX2_init 26 = .ok (.invokespecial 11, 3) := by decide +kernel
theorem dX2_init_29 : decode cX2_init 29 = .ok (.putfield 20, 3) := by decide +kernel
theorem dX2_init_32 : decode cX2_init 32 = .ok (.return_, 1) := by decide +kernel
theorem dX2_readInto_0 : decode cX2_readInto 0 = .ok (.aload_n 0, 1) := by decide +kernel
theorem dX2_readInto_1 : decode cX2_readInto 1 = .ok (.iconst 0, 1) := by decide +kernel
theorem dX2_readInto_2 : decode cX2_readInto 2 = .ok (.putfield 23, 3) := by decide +kernel
theorem dX2_readInto_5 : decode cX2_readInto 5 = .ok (.aload_n 1, 1) := by decide +kernel
theorem dX2_readInto_6 : decode cX2_readInto 6 = .ok (.invokevirtual 27, 3) := by decide +kernel
theorem dX2_readInto_9 : decode cX2_readInto 9 = .ok (.iconst 0, 1) := by decide +kernel
theorem dX2_readInto_10 : decode cX2_readInto 10 = .ok (.istore_n 2, 1) := by decide +kernel
theorem dX2_readInto_11 : decode cX2_readInto 11 = .ok (.iload_n 2, 1) := by decide +kernel
theorem dX2_readInto_12 : decode cX2_readInto 12 = .ok (.sipush 200, 3) := by decide +kernel
theorem dX2_readInto_15 : decode cX2_readInto 15 = .ok (.if_icmp .ge 38, 3) := by decide +kernel
theorem dX2_readInto_18 : decode cX2_readInto 18 = .ok (.aload_n 0, 1) := by decide +kernel
theorem dX2_readInto_19 : decode cX2_readInto 19 = .ok (.getfield 23, 3) := by decide +kernel
theorem dX2_readInto_22 : decode cX2_readInto 22 = .ok (.aload_n 0, 1) := by decide +kernel
theorem dX2_readInto_23 : decode cX2_readInto 23 = .ok (.getfield 14, 3) := by decide +kernel
theorem dX2_readInto_26 : decode cX2_readInto 26 = .ok (.invokevirtual 32, 3) := by decide +kernel
theorem dX2_readInto_29 : decode cX2_readInto 29 = .ok (.if_icmp .ge 24, 3) := by decide +kernel
theorem dX2_readInto_32 : decode cX2_readInto 32 = .ok (.aload_n 0, 1) := by decide +kernel
theorem dX2_readInto_33 : decode cX2_readInto 33 = .ok (.getfield 23, 3) := by decide +kernel
theorem dX2_readInto_36 : decode cX2_readInto 36 = .ok (.istore_n 3, 1) := by decide +kernel
theorem dX2_readInto_37 : decode cX2_readInto 37 = .ok (.aload_n 0, 1) := by decide +kernel
theorem dX2_readInto_38 : decode cX2_readInto 38 = .ok (.aload_n 1, 1) := by decide +kernel
theorem dX2_readInto_39 : decode cX2_readInto 39 = .ok (.invokevirtual 36, 3) := by decide +kernel
theorem dX2_readInto_42 : decode cX2_readInto 42 = .ok (.ifCond .ne 5, 3) := by decide +kernel
theorem dX2_readInto_45 : decode cX2_readInto 45 = .ok (.iload_n 3, 1) := by decide +kernel
theorem dX2_readInto_46 : decode cX2_readInto 46 = .ok (.ireturn, 1) := by decide +kernel
theorem dX2_readInto_47 : decode cX2_readInto 47 = .ok (.iinc 2 1, 3) := by decide +kernel
theorem dX2_readInto_50 : decode cX2_readInto 50 = .ok (.goto (-39), 3) := by decide +kernel
theorem dX2_readInto_53 : decode cX2_readInto 53 = .ok (.bipush (-4), 2) := by decide +kernel
theorem dX2_readInto_55 : decode cX2_readInto 55 = .ok (.ireturn, 1) := by decide +kernel
theorem dX2_readItem_0 : decode cX2_readItem 0 = .ok (.aload_n 0, 1) := by decide +kernel
theorem dX2_readItem_1 : decode cX2_readItem 1 = .ok (.getfield 14, 3) := by decide +kernel
theorem dX2_readItem_4 : decode cX2_readItem 4 = .ok (.aload_n 0, 1) := by decide +kernel
theorem dX2_readItem_5 : decode cX2_readItem 5 = .ok (.getfield 23, 3) := by decide +kernel
theorem dX2_readItem_8 : decode cX2_readItem 8 = .ok (.iconst 0, 1) := by decide +kernel
theorem dX2_readItem_9 : decode cX2_readItem 9 = .ok (.invokevirtual 40, 3) := by decide +kernel
theorem dX2_readItem_12 : decode cX2_readItem 12 = .ok (.istore_n 2, 1) := by decide +kernel
theorem dX2_readItem_13 : decode cX2_readItem 13 = .ok (.iload_n 2, 1) := by decide +kernel
theorem dX2_readItem_14 : decode cX2_readItem 14 = .ok (.invokestatic 44, 3) := by decide +kernel
theorem dX2_readItem_17 : decode cX2_readItem 17 = .ok (.istore_n 3, 1) := by decide +kernel
theorem dX2_readItem_18 : decode cX2_readItem 18 = .ok (.aload_n 0, 1) := by decide +kernel
theorem dX2_readItem_19 : decode cX2_readItem 19 = .ok (.dup, 1) := by decide +kernel
theorem dX2_readItem_20 : decode cX2_readItem 20 = .ok (.getfield 23, 3) := by decide +kernel
theorem dX2_readItem_23 : decode cX2_readItem 23 = .ok (.iconst 1, 1) := by decide +kernel
theorem dX2_readItem_24 : decode cX2_readItem 24 = .ok (.iadd, 1) := by decide +kernel
theorem dX2_readItem_25 : decode cX2_readItem 25 = .ok (.putfield 23, 3) := by decide +kernel
theorem dX2_readItem_28 : decode cX2_readItem 28 = .ok (.aload_n 0, 1) := by decide +kernel
theorem dX2_readItem_29 : decode cX2_readItem 29 = .ok (.getfield 20, 3) := by decide +kernel
theorem dX2_readItem_32 : decode cX2_readItem 32 = .ok (.invokevirtual 48, 3) := by decide +kernel
theorem dX2_readItem_35 : decode cX2_readItem 35 = .ok (.iconst 1, 1) := by decide +kernel
theorem dX2_readItem_36 : decode cX2_readItem 36 = .ok (.istore 4, 2) := by decide +kernel
theorem dX2_readItem_38 : decode cX2_readItem 38 = .ok (.iload 4, 2) := by decide +kernel
theorem dX2_readItem_40 : decode cX2_readItem 40 = .ok (.iload_n 3, 1) := by decide +kernel
theorem dX2_readItem_41 : decode cX2_readItem 41 = .ok (.if_icmp .gt 76, 3) := by decide +kernel
theorem dX2_readItem_44 : decode cX2_readItem 44 = .ok (.aload_n 0, 1) := by decide +kernel
theorem dX2_readItem_45 : decode cX2_readItem 45 = .ok (.invokevirtual 49, 3) := by decide +kernel
theorem dX2_readItem_48 : decode cX2_readItem 48 = .ok (.istore 5, 2) := by decide +kernel
theorem dX2_readItem_50 : decode cX2_readItem 50 = .ok (.aload_n 0, 1) := by decide +kernel
theorem dX2_readItem_51 : decode cX2_readItem 51 = .ok (.getfield 14, 3) := by decide +kernel
theorem dX2_readItem_54 : decode cX2_readItem 54 = .ok (.aload_n 0, 1) := by decide +kernel
theorem dX2_readItem_55 : decode cX2_readItem 55 = .ok (.getfield 23, 3) := by decide +kernel
theorem dX2_readItem_58 : decode cX2_readItem 58 = .ok (.iconst 0, 1) := by decide +kernel
theorem dX2_readItem_59 : decode cX2_readItem 59 = .ok (.invokevirtual 40, 3) := by decide +kernel
theorem dX2_readItem_62 : decode cX2_readItem 62 = .ok (.istore 6, 2) := by decide +kernel
theorem dX2_readItem_64 : decode cX2_readItem 64 = .ok (.iload 5, 2) := by decide +kernel
theorem dX2_readItem_66 : decode cX2_readItem 66 = .ok (.ifCond .lt 21, 3) := by decide +kernel
theorem dX2_readItem_69 : decode cX2_readItem 69 = .ok (.iload 6, 2) := by decide +kernel
theorem dX2_readItem_71 : decode cX2_readItem 71 = .ok (.iload 4, 2) := by decide +kernel
theorem dX2_readItem_73 : decode cX2_readItem 73 = .ok (.iload_n 3, 1) := by decide +kernel
theorem dX2_readItem_74 : decode cX2_readItem 74 = .ok (.if_icmp .ne 8, 3) := by decide +kernel
theorem dX2_readItem_77 : decode cX2_readItem 77 = .ok (.bipush 59, 2) := by decide +kernel
theorem dX2_readItem_79 : decode cX2_readItem 79 = .ok (.goto 5, 3) := by decide +kernel
theorem dX2_readItem_82 : decode cX2_readItem 82 = .ok (.bipush 44, 2) := by decide +kernel
theorem dX2_readItem_84 : decode cX2_readItem 84 = .ok (.if_icmp .eq 5, 3) := by decide +kernel
theorem dX2_readItem_87 : decode cX2_readItem 87 = .ok (.iconst 0, 1) := by decide +kernel
theorem dX2_readItem_88 : decode cX2_readItem 88 = .ok (.ireturn, 1) := by decide +kernel
theorem dX2_readItem_89 : decode cX2_readItem 89 = .ok (.aload_n 0, 1) := by decide +kernel
theorem dX2_readItem_90 : decode cX2_readItem 90 = .ok (.dup, 1) := by decide +kernel
theorem dX2_readItem_91 : decode cX2_readItem 91 = .ok (.getfield 23, 3) := by decide +kernel
theorem dX2_readItem_94 : decode cX2_readItem 94 = .ok (.iconst 1, 1) := by decide +kernel
theorem dX2_readItem_95 : decode cX2_readItem 95 = .ok (.iadd, 1) := by decide +kernel
theorem dX2_readItem_96 : decode cX2_readItem 96 = .ok (.putfield 23, 3) := by decide +kernel
theorem dX2_readItem_99 : decode cX2_readItem 99 = .ok (.aload_n 0, 1) := by decide +kernel
theorem dX2_readItem_100 : decode cX2_readItem 100 = .ok (.getfield 20, 3) := by decide +kernel
theorem dX2_readItem_103 : decode cX2_readItem 103 = .ok (.iload 5, 2) := by decide +kernel
theorem dX2_readItem_105 : decode cX2_readItem 105 = .ok (.iconst 0, 1) := by decide +kernel
theorem dX2_readItem_106 : decode cX2_readItem 106 = .ok (.iconst 0, 1) := by decide +kernel
theorem dX2_readItem_107 : decode cX2_readItem 107 = .ok (.invokevirtual 52, 3) := by decide +kernel
theorem dX2_readItem_110 : decode cX2_readItem 110 = .ok (.pop, 1) := by decide +kernel
theorem dX2_readItem_111 : decode cX2_readItem 111 = .ok (.iinc 4 1, 3) := by decide +kernel
theorem dX2_readItem_114 : decode cX2_readItem 114 = .ok (.goto (-76), 3) := by decide +kernel
theorem dX2_readItem_117 : decode cX2_readItem 117 = .ok (.iload_n 3, 1) := by decide +kernel
theorem dX2_readItem_118 : decode cX2_readItem 118 = .ok (.ifCond .le 42, 3) := by decide +kernel
theorem dX2_readItem_121 : decode cX2_readItem 121 = .ok (.aload_n 1, 1) := by decide +kernel
theorem dX2_readItem_122 : decode cX2_readItem 122 = .ok (.iload_n 2, 1) := by decide +kernel
theorem dX2_readItem_123 : decode cX2_readItem 123 = .ok (.aload_n 0, 1) := by decide +kernel
theorem dX2_readItem_124 : decode cX2_readItem 124 = .ok (.getfield 20, 3) := by decide +kernel
theorem dX2_readItem_127 : decode cX2_readItem 127 = .ok (.iconst 0, 1) := by decide +kernel
theorem dX2_readItem_128 : decode cX2_readItem 128 = .ok (.iconst 0, 1) := by decide +kernel
theorem dX2_readItem_129 : decode cX2_readItem 129 = .ok (.invokevirtual 40, 3) := by decide +kernel
theorem dX2_readItem_132 : decode cX2_readItem 132 = .ok (.aload_n 0, 1) := by decide +kernel
theorem dX2_readItem_133 : decode cX2_readItem 133 = .ok (.getfield 20, 3) := by decide +kernel
theorem dX2_readItem_136 : decode cX2_readItem 136 = .ok (.iconst 1, 1) := by decide +kernel
theorem dX2_readItem_137 : decode cX2_readItem 137 = .ok (.iconst 0, 1) := by decide +kernel
theorem dX2_readItem_138 : decode cX2_readItem 138 = .ok (.invokevirtual 40, 3) := by decide +kernel
theorem dX2_readItem_141 : decode cX2_readItem 141 = .ok (.aload_n 0, 1) := by decide +kernel
theorem dX2_readItem_142 : decode cX2_readItem 142 = .ok (.getfield 20, 3) := by decide +kernel
theorem dX2_readItem_145 : decode cX2_readItem 145 = .ok (.iconst 2, 1) := by decide +kernel
theorem dX2_readItem_146 : decode cX2_readItem 146 = .ok (.iconst 0, 1) := by decide +kernel
theorem dX2_readItem_147 : decode cX2_readItem 147 = .ok (.invokevirtual 40, 3) := by decide +kernel
theorem dX2_readItem_150 : decode cX2_readItem 150 = .ok (.invokestatic 56, 3) := by decide +kernel
theorem dX2_readItem_153 : decode cX2_readItem 153 = .ok (.ifCond .eq 7, 3) := by decide +kernel
theorem dX2_readItem_156 : decode cX2_readItem 156 = .ok (.iconst 1, 1) := by decide +kernel
theorem dX2_readItem_157 : decode cX2_readItem 157 = .ok (.goto 4, 3) := by decide +kernel
theorem dX2_readItem_160 : decode cX2_readItem 160 = .ok (.iconst 0, 1) := by decide +kernel
theorem dX2_readItem_161 : decode cX2_readItem 161 = .ok (.ireturn, 1) := by decide +kernel
theorem dX2_numbersOf_0 : decode cX2_numbersOf 0 = .ok (.iload_n 0, 1) := by decide +kernel
theorem dX2_numbersOf_1 : decode cX2_numbersOf 1 = .ok (.tableswitch 93 98 115 #[91, 93, 87, 93, 87, 93, 93, 89, 93, 93, 93, 93, 93, 93, 89, 93, 93, 91], 87) := by decide +kernel
theorem dX2_numbersOf_88 : decode cX2_numbersOf 88 = .ok (.iconst 1, 1) := by decide +kernel
theorem dX2_numbersOf_89 : decode cX2_numbersOf 89 = .ok (.ireturn, 1) := by decide +kernel
theorem dX2_numbersOf_90 : decode cX2_numbersOf 90 = .ok (.iconst 2, 1) := by decide +kernel
theorem dX2_numbersOf_91 : decode cX2_numbersOf 91 = .ok (.ireturn, 1) := by decide +kernel
theorem dX2_numbersOf_92 : decode cX2_numbersOf 92 = .ok (.iconst 3, 1) := by decide +kernel
theorem dX2_numbersOf_93 : decode cX2_numbersOf 93 = .ok (.ireturn, 1) := by decide +kernel
theorem dX2_numbersOf_94 : decode cX2_numbersOf 94 = .ok (.iconst 0, 1) := by decide +kernel
theorem dX2_numbersOf_95 : decode cX2_numbersOf 95 = .ok (.ireturn, 1) := by decide +kernel
theorem dX2_readNumber_0 : decode cX2_readNumber 0 = .ok (.iconst (-1), 1) := by decide +kernel
theorem dX2_readNumber_1 : decode cX2_readNumber 1 = .ok (.istore_n 1, 1) := by decide +kernel
theorem dX2_readNumber_2 : decode cX2_readNumber 2 = .ok (.iconst 0, 1) := by decide +kernel
theorem dX2_readNumber_3 : decode cX2_readNumber 3 = .ok (.istore_n 2, 1) := by decide +kernel
theorem dX2_readNumber_4 : decode cX2_readNumber 4 = .ok (.iload_n 2, 1) := by decide +kernel
theorem dX2_readNumber_5 : decode cX2_readNumber 5 = .ok (.iconst 2, 1) := by decide +kernel
theorem dX2_readNumber_6 : decode cX2_readNumber 6 = .ok (.if_icmp .ge 58, 3) := by decide +kernel
theorem dX2_readNumber_9 : decode cX2_readNumber 9 = .ok (.aload_n 0, 1) := by decide +kernel
theorem dX2_readNumber_10 : decode cX2_readNumber 10 = .ok (.getfield 14, 3) := by decide +kernel
theorem dX2_readNumber_13 : decode cX2_readNumber 13 = .ok (.aload_n 0, 1) := by decide +kernel
theorem dX2_readNumber_14 : decode cX2_readNumber 14 = .ok (.getfield 23, 3) := by decide +kernel
theorem dX2_readNumber_17 : decode cX2_readNumber 17 = .ok (.iconst 0, 1) := by decide +kernel
theorem dX2_readNumber_18 : decode cX2_readNumber 18 = .ok (.invokevirtual 40, 3) := by decide +kernel
theorem dX2_readNumber_21 : decode cX2_readNumber 21 = .ok (.bipush 48, 2) := by decide +kernel
theorem dX2_readNumber_23 : decode cX2_readNumber 23 = .ok (.isub, 1) := by decide +kernel
theorem dX2_readNumber_24 : decode cX2_readNumber 24 = .ok (.istore_n 3, 1) := by decide +kernel
theorem dX2_readNumber_25 : decode cX2_readNumber 25 = .ok (.iload_n 3, 1) := by decide +kernel
theorem dX2_readNumber_26 : decode cX2_readNumber 26 = .ok (.ifCond .lt 9, 3) := by decide +kernel
theorem dX2_readNumber_29 : decode cX2_readNumber 29 = .ok (.iload_n 3, 1) := by decide +kernel
theorem dX2_readNumber_30 : decode cX2_readNumber 30 = .ok (.bipush 9, 2) := by decide +kernel
theorem dX2_readNumber_32 : decode cX2_readNumber 32 = .ok (.if_icmp .le 5, 3) := by decide +kernel
theorem dX2_readNumber_35 : decode cX2_readNumber 35 = .ok (.iload_n 1, 1) := by decide +kernel
theorem dX2_readNumber_36 : decode cX2_readNumber 36 = .ok (.ireturn, 1) := by decide +kernel
theorem dX2_readNumber_37 : decode cX2_readNumber 37 = .ok (.iload_n 1, 1) := by decide +kernel
theorem dX2_readNumber_38 : decode cX2_readNumber 38 = .ok (.iconst 0, 1) := by decide +kernel
theorem dX2_readNumber_39 : decode cX2_readNumber 39 = .ok (.invokestatic 60, 3) := by decide +kernel
theorem dX2_readNumber_42 : decode cX2_readNumber 42 = .ok (.bipush 10, 2) := by decide +kernel
theorem dX2_readNumber_44 : decode cX2_readNumber 44 = .ok (.imul, 1) := by decide +kernel
theorem dX2_readNumber_45 : decode cX2_readNumber 45 = .ok (.iload_n 3, 1) := by decide +kernel
theorem dX2_readNumber_46 : decode cX2_readNumber 46 = .ok (.iadd, 1) := by decide +kernel
theorem dX2_readNumber_47 : decode cX2_readNumber 47 = .ok (.istore_n 1, 1) := by decide +kernel
theorem dX2_readNumber_48 : decode cX2_readNumber 48 = .ok (.aload_n 0, 1) := by decide +kernel
theorem dX2_readNumber_49 : decode cX2_readNumber 49 = .ok (.dup, 1) := by decide +kernel
theorem dX2_readNumber_50 : decode cX2_readNumber 50 = .ok (.getfield 23, 3) := by decide +kernel
theorem dX2_readNumber_53 : decode cX2_readNumber 53 = .ok (.iconst 1, 1) := by decide +kernel
theorem dX2_readNumber_54 : decode cX2_readNumber 54 = .ok (.iadd, 1) := by decide +kernel
theorem dX2_readNumber_55 : decode cX2_readNumber 55 = .ok (.putfield 23, 3) := by decide +kernel
theorem dX2_readNumber_58 : decode cX2_readNumber 58 = .ok (.iinc 2 1, 3) := by decide +kernel
theorem dX2_readNumber_61 : decode cX2_readNumber 61 = .ok (.goto (-57), 3) := by decide +kernel
theorem dX2_readNumber_64 : decode cX2_readNumber 64 = .ok (.iload_n 1, 1) := by decide +kernel
theorem dX2_readNumber_65 : decode cX2_readNumber 65 = .ok (.ireturn, 1) := by decide +kernel
theorem dX2_tell_0 : decode cX2_tell 0 = .ok (.iload_n 1, 1) := by decide +kernel
theorem dX2_tell_1 : decode cX2_tell 1 = .ok (.bipush 102, 2) := by decide +kernel
theorem dX2_tell_3 : decode cX2_tell 3 = .ok (.if_icmp .ne 9, 3) := by decide +kernel
theorem dX2_tell_6 : decode cX2_tell 6 = .ok (.aload_n 0, 1) := by decide +kernel
theorem dX2_tell_7 : decode cX2_tell 7 = .ok (.iload_n 2, 1) := by decide +kernel
theorem dX2_tell_8 : decode cX2_tell 8 = .ok (.invokestatic 65, 3) := by decide +kernel
theorem dX2_tell_11 : decode cX2_tell 11 = .ok (.ireturn, 1) := by decide +kernel
theorem dX2_tell_12 : decode cX2_tell 12 = .ok (.aload_n 0, 1) := by decide +kernel
theorem dX2_tell_13 : decode cX2_tell 13 = .ok (.iconst 1, 1) := by decide +kernel
theorem dX2_tell_14 : decode cX2_tell 14 = .ok (.putfield 69, 3) := by decide +kernel
theorem dX2_tell_17 : decode cX2_tell 17 = .ok (.iload_n 1, 1) := by decide +kernel
theorem dX2_tell_18 : decode cX2_tell 18 = .ok (.lookupswitch 164 #[(100, 42), (105, 48), (112, 84), (115, 116)], 42) := by decide +kernel
theorem dX2_tell_60 : decode cX2_tell 60 = .ok (.aload_n 0, 1) := by decide +kernel
theorem dX2_tell_61 : decode cX2_tell 61 = .ok (.iload_n 2, 1) := by decide +kernel
theorem dX2_tell_62 : decode cX2_tell 62 = .ok (.invokestatic 73, 3) := by decide +kernel
theorem dX2_tell_65 : decode cX2_tell 65 = .ok (.ireturn, 1) := by decide +kernel
theorem dX2_tell_66 : decode cX2_tell 66 = .ok (.aload_n 0, 1) := by decide +kernel
theorem dX2_tell_67 : decode cX2_tell 67 = .ok (.iload_n 2, 1) := by decide +kernel
theorem dX2_tell_68 : decode cX2_tell 68 = .ok (.invokevirtual 76, 3) := by decide +kernel
theorem dX2_tell_71 : decode cX2_tell 71 = .ok (.ifCond .eq 29, 3) := by decide +kernel
theorem dX2_tell_74 : decode cX2_tell 74 = .ok (.aload_n 0, 1) := by decide +kernel
theorem dX2_tell_75 : decode cX2_tell 75 = .ok (.iload_n 3, 1) := by decide +kernel
theorem dX2_tell_76 : decode cX2_tell 76 = .ok (.invokevirtual 76, 3) := by decide +kernel
theorem dX2_tell_79 : decode cX2_tell 79 = .ok (.ifCond .eq 21, 3) := by decide +kernel
theorem dX2_tell_82 : decode cX2_tell 82 = .ok (.aload_n 0, 1) := by decide +kernel
theorem dX2_tell_83 : decode cX2_tell 83 = .ok (.getfield 80, 3) := by decide +kernel
theorem dX2_tell_86 : decode cX2_tell 86 = .ok (.iload_n 2, 1) := by decide +kernel
theorem dX2_tell_87 : decode cX2_tell 87 = .ok (.iload_n 3, 1) := by decide +kernel
theorem dX2_tell_88 : decode cX2_tell 88 = .ok (.iload 4, 2) := by decide +kernel
theorem dX2_tell_90 : decode cX2_tell 90 = .ok (.invokevirtual 52, 3) := by decide +kernel
theorem dX2_tell_93 : decode cX2_tell 93 = .ok (.ifCond .eq 7, 3) := by decide +kernel
theorem dX2_tell_96 : decode cX2_tell 96 = .ok (.iconst 1, 1) := by decide +kernel
theorem dX2_tell_97 : decode cX2_tell 97 = .ok (.goto 4, 3) := by decide +kernel
theorem dX2_tell_100 : decode cX2_tell 100 = .ok (.iconst 0, 1) := by decide +kernel
theorem dX2_tell_101 : decode cX2_tell 101 = .ok (.ireturn, 1) := by decide +kernel
theorem dX2_tell_102 : decode cX2_tell 102 = .ok (.iload_n 2, 1) := by decide +kernel
theorem dX2_tell_103 : decode cX2_tell 103 = .ok (.bipush 40, 2) := by decide +kernel
theorem dX2_tell_105 : decode cX2_tell 105 = .ok (.if_icmp .gt 27, 3) := by decide +kernel
theorem dX2_tell_108 : decode cX2_tell 108 = .ok (.iload_n 3, 1) := by decide +kernel
theorem dX2_tell_109 : decode cX2_tell 109 = .ok (.bipush 9, 2) := by decide +kernel
theorem dX2_tell_111 : decode cX2_tell 111 = .ok (.if_icmp .gt 21, 3) := by decide +kernel
theorem dX2_tell_114 : decode cX2_tell 114 = .ok (.aload_n 0, 1) := by decide +kernel
theorem dX2_tell_115 : decode cX2_tell 115 = .ok (.getfield 83, 3) := by decide +kernel
theorem dX2_tell_118 : decode cX2_tell 118 = .ok (.iload_n 2, 1) := by decide +kernel
theorem dX2_tell_119 : decode cX2_tell 119 = .ok (.iload_n 3, 1) := by decide +kernel
theorem dX2_tell_120 : decode cX2_tell 120 = .ok (.iload 4, 2) := by decide +kernel
theorem dX2_tell_122 : decode cX2_tell 122 = .ok (.invokevirtual 52, 3) := by decide +kernel
theorem dX2_tell_125 : decode cX2_tell 125 = .ok (.ifCond .eq 7, 3) := by decide +kernel
theorem dX2_tell_128 : decode cX2_tell 128 = .ok (.iconst 1, 1) := by decide +kernel
theorem dX2_tell_129 : decode cX2_tell 129 = .ok (.goto 4, 3) := by decide +kernel
theorem dX2_tell_132 : decode cX2_tell 132 = .ok (.iconst 0, 1) := by decide +kernel
theorem dX2_tell_133 : decode cX2_tell 133 = .ok (.ireturn, 1) := by decide +kernel
theorem dX2_tell_134 : decode cX2_tell 134 = .ok (.iload_n 2, 1) := by decide +kernel
theorem dX2_tell_135 : decode cX2_tell 135 = .ok (.iconst 1, 1) := by decide +kernel
theorem dX2_tell_136 : decode cX2_tell 136 = .ok (.if_icmp .lt 44, 3) := by decide +kernel
theorem dX2_tell_139 : decode cX2_tell 139 = .ok (.iload_n 2, 1) := by decide +kernel
theorem dX2_tell_140 : decode cX2_tell 140 = .ok (.bipush 6, 2) := by decide +kernel
theorem dX2_tell_142 : decode cX2_tell 142 = .ok (.if_icmp .gt 38, 3) := by decide +kernel
theorem dX2_tell_145 : decode cX2_tell 145 = .ok (.iload_n 3, 1) := by decide +kernel
theorem dX2_tell_146 : decode cX2_tell 146 = .ok (.iconst 1, 1) := by decide +kernel
theorem dX2_tell_147 : decode cX2_tell 147 = .ok (.if_icmp .lt 33, 3) := by decide +kernel
theorem dX2_tell_150 : decode cX2_tell 150 = .ok (.iload_n 3, 1) := by decide +kernel
theorem dX2_tell_151 : decode cX2_tell 151 = .ok (.bipush 9, 2) := by decide +kernel
theorem dX2_tell_153 : decode cX2_tell 153 = .ok (.if_icmp .gt 27, 3) := by decide +kernel
theorem dX2_tell_156 : decode cX2_tell 156 = .ok (.iload 4, 2) := by decide +kernel
theorem dX2_tell_158 : decode cX2_tell 158 = .ok (.iconst 3, 1) := by decide +kernel
theorem dX2_tell_159 : decode cX2_tell 159 = .ok (.if_icmp .gt 21, 3) := by decide +kernel
theorem dX2_tell_162 : decode cX2_tell 162 = .ok (.aload_n 0, 1) := by decide +kernel
theorem dX2_tell_163 : decode cX2_tell 163 = .ok (.getfield 86, 3) := by decide +kernel
theorem dX2_tell_166 : decode cX2_tell 166 = .ok (.iload_n 2, 1) := by decide +kernel
theorem dX2_tell_167 : decode cX2_tell 167 = .ok (.iload_n 3, 1) := by decide +kernel
theorem dX2_tell_168 : decode cX2_tell 168 = .ok (.iload 4, 2) := by decide +kernel
theorem dX2_tell_170 : decode cX2_tell 170 = .ok (.invokevirtual 52, 3) := by decide +kernel
theorem dX2_tell_173 : decode cX2_tell 173 = .ok (.ifCond .eq 7, 3) := by decide +kernel
theorem dX2_tell_176 : decode cX2_tell 176 = .ok (.iconst 1, 1) := by decide +kernel
theorem dX2_tell_177 : decode cX2_tell 177 = .ok (.goto 4, 3) := by decide +kernel
theorem dX2_tell_180 : decode cX2_tell 180 = .ok (.iconst 0, 1) := by decide +kernel
theorem dX2_tell_181 : decode cX2_tell 181 = .ok (.ireturn, 1) := by decide +kernel
theorem dX2_tell_182 : decode cX2_tell 182 = .ok (.aload_n 0, 1) := by decide +kernel
theorem dX2_tell_183 : decode cX2_tell 183 = .ok (.getfield 83, 3) := by decide +kernel
theorem dX2_tell_186 : decode cX2_tell 186 = .ok (.iload_n 2, 1) := by decide +kernel
theorem dX2_tell_187 : decode cX2_tell 187 = .ok (.invokevirtual 89, 3) := by decide +kernel
theorem dX2_tell_190 : decode cX2_tell 190 = .ok (.ifCond .eq 39, 3) := by decide +kernel
theorem dX2_tell_193 : decode cX2_tell 193 = .ok (.iload_n 3, 1) := by decide +kernel
theorem dX2_tell_194 : decode cX2_tell 194 = .ok (.iconst 1, 1) := by decide +kernel
theorem dX2_tell_195 : decode cX2_tell 195 = .ok (.if_icmp .lt 34, 3) := by decide +kernel
theorem dX2_tell_198 : decode cX2_tell 198 = .ok (.iload_n 3, 1) := by decide +kernel
theorem dX2_tell_199 : decode cX2_tell 199 = .ok (.bipush 6, 2) := by decide +kernel
theorem dX2_tell_201 : decode cX2_tell 201 = .ok (.if_icmp .gt 28, 3) := by decide +kernel
theorem dX2_tell_204 : decode cX2_tell 204 = .ok (.iload 4, 2) := by decide +kernel
theorem dX2_tell_206 : decode cX2_tell 206 = .ok (.bipush 99, 2) := by decide +kernel
theorem dX2_tell_208 : decode cX2_tell 208 = .ok (.if_icmp .gt 21, 3) := by decide +kernel
theorem dX2_tell_211 : decode cX2_tell 211 = .ok (.aload_n 0, 1) := by decide +kernel
theorem dX2_tell_212 : decode cX2_tell 212 = .ok (.getfield 92, 3) := by decide +kernel
theorem dX2_tell_215 : decode cX2_tell 215 = .ok (.iload_n 2, 1) := by decide +kernel
theorem dX2_tell_216 : decode cX2_tell 216 = .ok (.iload_n 3, 1) := by decide +kernel
theorem dX2_tell_217 : decode cX2_tell 217 = .ok (.iload 4, 2) := by decide +kernel
theorem dX2_tell_219 : decode cX2_tell 219 = .ok (.invokevirtual 52, 3) := by decide +kernel
theorem dX2_tell_222 : decode cX2_tell 222 = .ok (.ifCond .eq 7, 3) := by decide +kernel
theorem dX2_tell_225 : decode cX2_tell 225 = .ok (.iconst 1, 1) := by decide +kernel
theorem dX2_tell_226 : decode cX2_tell 226 = .ok (.goto 4, 3) := by decide +kernel
theorem dX2_tell_229 : decode cX2_tell 229 = .ok (.iconst 0, 1) := by decide +kernel
theorem dX2_tell_230 : decode cX2_tell 230 = .ok (.ireturn, 1) := by decide +kernel
theorem dX2_tellFacts_0 : decode cX2_tellFacts 0 = .ok (.aload_n 0, 1) := by decide +kernel
theorem dX2_tellFacts_1 : decode cX2_tellFacts 1 = .ok (.getfield 69, 3) := by decide +kernel
theorem dX2_tellFacts_4 : decode cX2_tellFacts 4 = .ok (.ifCond .ne 14, 3) := by decide +kernel
theorem dX2_tellFacts_7 : decode cX2_tellFacts 7 = .ok (.iload_n 1, 1) := by decide +kernel
theorem dX2_tellFacts_8 : decode cX2_tellFacts 8 = .ok (.iconst 1, 1) := by decide +kernel
theorem dX2_tellFacts_9 : decode cX2_tellFacts 9 = .ok (.if_icmp .lt 9, 3) := by decide +kernel
theorem dX2_tellFacts_12 : decode cX2_tellFacts 12 = .ok (.iload_n 1, 1) := by decide +kernel
theorem dX2_tellFacts_13 : decode cX2_tellFacts 13 = .ok (.bipush 8, 2) := by decide +kernel
theorem dX2_tellFacts_15 : decode cX2_tellFacts 15 = .ok (.if_icmp .le 5, 3) := by decide +kernel
theorem dX2_tellFacts_18 : decode cX2_tellFacts 18 = .ok (.iconst 0, 1) := by decide +kernel
theorem dX2_tellFacts_19 : decode cX2_tellFacts 19 = .ok (.ireturn, 1) := by decide +kernel
theorem dX2_tellFacts_20 : decode cX2_tellFacts 20 = .ok (.aload_n 0, 1) := by decide +kernel
theorem dX2_tellFacts_21 : decode cX2_tellFacts 21 = .ok (.iload_n 1, 1) := by decide +kernel
theorem dX2_tellFacts_22 : decode cX2_tellFacts 22 = .ok (.putfield 95, 3) := by decide +kernel
theorem dX2_tellFacts_25 : decode cX2_tellFacts 25 = .ok (.iconst 1, 1) := by decide +kernel
theorem dX2_tellFacts_26 : decode cX2_tellFacts 26 = .ok (.ireturn, 1) := by decide +kernel
theorem dX2_tellFirst_0 : decode cX2_tellFirst 0 = .ok (.aload_n 0, 1) := by decide +kernel
theorem dX2_tellFirst_1 : decode cX2_tellFirst 1 = .ok (.iload_n 1, 1) := by decide +kernel
theorem dX2_tellFirst_2 : decode cX2_tellFirst 2 = .ok (.invokevirtual 98, 3) := by decide +kernel
theorem dX2_tellFirst_5 : decode cX2_tellFirst 5 = .ok (.ifCond .ne 5, 3) := by decide +kernel
theorem dX2_tellFirst_8 : decode cX2_tellFirst 8 = .ok (.iconst 0, 1) := by decide +kernel
theorem dX2_tellFirst_9 : decode cX2_tellFirst 9 = .ok (.ireturn, 1) := by decide +kernel
theorem dX2_tellFirst_10 : decode cX2_tellFirst 10 = .ok (.aload_n 0, 1) := by decide +kernel
theorem dX2_tellFirst_11 : decode cX2_tellFirst 11 = .ok (.dup, 1) := by decide +kernel
theorem dX2_tellFirst_12 : decode cX2_tellFirst 12 = .ok (.getfield 101, 3) := by decide +kernel
theorem dX2_tellFirst_15 : decode cX2_tellFirst 15 = .ok (.iconst 1, 1) := by decide +kernel
theorem dX2_tellFirst_16 : decode cX2_tellFirst 16 = .ok (.iload_n 1, 1) := by decide +kernel
theorem dX2_tellFirst_17 : decode cX2_tellFirst 17 = .ok (.ishl, 1) := by decide +kernel
theorem dX2_tellFirst_18 : decode cX2_tellFirst 18 = .ok (.ior, 1) := by decide +kernel
theorem dX2_tellFirst_19 : decode cX2_tellFirst 19 = .ok (.putfield 101, 3) := by decide +kernel
theorem dX2_tellFirst_22 : decode cX2_tellFirst 22 = .ok (.iconst 1, 1) := by decide +kernel
theorem dX2_tellFirst_23 : decode cX2_tellFirst 23 = .ok (.ireturn, 1) := by decide +kernel
theorem dX3_init_0 : decode cX3_init 0 = .ok (.aload_n 0, 1) := by decide +kernel
theorem dX3_init_1 : decode cX3_init 1 = .ok (.invokespecial 3, 3) := by decide +kernel
theorem dX3_init_4 : decode cX3_init 4 = .ok (.aload_n 0, 1) := by decide +kernel
theorem dX3_init_5 : decode cX3_init 5 = .ok (.new 9, 3) := by decide +kernel
theorem dX3_init_8 : decode cX3_init 8 = .ok (.dup, 1) := by decide +kernel
theorem dX3_init_9 : decode cX3_init 9 = .ok (.bipush 10, 2) := by decide +kernel
theorem dX3_init_11 : decode cX3_init 11 = .ok (.iconst 2, 1) := by decide +kernel
theorem dX3_init_12 : decode cX3_init 12 = .ok (.invokespecial 11, 3) := by decide +kernel
theorem dX3_init_15 : decode cX3_init 15 = .ok (.putfield 14, 3) := by decide +kernel
theorem dX3_init_18 : decode cX3_init 18 = .ok (.aload_n 0, 1) := by decide +kernel
theorem dX3_init_19 : decode cX3_init 19 = .ok (.new 9, 3) := by decide +kernel
theorem dX3_init_22 : decode cX3_init 22 = .ok (.dup, 1) := by decide +kernel
theorem dX3_init_23 : decode cX3_init 23 = .ok (.iconst 5, 1) := by decide +kernel
theorem dX3_init_24 : decode cX3_init 24 = .ok (.iconst 2, 1) := by decide +kernel
theorem dX3_init_25 : decode cX3_init 25 = .ok (.invokespecial 11, 3) := by decide +kernel
theorem dX3_init_28 : decode cX3_init 28 = .ok (.putfield 20, 3) := by decide +kernel
theorem dX3_init_31 : decode cX3_init 31 = .ok (.aload_n 0, 1) := by decide +kernel
theorem dX3_init_32 : decode cX3_init 32 = .ok (.new 9, 3) := by decide +kernel
theorem dX3_init_35 : decode cX3_init 35 = .ok (.dup, 1) := by decide +kernel
theorem dX3_init_36 : decode cX3_init 36 = .ok (.iconst 5, 1) := by decide +kernel
theorem dX3_init_37 : decode cX3_init 37 = .ok (.iconst 3, 1) := by decide +kernel
theorem dX3_init_38 : decode cX3_init 38 = .ok (.invokespecial 11, 3) := by decide +kernel
theorem dX3_init_41 : decode cX3_init 41 = .ok (.putfield 23, 3) := by decide +kernel
theorem dX3_init_44 : decode cX3_init 44 = .ok (.aload_n 0, 1) := by decide +kernel
theorem dX3_init_45 : decode cX3_init 45 = .ok (.new 9, 3) := by decide +kernel
theorem dX3_init_48 : decode cX3_init 48 = .ok (.dup, 1) := by decide +kernel
theorem dX3_init_49 : decode cX3_init 49 = .ok (.bipush 6, 2) := by decide +kernel
theorem dX3_init_51 : decode cX3_init 51 = .ok (.iconst 3, 1) := by decide +kernel
theorem dX3_init_52 : decode cX3_init 52 = .ok (.invokespecial 11, 3) := by decide +kernel
theorem dX3_init_55 : decode cX3_init 55 = .ok (.putfield 26, 3) := by decide +kernel
theorem dX3_init_58 : decode cX3_init 58 = .ok (.aload_n 0, 1) := by decide +kernel
theorem dX3_init_59 : decode cX3_init 59 = .ok (.new 9, 3) := by decide +kernel
theorem dX3_init_62 : decode cX3_init 62 = .ok (.dup, 1) := by decide +kernel
theorem dX3_init_63 : decode cX3_init 63 = .ok (.sipush 256, 3) := by decide +kernel
theorem dX3_init_66 : decode cX3_init 66 = .ok (.iconst 2, 1) := by decide +kernel
theorem dX3_init_67 : decode cX3_init 67 = .ok (.invokespecial 11, 3) := by decide +kernel
theorem dX3_init_70 : decode cX3_init 70 = .ok (.putfield 29, 3) := by decide +kernel
theorem dX3_init_73 : decode cX3_init 73 = .ok (.return_, 1) := by decide +kernel
theorem dX3_clear_0 : decode cX3_clear 0 = .ok (.aload_n 0, 1) := by decide +kernel
theorem dX3_clear_1 : decode cX3_clear 1 = .ok (.getfield 14, 3) := by decide +kernel
theorem dX3_clear_4 : decode cX3_clear 4 = .ok (.invokevirtual 32, 3) := by decide +kernel
theorem dX3_clear_7 : decode cX3_clear 7 = .ok (.aload_n 0, 1) := by decide +kernel
theorem dX3_clear_8 : decode cX3_clear 8 = .ok (.getfield 20, 3) := by decide +kernel
theorem dX3_clear_11 : decode cX3_clear 11 = .ok (.invokevirtual 32, 3) := by decide +kernel
theorem dX3_clear_14 : decode cX3_clear 14 = .ok (.aload_n 0, 1) := by decide +kernel
theorem dX3_clear_15 : decode cX3_clear 15 = .ok (.getfield 23, 3) := by decide +kernel
theorem dX3_clear_18 : decode cX3_clear 18 = .ok (.invokevirtual 32, 3) := by decide +kernel
theorem dX3_clear_21 : decode cX3_clear 21 = .ok (.aload_n 0, 1) := by decide +kernel
theorem dX3_clear_22 : decode cX3_clear 22 = .ok (.getfield 26, 3) := by decide +kernel
theorem dX3_clear_25 : decode cX3_clear 25 = .ok (.invokevirtual 32, 3) := by decide +kernel
theorem dX3_clear_28 : decode cX3_clear 28 = .ok (.aload_n 0, 1) := by decide +kernel
theorem dX3_clear_29 : decode cX3_clear 29 = .ok (.getfield 29, 3) := by decide +kernel
theorem dX3_clear_32 : decode cX3_clear 32 = .ok (.invokevirtual 32, 3) := by decide +kernel
theorem dX3_clear_35 : decode cX3_clear 35 = .ok (.aload_n 0, 1) := by decide +kernel
theorem dX3_clear_36 : decode cX3_clear 36 = .ok (.iconst 4, 1) := by decide +kernel
theorem dX3_clear_37 : decode cX3_clear 37 = .ok (.putfield 35, 3) := by decide +kernel
theorem dX3_clear_40 : decode cX3_clear 40 = .ok (.aload_n 0, 1) := by decide +kernel
theorem dX3_clear_41 : decode cX3_clear 41 = .ok (.iconst 0, 1) := by decide +kernel
theorem dX3_clear_42 : decode cX3_clear 42 = .ok (.putfield 39, 3) := by decide +kernel
theorem dX3_clear_45 : decode cX3_clear 45 = .ok (.aload_n 0, 1) := by decide +kernel
theorem dX3_clear_46 : decode cX3_clear 46 = .ok (.iconst 0, 1) := by decide +kernel
theorem dX3_clear_47 : decode cX3_clear 47 = .ok (.putfield 42, 3) := by decide +kernel
theorem dX3_clear_50 : decode cX3_clear 50 = .ok (.return_, 1) := by decide +kernel
theorem dX3_isFact_0 : decode cX3_isFact 0 = .ok (.iload_n 1, 1) := by decide +kernel
theorem dX3_isFact_1 : decode cX3_isFact 1 = .ok (.ifCond .lt 15, 3) := by decide +kernel
theorem dX3_isFact_4 : decode cX3_isFact 4 = .ok (.iload_n 1, 1) := by decide +kernel
theorem dX3_isFact_5 : decode cX3_isFact 5 = .ok (.aload_n 0, 1) := by decide +kernel
theorem dX3_isFact_6 : decode cX3_isFact 6 = .ok (.getfield 35, 3) := by decide +kernel
theorem dX3_isFact_9 : decode cX3_isFact 9 = .ok (.if_icmp .ge 7, 3) := by decide +kernel
theorem dX3_isFact_12 : decode cX3_isFact 12 = .ok (.iconst 1, 1) := by decide +kernel
theorem dX3_isFact_13 : decode cX3_isFact 13 = .ok (.goto 4, 3) := by decide +kernel
theorem dX3_isFact_16 : decode cX3_isFact 16 = .ok (.iconst 0, 1) := by decide +kernel
theorem dX3_isFact_17 : decode cX3_isFact 17 = .ok (.ireturn, 1) := by decide +kernel
theorem dX3_isSaying_0 : decode cX3_isSaying 0 = .ok (.iload_n 1, 1) := by decide +kernel
theorem dX3_isSaying_1 : decode cX3_isSaying 1 = .ok (.ifCond .lt 17, 3) := by decide +kernel
theorem dX3_isSaying_4 : decode cX3_isSaying 4 = .ok (.iload_n 1, 1) := by decide +kernel
theorem dX3_isSaying_5 : decode cX3_isSaying 5 = .ok (.iconst 2, 1) := by decide +kernel
theorem dX3_isSaying_6 : decode cX3_isSaying 6 = .ok (.aload_n 0, 1) := by decide +kernel
theorem dX3_isSaying_7 : decode cX3_isSaying 7 = .ok (.getfield 35, 3) := by decide +kernel
theorem dX3_isSaying_10 : decode cX3_isSaying 10 = .ok (.imul, 1) := by decide +kernel
theorem dX3_isSaying_11 : decode cX3_isSaying 11 = .ok (.if_icmp .ge 7, 3) := by decide +kernel
theorem dX3_isSaying_14 : decode cX3_isSaying 14 = .ok (.iconst 1, 1) := by decide +kernel
theorem dX3_isSaying_15 : decode cX3_isSaying 15 = .ok (.goto 4, 3) := by decide +kernel
theorem dX3_isSaying_18 : decode cX3_isSaying 18 = .ok (.iconst 0, 1) := by decide +kernel
theorem dX3_isSaying_19 : decode cX3_isSaying 19 = .ok (.ireturn, 1) := by decide +kernel
theorem dX3_isSet_0 : decode cX3_isSet 0 = .ok (.iload_n 1, 1) := by decide +kernel
theorem dX3_isSet_1 : decode cX3_isSet 1 = .ok (.ifCond .lt 15, 3) := by decide +kernel
theorem dX3_isSet_4 : decode cX3_isSet 4 = .ok (.iload_n 1, 1) := by decide +kernel
theorem dX3_isSet_5 : decode cX3_isSet 5 = .ok (.aload_n 0, 1) := by decide +kernel
theorem dX3_isSet_6 : decode cX3_isSet 6 = .ok (.invokevirtual 46, 3) := by decide +kernel
theorem dX3_isSet_9 : decode cX3_isSet 9 = .ok (.if_icmp .gt 7, 3) := by decide +kernel
theorem dX3_isSet_12 : decode cX3_isSet 12 = .ok (.iconst 1, 1) := by decide +kernel
theorem dX3_isSet_13 : decode cX3_isSet 13 = .ok (.goto 4, 3) := by decide +kernel
theorem dX3_isSet_16 : decode cX3_isSet 16 = .ok (.iconst 0, 1) := by decide +kernel
theorem dX3_isSet_17 : decode cX3_isSet 17 = .ok (.ireturn, 1) := by decide +kernel
theorem dX3_allFacts_0 : decode cX3_allFacts 0 = .ok (.iconst 1, 1) := by decide +kernel
theorem dX3_allFacts_1 : decode cX3_allFacts 1 = .ok (.aload_n 0, 1) := by decide +kernel
theorem dX3_allFacts_2 : decode cX3_allFacts 2 = .ok (.getfield 35, 3) := by decide +kernel
theorem dX3_allFacts_5 : decode cX3_allFacts 5 = .ok (.ishl, 1) := by decide +kernel
theorem dX3_allFacts_6 : decode cX3_allFacts 6 = .ok (.iconst 1, 1) := by decide +kernel
theorem dX3_allFacts_7 : decode cX3_allFacts 7 = .ok (.isub, 1) := by decide +kernel
theorem dX3_allFacts_8 : decode cX3_allFacts 8 = .ok (.ireturn, 1) := by decide +kernel
theorem dX3_isWorld_0 : decode cX3_isWorld 0 = .ok (.iconst 0, 1) := by decide +kernel
theorem dX3_isWorld_1 : decode cX3_isWorld 1 = .ok (.istore_n 2, 1) := by decide +kernel
theorem dX3_isWorld_2 : decode cX3_isWorld 2 = .ok (.iload_n 2, 1) := by decide +kernel
theorem dX3_isWorld_3 : decode cX3_isWorld 3 = .ok (.aload_n 0, 1) := by decide +kernel
theorem dX3_isWorld_4 : decode cX3_isWorld 4 = .ok (.getfield 14, 3) := by decide +kernel
theorem dX3_isWorld_7 : decode cX3_isWorld 7 = .ok (.invokevirtual 50, 3) := by decide +kernel
theorem dX3_isWorld_10 : decode cX3_isWorld 10 = .ok (.if_icmp .ge 43, 3) := by decide +kernel
theorem dX3_isWorld_13 : decode cX3_isWorld 13 = .ok (.aload_n 0, 1) := by decide +kernel
theorem dX3_isWorld_14 : decode cX3_isWorld 14 = .ok (.getfield 14, 3) := by decide +kernel
theorem dX3_isWorld_17 : decode cX3_isWorld 17 = .ok (.iload_n 2, 1) := by decide +kernel
theorem dX3_isWorld_18 : decode cX3_isWorld 18 = .ok (.iconst 0, 1) := by decide +kernel
theorem dX3_isWorld_19 : decode cX3_isWorld 19 = .ok (.invokevirtual 53, 3) := by decide +kernel
theorem dX3_isWorld_22 : decode cX3_isWorld 22 = .ok (.iload_n 1, 1) := by decide +kernel
theorem dX3_isWorld_23 : decode cX3_isWorld 23 = .ok (.invokestatic 57, 3) := by decide +kernel
theorem dX3_isWorld_26 : decode cX3_isWorld 26 = .ok (.ifCond .eq 21, 3) := by decide +kernel
theorem dX3_isWorld_29 : decode cX3_isWorld 29 = .ok (.aload_n 0, 1) := by decide +kernel
theorem dX3_isWorld_30 : decode cX3_isWorld 30 = .ok (.getfield 14, 3) := by decide +kernel
theorem dX3_isWorld_33 : decode cX3_isWorld 33 = .ok (.iload_n 2, 1) := by decide +kernel
theorem dX3_isWorld_34 : decode cX3_isWorld 34 = .ok (.iconst 1, 1) := by decide +kernel
theorem dX3_isWorld_35 : decode cX3_isWorld 35 = .ok (.invokevirtual 53, 3) := by decide +kernel
theorem dX3_isWorld_38 : decode cX3_isWorld 38 = .ok (.iload_n 1, 1) := by decide +kernel
theorem dX3_isWorld_39 : decode cX3_isWorld 39 = .ok (.invokestatic 57, 3) := by decide +kernel
theorem dX3_isWorld_42 : decode cX3_isWorld 42 = .ok (.ifCond .ne 5, 3) := by decide +kernel
theorem dX3_isWorld_45 : decode cX3_isWorld 45 = .ok (.iconst 0, 1) := by decide +kernel
theorem dX3_isWorld_46 : decode cX3_isWorld 46 = .ok (.ireturn, 1) := by decide +kernel
theorem dX3_isWorld_47 : decode cX3_isWorld 47 = .ok (.iinc 2 1, 3) := by decide +kernel
theorem dX3_isWorld_50 : decode cX3_isWorld 50 = .ok (.goto (-48), 3) := by decide +kernel
theorem dX3_isWorld_53 : decode cX3_isWorld 53 = .ok (.aload_n 0, 1) := by decide +kernel
theorem dX3_isWorld_54 : decode cX3_isWorld 54 = .ok (.iload_n 1, 1) := by decide +kernel
theorem dX3_isWorld_55 : decode cX3_isWorld 55 = .ok (.invokevirtual 61, 3) := by decide +kernel
theorem dX3_isWorld_58 : decode cX3_isWorld 58 = .ok (.ireturn, 1) := by decide +kernel
theorem dX3_findWorlds_0 : decode cX3_findWorlds 0 = .ok (.iconst 0, 1) := by decide +kernel
theorem dX3_findWorlds_1 : decode cX3_findWorlds 1 = .ok (.istore_n 1, 1) := by decide +kernel
theorem dX3_findWorlds_2 : decode cX3_findWorlds 2 = .ok (.iload_n 1, 1) := by decide +kernel
theorem dX3_findWorlds_3 : decode cX3_findWorlds 3 = .ok (.aload_n 0, 1) := by decide +kernel
theorem dX3_findWorlds_4 : decode cX3_findWorlds 4 = .ok (.invokevirtual 46, 3) := by decide +kernel
theorem dX3_findWorlds_7 : decode cX3_findWorlds 7 = .ok (.if_icmp .gt 32, 3) := by decide +kernel
theorem dX3_findWorlds_10 : decode cX3_findWorlds 10 = .ok (.aload_n 0, 1) := by decide +kernel
theorem dX3_findWorlds_11 : decode cX3_findWorlds 11 = .ok (.iload_n 1, 1) := by decide +kernel
theorem dX3_findWorlds_12 : decode cX3_findWorlds 12 = .ok (.invokevirtual 65, 3) := by decide +kernel
theorem dX3_findWorlds_15 : decode cX3_findWorlds 15 = .ok (.ifCond .eq 18, 3) := by decide +kernel
theorem dX3_findWorlds_18 : decode cX3_findWorlds 18 = .ok (.aload_n 0, 1) := by decide +kernel
theorem dX3_findWorlds_19 : decode cX3_findWorlds 19 = .ok (.getfield 29, 3) := by decide +kernel
theorem dX3_findWorlds_22 : decode cX3_findWorlds 22 = .ok (.iload_n 1, 1) := by decide +kernel
theorem dX3_findWorlds_23 : decode cX3_findWorlds 23 = .ok (.aload_n 0, 1) := by decide +kernel
theorem dX3_findWorlds_24 : decode cX3_findWorlds 24 = .ok (.iload_n 1, 1) := by decide +kernel
theorem dX3_findWorlds_25 : decode cX3_findWorlds 25 = .ok (.invokevirtual 68, 3) := by decide +kernel
theorem dX3_findWorlds_28 : decode cX3_findWorlds 28 = .ok (.iconst 0, 1) := by decide +kernel
theorem dX3_findWorlds_29 : decode cX3_findWorlds 29 = .ok (.invokevirtual 72, 3) := by decide +kernel
theorem dX3_findWorlds_32 : decode cX3_findWorlds 32 = .ok (.pop, 1) := by decide +kernel
theorem dX3_findWorlds_33 : decode cX3_findWorlds 33 = .ok (.iinc 1 1, 3) := by decide +kernel
theorem dX3_findWorlds_36 : decode cX3_findWorlds 36 = .ok (.goto (-34), 3) := by decide +kernel
theorem dX3_findWorlds_39 : decode cX3_findWorlds 39 = .ok (.return_, 1) := by decide +kernel
theorem dX3_sayingsIn_0 : decode cX3_sayingsIn 0 = .ok (.iconst 0, 1) := by decide +kernel
theorem dX3_sayingsIn_1 : decode cX3_sayingsIn 1 = .ok (.istore_n 2, 1) := by decide +kernel
theorem dX3_sayingsIn_2 : decode cX3_sayingsIn 2 = .ok (.iconst 0, 1) := by decide +kernel
theorem dX3_sayingsIn_3 : decode cX3_sayingsIn 3 = .ok (.istore_n 3, 1) := by decide +kernel
theorem dX3_sayingsIn_4 : decode cX3_sayingsIn 4 = .ok (.iload_n 3, 1) := by decide +kernel
theorem dX3_sayingsIn_5 : decode cX3_sayingsIn 5 = .ok (.aload_n 0, 1) := by decide +kernel
theorem dX3_sayingsIn_6 : decode cX3_sayingsIn 6 = .ok (.getfield 35, 3) := by decide +kernel
theorem dX3_sayingsIn_9 : decode cX3_sayingsIn 9 = .ok (.if_icmp .ge 19, 3) := by decide +kernel
theorem dX3_sayingsIn_12 : decode cX3_sayingsIn 12 = .ok (.iload_n 2, 1) := by decide +kernel
theorem dX3_sayingsIn_13 : decode cX3_sayingsIn 13 = .ok (.iconst 1, 1) := by decide +kernel
theorem dX3_sayingsIn_14 : decode cX3_sayingsIn 14 = .ok (.iload_n 3, 1) := by decide +kernel
theorem dX3_sayingsIn_15 : decode cX3_sayingsIn 15 = .ok (.iload_n 1, 1) := by decide +kernel
theorem dX3_sayingsIn_16 : decode cX3_sayingsIn 16 = .ok (.invokestatic 76, 3) := by decide +kernel
theorem dX3_sayingsIn_19 : decode cX3_sayingsIn 19 = .ok (.ishl, 1) := by decide +kernel
theorem dX3_sayingsIn_20 : decode cX3_sayingsIn 20 = .ok (.ior, 1) := by decide +kernel
theorem dX3_sayingsIn_21 : decode cX3_sayingsIn 21 = .ok (.istore_n 2, 1) := by decide +kernel
theorem dX3_sayingsIn_22 : decode cX3_sayingsIn 22 = .ok (.iinc 3 1, 3) := by decide +kernel
theorem dX3_sayingsIn_25 : decode cX3_sayingsIn 25 = .ok (.goto (-21), 3) := by decide +kernel
theorem dX3_sayingsIn_28 : decode cX3_sayingsIn 28 = .ok (.iload_n 2, 1) := by decide +kernel
theorem dX3_sayingsIn_29 : decode cX3_sayingsIn 29 = .ok (.ireturn, 1) := by decide +kernel
theorem dX3_factsSaid_0 : decode cX3_factsSaid 0 = .ok (.iconst 0, 1) := by decide +kernel
theorem dX3_factsSaid_1 : decode cX3_factsSaid 1 = .ok (.istore_n 3, 1) := by decide +kernel
theorem dX3_factsSaid_2 : decode cX3_factsSaid 2 = .ok (.iconst 0, 1) := by decide +kernel
theorem dX3_factsSaid_3 : decode cX3_factsSaid 3 = .ok (.istore 4, 2) := by decide +kernel
theorem dX3_factsSaid_5 : decode cX3_factsSaid 5 = .ok (.iload 4, 2) := by decide +kernel
theorem dX3_factsSaid_7 : decode cX3_factsSaid 7 = .ok (.aload_n 0, 1) := by decide +kernel
theorem dX3_factsSaid_8 : decode cX3_factsSaid 8 = .ok (.getfield 35, 3) := by decide +kernel
theorem dX3_factsSaid_11 : decode cX3_factsSaid 11 = .ok (.if_icmp .ge 25, 3) := by decide +kernel
theorem dX3_factsSaid_14 : decode cX3_factsSaid 14 = .ok (.iload_n 3, 1) := by decide +kernel
theorem dX3_factsSaid_15 : decode cX3_factsSaid 15 = .ok (.iload_n 1, 1) := by decide +kernel
theorem dX3_factsSaid_16 : decode cX3_factsSaid 16 = .ok (.iconst 2, 1) := by decide +kernel
theorem dX3_factsSaid_17 : decode cX3_factsSaid 17 = .ok (.iload 4, 2) := by decide +kernel
theorem dX3_factsSaid_19 : decode cX3_factsSaid 19 = .ok (.imul, 1) := by decide +kernel
theorem dX3_factsSaid_20 : decode cX3_factsSaid 20 = .ok (.iload_n 2, 1) := by decide +kernel
theorem dX3_factsSaid_21 : decode cX3_factsSaid 21 = .ok (.iadd, 1) := by decide +kernel
theorem dX3_factsSaid_22 : decode cX3_factsSaid 22 = .ok (.ishr, 1) := by decide +kernel
theorem dX3_factsSaid_23 : decode cX3_factsSaid 23 = .ok (.iconst 1, 1) := by decide +kernel
theorem dX3_factsSaid_24 : decode cX3_factsSaid 24 = .ok (.iand, 1) := by decide +kernel
theorem dX3_factsSaid_25 : decode cX3_factsSaid 25 = .ok (.iload 4, 2) := by decide +kernel
theorem dX3_factsSaid_27 : decode cX3_factsSaid 27 = .ok (.ishl, 1) := by decide +kernel
theorem dX3_factsSaid_28 : decode cX3_factsSaid 28 = .ok (.ior, 1) := by decide +kernel
theorem dX3_factsSaid_29 : decode cX3_factsSaid 29 = .ok (.istore_n 3, 1) := by decide +kernel
theorem dX3_factsSaid_30 : decode cX3_factsSaid 30 = .ok (.iinc 4 1, 3) := by decide +kernel
theorem dX3_factsSaid_33 : decode cX3_factsSaid 33 = .ok (.goto (-28), 3) := by decide +kernel
theorem dX3_factsSaid_36 : decode cX3_factsSaid 36 = .ok (.iload_n 3, 1) := by decide +kernel
theorem dX3_factsSaid_37 : decode cX3_factsSaid 37 = .ok (.ireturn, 1) := by decide +kernel
theorem dX3_isPossible_0 : decode cX3_isPossible 0 = .ok (.iconst 0, 1) := by decide +kernel
theorem dX3_isPossible_1 : decode cX3_isPossible 1 = .ok (.istore_n 2, 1) := by decide +kernel
theorem dX3_isPossible_2 : decode cX3_isPossible 2 = .ok (.iload_n 2, 1) := by decide +kernel
theorem dX3_isPossible_3 : decode cX3_isPossible 3 = .ok (.aload_n 0, 1) := by decide +kernel
theorem dX3_isPossible_4 : decode cX3_isPossible 4 = .ok (.getfield 29, 3) := by decide +kernel
theorem dX3_isPossible_7 : decode cX3_isPossible 7 = .ok (.invokevirtual 50, 3) := by decide +kernel
theorem dX3_isPossible_10 : decode cX3_isPossible 10 = .ok (.if_icmp .ge 26, 3) := by decide +kernel
theorem dX3_isPossible_13 : decode cX3_isPossible 13 = .ok (.aload_n 0, 1) := by decide +kernel
theorem dX3_isPossible_14 : decode cX3_isPossible 14 = .ok (.getfield 29, 3) := by decide +kernel
theorem dX3_isPossible_17 : decode cX3_isPossible 17 = .ok (.iload_n 2, 1) := by decide +kernel
theorem dX3_isPossible_18 : decode cX3_isPossible 18 = .ok (.iconst 1, 1) := by decide +kernel
theorem dX3_isPossible_19 : decode cX3_isPossible 19 = .ok (.invokevirtual 53, 3) := by decide +kernel
theorem dX3_isPossible_22 : decode cX3_isPossible 22 = .ok (.iload_n 1, 1) := by decide +kernel
theorem dX3_isPossible_23 : decode cX3_isPossible 23 = .ok (.iand, 1) := by decide +kernel
theorem dX3_isPossible_24 : decode cX3_isPossible 24 = .ok (.iload_n 1, 1) := by decide +kernel
theorem dX3_isPossible_25 : decode cX3_isPossible 25 = .ok (.if_icmp .ne 5, 3) := by decide +kernel
theorem dX3_isPossible_28 : decode cX3_isPossible 28 = .ok (.iconst 1, 1) := by decide +kernel
theorem dX3_isPossible_29 : decode cX3_isPossible 29 = .ok (.ireturn, 1) := by decide +kernel
theorem dX3_isPossible_30 : decode cX3_isPossible 30 = .ok (.iinc 2 1, 3) := by decide +kernel
theorem dX3_isPossible_33 : decode cX3_isPossible 33 = .ok (.goto (-31), 3) := by decide +kernel
theorem dX3_isPossible_36 : decode cX3_isPossible 36 = .ok (.iconst 0, 1) := by decide +kernel
theorem dX3_isPossible_37 : decode cX3_isPossible 37 = .ok (.ireturn, 1) := by decide +kernel
theorem dX3_knownFrom_0 : decode cX3_knownFrom 0 = .ok (.iconst (-1), 1) := by decide +kernel
theorem dX3_knownFrom_1 : decode cX3_knownFrom 1 = .ok (.istore_n 2, 1) := by decide +kernel
theorem dX3_knownFrom_2 : decode cX3_knownFrom 2 = .ok (.iconst 0, 1) := by decide +kernel
theorem dX3_knownFrom_3 : decode cX3_knownFrom 3 = .ok (.istore_n 3, 1) := by decide +kernel
theorem dX3_knownFrom_4 : decode cX3_knownFrom 4 = .ok (.iload_n 3, 1) := by decide +kernel
theorem dX3_knownFrom_5 : decode cX3_knownFrom 5 = .ok (.aload_n 0, 1) := by decide +kernel
theorem dX3_knownFrom_6 : decode cX3_knownFrom 6 = .ok (.getfield 29, 3) := by decide +kernel
theorem dX3_knownFrom_9 : decode cX3_knownFrom 9 = .ok (.invokevirtual 50, 3) := by decide +kernel
theorem dX3_knownFrom_12 : decode cX3_knownFrom 12 = .ok (.if_icmp .ge 33, 3) := by decide +kernel
theorem dX3_knownFrom_15 : decode cX3_knownFrom 15 = .ok (.aload_n 0, 1) := by decide +kernel
theorem dX3_knownFrom_16 : decode cX3_knownFrom 16 = .ok (.getfield 29, 3) := by decide +kernel
theorem dX3_knownFrom_19 : decode cX3_knownFrom 19 = .ok (.iload_n 3, 1) := by decide +kernel
theorem dX3_knownFrom_20 : decode cX3_knownFrom 20 = .ok (.iconst 1, 1) := by decide +kernel
theorem dX3_knownFrom_21 : decode cX3_knownFrom 21 = .ok (.invokevirtual 53, 3) := by decide +kernel
theorem dX3_knownFrom_24 : decode cX3_knownFrom 24 = .ok (.istore 4, 2) := by decide +kernel
theorem dX3_knownFrom_26 : decode cX3_knownFrom 26 = .ok (.iload 4, 2) := by decide +kernel
theorem dX3_knownFrom_28 : decode cX3_knownFrom 28 = .ok (.iload_n 1, 1) := by decide +kernel
theorem dX3_knownFrom_29 : decode cX3_knownFrom 29 = .ok (.iand, 1) := by decide +kernel
theorem dX3_knownFrom_30 : decode cX3_knownFrom 30 = .ok (.iload_n 1, 1) := by decide +kernel
theorem dX3_knownFrom_31 : decode cX3_knownFrom 31 = .ok (.if_icmp .ne 8, 3) := by decide +kernel
theorem dX3_knownFrom_34 : decode cX3_knownFrom 34 = .ok (.iload_n 2, 1) := by decide +kernel
theorem dX3_knownFrom_35 : decode cX3_knownFrom 35 = .ok (.iload 4, 2) := by decide +kernel
theorem dX3_knownFrom_37 : decode cX3_knownFrom 37 = .ok (.iand, 1) := by decide +kernel
theorem dX3_knownFrom_38 : decode cX3_knownFrom 38 = .ok (.istore_n 2, 1) := by decide +kernel
theorem dX3_knownFrom_39 : decode cX3_knownFrom 39 = .ok (.iinc 3 1, 3) := by decide +kernel
theorem dX3_knownFrom_42 : decode cX3_knownFrom 42 = .ok (.goto (-38), 3) := by decide +kernel
theorem dX3_knownFrom_45 : decode cX3_knownFrom 45 = .ok (.iload_n 2, 1) := by decide +kernel
theorem dX3_knownFrom_46 : decode cX3_knownFrom 46 = .ok (.iconst (-1), 1) := by decide +kernel
theorem dX3_knownFrom_47 : decode cX3_knownFrom 47 = .ok (.if_icmp .ne 7, 3) := by decide +kernel
theorem dX3_knownFrom_50 : decode cX3_knownFrom 50 = .ok (.iconst 0, 1) := by decide +kernel
theorem dX3_knownFrom_51 : decode cX3_knownFrom 51 = .ok (.goto 4, 3) := by decide +kernel
theorem dX3_knownFrom_54 : decode cX3_knownFrom 54 = .ok (.iload_n 2, 1) := by decide +kernel
theorem dX3_knownFrom_55 : decode cX3_knownFrom 55 = .ok (.ireturn, 1) := by decide +kernel
theorem dX3_tells_0 : decode cX3_tells 0 = .ok (.iconst 0, 1) := by decide +kernel
theorem dX3_tells_1 : decode cX3_tells 1 = .ok (.istore 4, 2) := by decide +kernel
theorem dX3_tells_3 : decode cX3_tells 3 = .ok (.iload 4, 2) := by decide +kernel
theorem dX3_tells_5 : decode cX3_tells 5 = .ok (.aload_n 0, 1) := by decide +kernel
theorem dX3_tells_6 : decode cX3_tells 6 = .ok (.getfield 29, 3) := by decide +kernel
theorem dX3_tells_9 : decode cX3_tells 9 = .ok (.invokevirtual 50, 3) := by decide +kernel
theorem dX3_tells_12 : decode cX3_tells 12 = .ok (.if_icmp .ge 39, 3) := by decide +kernel
theorem dX3_tells_15 : decode cX3_tells 15 = .ok (.aload_n 0, 1) := by decide +kernel
theorem dX3_tells_16 : decode cX3_tells 16 = .ok (.getfield 29, 3) := by decide +kernel
theorem dX3_tells_19 : decode cX3_tells 19 = .ok (.iload 4, 2) := by decide +kernel
theorem dX3_tells_21 : decode cX3_tells 21 = .ok (.iconst 0, 1) := by decide +kernel
theorem dX3_tells_22 : decode cX3_tells 22 = .ok (.invokevirtual 53, 3) := by decide +kernel
theorem dX3_tells_25 : decode cX3_tells 25 = .ok (.iload_n 3, 1) := by decide +kernel
theorem dX3_tells_26 : decode cX3_tells 26 = .ok (.ixor, 1) := by decide +kernel
theorem dX3_tells_27 : decode cX3_tells 27 = .ok (.istore 5, 2) := by decide +kernel
theorem dX3_tells_29 : decode cX3_tells 29 = .ok (.iload 5, 2) := by decide +kernel
theorem dX3_tells_31 : decode cX3_tells 31 = .ok (.iload_n 1, 1) := by decide +kernel
theorem dX3_tells_32 : decode cX3_tells 32 = .ok (.iand, 1) := by decide +kernel
theorem dX3_tells_33 : decode cX3_tells 33 = .ok (.ifCond .ne 12, 3) := by decide +kernel
theorem dX3_tells_36 : decode cX3_tells 36 = .ok (.iload 5, 2) := by decide +kernel
theorem dX3_tells_38 : decode cX3_tells 38 = .ok (.iload_n 2, 1) := by decide +kernel
theorem dX3_tells_39 : decode cX3_tells 39 = .ok (.iand, 1) := by decide +kernel
theorem dX3_tells_40 : decode cX3_tells 40 = .ok (.ifCond .eq 5, 3) := by decide +kernel
theorem dX3_tells_43 : decode cX3_tells 43 = .ok (.iconst 0, 1) := by decide +kernel
theorem dX3_tells_44 : decode cX3_tells 44 = .ok (.ireturn, 1) := by decide +kernel
theorem dX3_tells_45 : decode cX3_tells 45 = .ok (.iinc 4 1, 3) := by decide +kernel
theorem dX3_tells_48 : decode cX3_tells 48 = .ok (.goto (-45), 3) := by decide +kernel
theorem dX3_tells_51 : decode cX3_tells 51 = .ok (.iconst 1, 1) := by decide +kernel
theorem dX3_tells_52 : decode cX3_tells 52 = .ok (.ireturn, 1) := by decide +kernel
theorem dX3_hoursAt_0 : decode cX3_hoursAt 0 = .ok (.aload_n 0, 1) := by decide +kernel
theorem dX3_hoursAt_1 : decode cX3_hoursAt 1 = .ok (.getfield 23, 3) := by decide +kernel
theorem dX3_hoursAt_4 : decode cX3_hoursAt 4 = .ok (.iload_n 1, 1) := by decide +kernel
theorem dX3_hoursAt_5 : decode cX3_hoursAt 5 = .ok (.iconst 2, 1) := by decide +kernel
theorem dX3_hoursAt_6 : decode cX3_hoursAt 6 = .ok (.invokevirtual 53, 3) := by decide +kernel
theorem dX3_hoursAt_9 : decode cX3_hoursAt 9 = .ok (.iconst 2, 1) := by decide +kernel
theorem dX3_hoursAt_10 : decode cX3_hoursAt 10 = .ok (.if_icmp .ne 7, 3) := by decide +kernel
theorem dX3_hoursAt_13 : decode cX3_hoursAt 13 = .ok (.iconst 1, 1) := by decide +kernel
theorem dX3_hoursAt_14 : decode cX3_hoursAt 14 = .ok (.goto 12, 3) := by decide +kernel
theorem dX3_hoursAt_17 : decode cX3_hoursAt 17 = .ok (.aload_n 0, 1) := by decide +kernel
theorem dX3_hoursAt_18 : decode cX3_hoursAt 18 = .ok (.getfield 23, 3) := by decide +kernel
theorem dX3_hoursAt_21 : decode cX3_hoursAt 21 = .ok (.iload_n 1, 1) := by decide +kernel
theorem dX3_hoursAt_22 : decode cX3_hoursAt 22 = .ok (.iconst 1, 1) := by decide +kernel
theorem dX3_hoursAt_23 : decode cX3_hoursAt 23 = .ok (.invokevirtual 53, 3) := by decide +kernel
theorem dX3_hoursAt_26 : decode cX3_hoursAt 26 = .ok (.ireturn, 1) := by decide +kernel
theorem dX3_wearsOff_0 : decode cX3_wearsOff 0 = .ok (.aload_n 0, 1) := by decide +kernel
theorem dX3_wearsOff_1 : decode cX3_wearsOff 1 = .ok (.getfield 23, 3) := by decide +kernel
theorem dX3_wearsOff_4 : decode cX3_wearsOff 4 = .ok (.iload_n 1, 1) := by decide +kernel
theorem dX3_wearsOff_5 : decode cX3_wearsOff 5 = .ok (.iconst 2, 1) := by decide +kernel
theorem dX3_wearsOff_6 : decode cX3_wearsOff 6 = .ok (.invokevirtual 53, 3) := by decide +kernel
theorem dX3_wearsOff_9 : decode cX3_wearsOff 9 = .ok (.istore_n 3, 1) := by decide +kernel
theorem dX3_wearsOff_10 : decode cX3_wearsOff 10 = .ok (.iload_n 3, 1) := by decide +kernel
theorem dX3_wearsOff_11 : decode cX3_wearsOff 11 = .ok (.iconst 1, 1) := by decide +kernel
theorem dX3_wearsOff_12 : decode cX3_wearsOff 12 = .ok (.if_icmp .ne 16, 3) := by decide +kernel
theorem dX3_wearsOff_15 : decode cX3_wearsOff 15 = .ok (.iload_n 2, 1) := by decide +kernel
theorem dX3_wearsOff_16 : decode cX3_wearsOff 16 = .ok (.aload_n 0, 1) := by decide +kernel
theorem dX3_wearsOff_17 : decode cX3_wearsOff 17 = .ok (.getfield 23, 3) := by decide +kernel
theorem dX3_wearsOff_20 : decode cX3_wearsOff 20 = .ok (.iload_n 1, 1) := by decide +kernel
theorem dX3_wearsOff_21 : decode cX3_wearsOff 21 = .ok (.iconst 1, 1) := by decide +kernel
theorem dX3_wearsOff_22 : decode cX3_wearsOff 22 = .ok (.invokevirtual 53, 3) := by decide +kernel
theorem dX3_wearsOff_25 : decode cX3_wearsOff 25 = .ok (.if_icmp .ge 13, 3) := by decide +kernel
theorem dX3_wearsOff_28 : decode cX3_wearsOff 28 = .ok (.iload_n 3, 1) := by decide +kernel
theorem dX3_wearsOff_29 : decode cX3_wearsOff 29 = .ok (.iconst 2, 1) := by decide +kernel
theorem dX3_wearsOff_30 : decode cX3_wearsOff 30 = .ok (.if_icmp .ne 12, 3) := by decide +kernel
theorem dX3_wearsOff_33 : decode cX3_wearsOff 33 = .ok (.iload_n 2, 1) := by decide +kernel
theorem dX3_wearsOff_34 : decode cX3_wearsOff 34 = .ok (.iconst 2, 1) := by decide +kernel
theorem dX3_wearsOff_35 : decode cX3_wearsOff 35 = .ok (.if_icmp .lt 7, 3) := by decide +kernel
theorem dX3_wearsOff_38 : decode cX3_wearsOff 38 = .ok (.iconst 1, 1) := by decide +kernel
theorem dX3_wearsOff_39 : decode cX3_wearsOff 39 = .ok (.goto 4, 3) := by decide +kernel
theorem dX3_wearsOff_42 : decode cX3_wearsOff 42 = .ok (.iconst 0, 1) := by decide +kernel
theorem dX3_wearsOff_43 : decode cX3_wearsOff 43 = .ok (.ireturn, 1) := by decide +kernel
theorem dX3_highestBidBut_0 : decode cX3_highestBidBut 0 = .ok (.iconst (-1), 1) := by decide +kernel
theorem dX3_highestBidBut_1 : decode cX3_highestBidBut 1 = .ok (.istore_n 2, 1) := by decide +kernel
theorem dX3_highestBidBut_2 : decode cX3_highestBidBut 2 = .ok (.iconst 0, 1) := by decide +kernel
theorem dX3_highestBidBut_3 : decode cX3_highestBidBut 3 = .ok (.istore_n 3, 1) := by decide +kernel
theorem dX3_highestBidBut_4 : decode cX3_highestBidBut 4 = .ok (.iload_n 3, 1) := by decide +kernel
theorem dX3_highestBidBut_5 : decode cX3_highestBidBut 5 = .ok (.aload_n 0, 1) := by decide +kernel
theorem dX3_highestBidBut_6 : decode cX3_highestBidBut 6 = .ok (.getfield 26, 3) := by decide +kernel
theorem dX3_highestBidBut_9 : decode cX3_highestBidBut 9 = .ok (.invokevirtual 50, 3) := by decide +kernel
theorem dX3_highestBidBut_12 : decode cX3_highestBidBut 12 = .ok (.if_icmp .ge 56, 3) := by decide +kernel
theorem dX3_highestBidBut_15 : decode cX3_highestBidBut 15 = .ok (.iload_n 1, 1) := by decide +kernel
theorem dX3_highestBidBut_16 : decode cX3_highestBidBut 16 = .ok (.iload_n 3, 1) := by decide +kernel
theorem dX3_highestBidBut_17 : decode cX3_highestBidBut 17 = .ok (.ishr, 1) := by decide +kernel
theorem dX3_highestBidBut_18 : decode cX3_highestBidBut 18 = .ok (.iconst 1, 1) := by decide +kernel
theorem dX3_highestBidBut_19 : decode cX3_highestBidBut 19 = .ok (.iand, 1) := by decide +kernel
theorem dX3_highestBidBut_20 : decode cX3_highestBidBut 20 = .ok (.ifCond .ne 7, 3) := by decide +kernel
theorem dX3_highestBidBut_23 : decode cX3_highestBidBut 23 = .ok (.iconst 1, 1) := by decide +kernel
theorem dX3_highestBidBut_24 : decode cX3_highestBidBut 24 = .ok (.goto 4, 3) := by decide +kernel
theorem dX3_highestBidBut_27 : decode cX3_highestBidBut 27 = .ok (.iconst 0, 1) := by decide +kernel
theorem dX3_highestBidBut_28 : decode cX3_highestBidBut 28 = .ok (.istore 4, 2) := by decide +kernel
theorem dX3_highestBidBut_30 : decode cX3_highestBidBut 30 = .ok (.iload 4, 2) := by decide +kernel
theorem dX3_highestBidBut_32 : decode cX3_highestBidBut 32 = .ok (.ifCond .eq 30, 3) := by decide +kernel
theorem dX3_highestBidBut_35 : decode cX3_highestBidBut 35 = .ok (.iload_n 2, 1) := by decide +kernel
theorem dX3_highestBidBut_36 : decode cX3_highestBidBut 36 = .ok (.ifCond .lt 24, 3) := by decide +kernel
theorem dX3_highestBidBut_39 : decode cX3_highestBidBut 39 = .ok (.aload_n 0, 1) := by decide +kernel
theorem dX3_highestBidBut_40 : decode cX3_highestBidBut 40 = .ok (.getfield 26, 3) := by decide +kernel
theorem dX3_highestBidBut_43 : decode cX3_highestBidBut 43 = .ok (.iload_n 3, 1) := by decide +kernel
theorem dX3_highestBidBut_44 : decode cX3_highestBidBut 44 = .ok (.iconst 2, 1) := by decide +kernel
theorem dX3_highestBidBut_45 : decode cX3_highestBidBut 45 = .ok (.invokevirtual 53, 3) := by decide +kernel
theorem dX3_highestBidBut_48 : decode cX3_highestBidBut 48 = .ok (.aload_n 0, 1) := by decide +kernel
theorem dX3_highestBidBut_49 : decode cX3_highestBidBut 49 = .ok (.getfield 26, 3) := by decide +kernel
theorem dX3_highestBidBut_52 : decode cX3_highestBidBut 52 = .ok (.iload_n 2, 1) := by decide +kernel
theorem dX3_highestBidBut_53 : decode cX3_highestBidBut 53 = .ok (.iconst 2, 1) := by decide +kernel
theorem dX3_highestBidBut_54 : decode cX3_highestBidBut 54 = .ok (.invokevirtual 53, 3) := by decide +kernel
theorem dX3_highestBidBut_57 : decode cX3_highestBidBut 57 = .ok (.if_icmp .le 5, 3) := by decide +kernel
theorem dX3_highestBidBut_60 : decode cX3_highestBidBut 60 = .ok (.iload_n 3, 1) := by decide +kernel
theorem dX3_highestBidBut_61 : decode cX3_highestBidBut 61 = .ok (.istore_n 2, 1) := by decide +kernel
theorem dX3_highestBidBut_62 : decode cX3_highestBidBut 62 = .ok (.iinc 3 1, 3) := by decide +kernel
theorem dX3_highestBidBut_65 : decode cX3_highestBidBut 65 = .ok (.goto (-61), 3) := by decide +kernel
theorem dX3_highestBidBut_68 : decode cX3_highestBidBut 68 = .ok (.iload_n 2, 1) := by decide +kernel
theorem dX3_highestBidBut_69 : decode cX3_highestBidBut 69 = .ok (.ireturn, 1) := by decide +kernel
theorem dX4_init_0 : decode cX4_init 0 = .ok (.aload_n 0, 1) := by decide +kernel
theorem dX4_init_1 : decode cX4_init 1 = .ok (.invokespecial 3, 3) := by decide +kernel
theorem dX4_init_4 : decode cX4_init 4 = .ok (.aload_n 0, 1) := by decide +kernel
theorem dX4_init_5 : decode cX4_init 5 = .ok (.new 9, 3) := by decide +kernel
theorem dX4_init_8 : decode cX4_init 8 = .ok (.dup, 1) := by decide +kernel
theorem dX4_init_9 : decode cX4_init 9 = .ok (.bipush 12, 2) := by decide +kernel
theorem dX4_init_11 : decode cX4_init 11 = .ok (.iconst 4, 1) := by decide +kernel
theorem dX4_init_12 : decode cX4_init 12 = .ok (.invokespecial 11, 3) := by decide +kernel
theorem dX4_init_15 : decode cX4_init 15 = .ok (.putfield 14, 3) := by decide +kernel
theorem dX4_init_18 : decode cX4_init 18 = .ok (.aload_n 0, 1) := by decide +kernel
theorem dX4_init_19 : decode cX4_init 19 = .ok (.new 9, 3) := by decide +kernel
theorem dX4_init_22 : decode cX4_init 22 = .ok (.dup, 1) := by decide +kernel
theorem dX4_init_23 : decode cX4_init 23 = .ok (.iconst 5, 1) := by decide +kernel
theorem dX4_init_24 : decode cX4_init 24 = .ok (.iconst 1, 1) := by decide +kernel
theorem dX4_init_25 : decode cX4_init 25 = .ok (.invokespecial 11, 3) := by decide +kernel
theorem dX4_init_28 : decode cX4_init 28 = .ok (.putfield 20, 3) := by decide +kernel
theorem dX4_init_31 : decode cX4_init 31 = .ok (.return_, 1) := by decide +kernel
theorem dX4_begin_0 : decode cX4_begin 0 = .ok (.aload_n 0, 1) := by decide +kernel
theorem dX4_begin_1 : decode cX4_begin 1 = .ok (.aload_n 1, 1) := by decide +kernel
theorem dX4_begin_2 : decode cX4_begin 2 = .ok (.getfield 23, 3) := by decide +kernel
theorem dX4_begin_5 : decode cX4_begin 5 = .ok (.putfield 29, 3) := by decide +kernel
theorem dX4_begin_8 : decode cX4_begin 8 = .ok (.aload_n 0, 1) := by decide +kernel
theorem dX4_begin_9 : decode cX4_begin 9 = .ok (.iconst 0, 1) := by decide +kernel
theorem dX4_begin_10 : decode cX4_begin 10 = .ok (.putfield 32, 3) := by decide +kernel
theorem dX4_begin_13 : decode cX4_begin 13 = .ok (.aload_n 0, 1) := by decide +kernel
theorem dX4_begin_14 : decode cX4_begin 14 = .ok (.getfield 14, 3) := by decide +kernel
theorem dX4_begin_17 : decode cX4_begin 17 = .ok (.invokevirtual 35, 3) := by decide +kernel
theorem dX4_begin_20 : decode cX4_begin 20 = .ok (.aload_n 0, 1) := by decide +kernel
theorem dX4_begin_21 : decode cX4_begin 21 = .ok (.aload_n 1, 1) := by decide +kernel
theorem dX4_begin_22 : decode cX4_begin 22 = .ok (.invokevirtual 38, 3) := by decide +kernel
theorem dX4_begin_25 : decode cX4_begin 25 = .ok (.return_, 1) := by decide +kernel
theorem dX4_copyFrom_0 : decode cX4_copyFrom 0 = .ok (.aload_n 0, 1) := by decide +kernel
theorem dX4_copyFrom_1 : decode cX4_copyFrom 1 = .ok (.getfield 14, 3) := by decide +kernel
theorem dX4_copyFrom_4 : decode cX4_copyFrom 4 = .ok (.aload_n 1, 1) := by decide +kernel
theorem dX4_copyFrom_5 : decode cX4_copyFrom 5 = .ok (.getfield 14, 3) := by decide +kernel
theorem dX4_copyFrom_8 : decode cX4_copyFrom 8 = .ok (.invokevirtual 42, 3) := by decide +kernel
theorem dX4_copyFrom_11 : decode cX4_copyFrom 11 = .ok (.aload_n 0, 1) := by decide +kernel
theorem dX4_copyFrom_12 : decode cX4_copyFrom 12 = .ok (.getfield 20, 3) := by decide +kernel
theorem dX4_copyFrom_15 : decode cX4_copyFrom 15 = .ok (.aload_n 1, 1) := by decide +kernel
theorem dX4_copyFrom_16 : decode cX4_copyFrom 16 = .ok (.getfield 20, 3) := by decide +kernel
theorem dX4_copyFrom_19 : decode cX4_copyFrom 19 = .ok (.invokevirtual 42, 3) := by decide +kernel
theorem dX4_copyFrom_22 : decode cX4_copyFrom 22 = .ok (.aload_n 0, 1) := by decide +kernel
theorem dX4_copyFrom_23 : decode cX4_copyFrom 23 = .ok (.aload_n 1, 1) := by decide +kernel
theorem dX4_copyFrom_24 : decode cX4_copyFrom 24 = .ok (.getfield 29, 3) := by decide +kernel
theorem dX4_copyFrom_27 : decode cX4_copyFrom 27 = .ok (.putfield 29, 3) := by decide +kernel
theorem dX4_copyFrom_30 : decode cX4_copyFrom 30 = .ok (.aload_n 0, 1) := by decide +kernel
theorem dX4_copyFrom_31 : decode cX4_copyFrom 31 = .ok (.aload_n 1, 1) := by decide +kernel
theorem dX4_copyFrom_32 : decode cX4_copyFrom 32 = .ok (.getfield 32, 3) := by decide +kernel
theorem dX4_copyFrom_35 : decode cX4_copyFrom 35 = .ok (.putfield 32, 3) := by decide +kernel
theorem dX4_copyFrom_38 : decode cX4_copyFrom 38 = .ok (.return_, 1) := by decide +kernel
theorem dX4_restoreHours_0 : decode cX4_restoreHours 0 = .ok (.aload_n 0, 1) := by decide +kernel
theorem dX4_restoreHours_1 : decode cX4_restoreHours 1 = .ok (.getfield 20, 3) := by decide +kernel
theorem dX4_restoreHours_4 : decode cX4_restoreHours 4 = .ok (.invokevirtual 35, 3) := by decide +kernel
theorem dX4_restoreHours_7 : decode cX4_restoreHours 7 = .ok (.iconst 0, 1) := by decide +kernel
theorem dX4_restoreHours_8 : decode cX4_restoreHours 8 = .ok (.istore_n 2, 1) := by decide +kernel
theorem dX4_restoreHours_9 : decode cX4_restoreHours 9 = .ok (.iload_n 2, 1) := by decide +kernel
theorem dX4_restoreHours_10 : decode cX4_restoreHours 10 = .ok (.aload_n 1, 1) := by decide +kernel
theorem dX4_restoreHours_11 : decode cX4_restoreHours 11 = .ok (.getfield 46, 3) := by decide +kernel
theorem dX4_restoreHours_14 : decode cX4_restoreHours 14 = .ok (.invokevirtual 49, 3) := by decide +kernel
theorem dX4_restoreHours_17 : decode cX4_restoreHours 17 = .ok (.if_icmp .ge 28, 3) := by decide +kernel
theorem dX4_restoreHours_20 : decode cX4_restoreHours 20 = .ok (.aload_n 0, 1) := by decide +kernel
theorem dX4_restoreHours_21 : decode cX4_restoreHours 21 = .ok (.getfield 20, 3) := by decide +kernel
theorem dX4_restoreHours_24 : decode cX4_restoreHours 24 = .ok (.aload_n 1, 1) := by decide +kernel
theorem dX4_restoreHours_25 : decode cX4_restoreHours 25 = .ok (.getfield 46, 3) := by decide +kernel
theorem dX4_restoreHours_28 : decode cX4_restoreHours 28 = .ok (.iload_n 2, 1) := by decide +kernel
theorem dX4_restoreHours_29 : decode cX4_restoreHours 29 = .ok (.iconst 0, 1) := by decide +kernel
theorem dX4_restoreHours_30 : decode cX4_restoreHours 30 = .ok (.invokevirtual 53, 3) := by decide +kernel
theorem dX4_restoreHours_33 : decode cX4_restoreHours 33 = .ok (.iconst 0, 1) := by decide +kernel
theorem dX4_restoreHours_34 : decode cX4_restoreHours 34 = .ok (.iconst 0, 1) := by decide +kernel
theorem dX4_restoreHours_35 : decode cX4_restoreHours 35 = .ok (.invokevirtual 57, 3) := by decide +kernel
theorem dX4_restoreHours_38 : decode cX4_restoreHours 38 = .ok (.pop, 1) := by decide +kernel
theorem dX4_restoreHours_39 : decode cX4_restoreHours 39 = .ok (.iinc 2 1, 3) := by decide +kernel
theorem dX4_restoreHours_42 : decode cX4_restoreHours 42 = .ok (.goto (-33), 3) := by decide +kernel
theorem dX4_restoreHours_45 : decode cX4_restoreHours 45 = .ok (.return_, 1) := by decide +kernel
theorem dX4_spend_0 : decode cX4_spend 0 = .ok (.aload_n 0, 1) := by decide +kernel
theorem dX4_spend_1 : decode cX4_spend 1 = .ok (.getfield 20, 3) := by decide +kernel
theorem dX4_spend_4 : decode cX4_spend 4 = .ok (.iload_n 1, 1) := by decide +kernel
theorem dX4_spend_5 : decode cX4_spend 5 = .ok (.iconst 0, 1) := by decide +kernel
theorem dX4_spend_6 : decode cX4_spend 6 = .ok (.aload_n 0, 1) := by decide +kernel
theorem dX4_spend_7 : decode cX4_spend 7 = .ok (.getfield 20, 3) := by decide +kernel
theorem dX4_spend_10 : decode cX4_spend 10 = .ok (.iload_n 1, 1) := by decide +kernel
theorem dX4_spend_11 : decode cX4_spend 11 = .ok (.iconst 0, 1) := by decide +kernel
theorem dX4_spend_12 : decode cX4_spend 12 = .ok (.invokevirtual 53, 3) := by decide +kernel
theorem dX4_spend_15 : decode cX4_spend 15 = .ok (.iload_n 2, 1) := by decide +kernel
theorem dX4_spend_16 : decode cX4_spend 16 = .ok (.isub, 1) := by decide +kernel
theorem dX4_spend_17 : decode cX4_spend 17 = .ok (.invokevirtual 61, 3) := by decide +kernel
theorem dX4_spend_20 : decode cX4_spend 20 = .ok (.return_, 1) := by decide +kernel
theorem dX4_freeRoom_0 : decode cX4_freeRoom 0 = .ok (.aload_n 1, 1) := by decide +kernel
theorem dX4_freeRoom_1 : decode cX4_freeRoom 1 = .ok (.getfield 65, 3) := by decide +kernel
theorem dX4_freeRoom_4 : decode cX4_freeRoom 4 = .ok (.iload_n 2, 1) := by decide +kernel
theorem dX4_freeRoom_5 : decode cX4_freeRoom 5 = .ok (.iconst 0, 1) := by decide +kernel
theorem dX4_freeRoom_6 : decode cX4_freeRoom 6 = .ok (.invokevirtual 53, 3) := by decide +kernel
theorem dX4_freeRoom_9 : decode cX4_freeRoom 9 = .ok (.istore_n 3, 1) := by decide +kernel
theorem dX4_freeRoom_10 : decode cX4_freeRoom 10 = .ok (.iconst 0, 1) := by decide +kernel
theorem dX4_freeRoom_11 : decode cX4_freeRoom 11 = .ok (.istore 4, 2) := by decide +kernel
theorem dX4_freeRoom_13 : decode cX4_freeRoom 13 = .ok (.iload 4, 2) := by decide +kernel
theorem dX4_freeRoom_15 : decode cX4_freeRoom 15 = .ok (.aload_n 0, 1) := by decide +kernel
theorem dX4_freeRoom_16 : decode cX4_freeRoom 16 = .ok (.getfield 14, 3) := by decide +kernel
theorem dX4_freeRoom_19 : decode cX4_freeRoom 19 = .ok (.invokevirtual 49, 3) := by decide +kernel
theorem dX4_freeRoom_22 : decode cX4_freeRoom 22 = .ok (.if_icmp .ge 26, 3) := by decide +kernel
theorem dX4_freeRoom_25 : decode cX4_freeRoom 25 = .ok (.aload_n 0, 1) := by decide +kernel
theorem dX4_freeRoom_26 : decode cX4_freeRoom 26 = .ok (.getfield 14, 3) := by decide +kernel
theorem dX4_freeRoom_29 : decode cX4_freeRoom 29 = .ok (.iload 4, 2) := by decide +kernel
theorem dX4_freeRoom_31 : decode cX4_freeRoom 31 = .ok (.iconst 1, 1) := by decide +kernel
theorem dX4_freeRoom_32 : decode cX4_freeRoom 32 = .ok (.invokevirtual 53, 3) := by decide +kernel
theorem dX4_freeRoom_35 : decode cX4_freeRoom 35 = .ok (.iload_n 2, 1) := by decide +kernel
theorem dX4_freeRoom_36 : decode cX4_freeRoom 36 = .ok (.if_icmp .ne 6, 3) := by decide +kernel
theorem dX4_freeRoom_39 : decode cX4_freeRoom 39 = .ok (.iinc 3 (-1), 3) := by decide +kernel
theorem dX4_freeRoom_42 : decode cX4_freeRoom 42 = .ok (.iinc 4 1, 3) := by decide +kernel
theorem dX4_freeRoom_45 : decode cX4_freeRoom 45 = .ok (.goto (-32), 3) := by decide +kernel
theorem dX4_freeRoom_48 : decode cX4_freeRoom 48 = .ok (.iload_n 3, 1) := by decide +kernel
theorem dX4_freeRoom_49 : decode cX4_freeRoom 49 = .ok (.ireturn, 1) := by decide +kernel
theorem dX4_ring_0 : decode cX4_ring 0 = .ok (.aload_n 0, 1) := by decide +kernel
theorem dX4_ring_1 : decode cX4_ring 1 = .ok (.aload_n 1, 1) := by decide +kernel
theorem dX4_ring_2 : decode cX4_ring 2 = .ok (.invokevirtual 38, 3) := by decide +kernel
theorem dX4_ring_5 : decode cX4_ring 5 = .ok (.aload_n 0, 1) := by decide +kernel
theorem dX4_ring_6 : decode cX4_ring 6 = .ok (.dup, 1) := by decide +kernel
theorem dX4_ring_7 : decode cX4_ring 7 = .ok (.getfield 32, 3) := by decide +kernel
theorem dX4_ring_10 : decode cX4_ring 10 = .ok (.iconst 1, 1) := by decide +kernel
theorem dX4_ring_11 : decode cX4_ring 11 = .ok (.iadd, 1) := by decide +kernel
theorem dX4_ring_12 : decode cX4_ring 12 = .ok (.putfield 32, 3) := by decide +kernel
theorem dX4_ring_15 : decode cX4_ring 15 = .ok (.aload_n 0, 1) := by decide +kernel
theorem dX4_ring_16 : decode cX4_ring 16 = .ok (.getfield 14, 3) := by decide +kernel
theorem dX4_ring_19 : decode cX4_ring 19 = .ok (.invokevirtual 49, 3) := by decide +kernel
theorem dX4_ring_22 : decode cX4_ring 22 = .ok (.iconst 1, 1) := by decide +kernel
theorem dX4_ring_23 : decode cX4_ring 23 = .ok (.isub, 1) := by decide +kernel
theorem dX4_ring_24 : decode cX4_ring 24 = .ok (.istore_n 2, 1) := by decide +kernel
theorem dX4_ring_25 : decode cX4_ring 25 = .ok (.iload_n 2, 1) := by decide +kernel
theorem dX4_ring_26 : decode cX4_ring 26 = .ok (.ifCond .lt 56, 3) := by decide +kernel
theorem dX4_ring_29 : decode cX4_ring 29 = .ok (.aload_n 0, 1) := by decide +kernel
theorem dX4_ring_30 : decode cX4_ring 30 = .ok (.getfield 14, 3) := by decide +kernel
theorem dX4_ring_33 : decode cX4_ring 33 = .ok (.iload_n 2, 1) := by decide +kernel
theorem dX4_ring_34 : decode cX4_ring 34 = .ok (.iconst 3, 1) := by decide +kernel
theorem dX4_ring_35 : decode cX4_ring 35 = .ok (.invokevirtual 53, 3) := by decide +kernel
theorem dX4_ring_38 : decode cX4_ring 38 = .ok (.iconst 1, 1) := by decide +kernel
theorem dX4_ring_39 : decode cX4_ring 39 = .ok (.iadd, 1) := by decide +kernel
theorem dX4_ring_40 : decode cX4_ring 40 = .ok (.istore_n 3, 1) := by decide +kernel
theorem dX4_ring_41 : decode cX4_ring 41 = .ok (.aload_n 0, 1) := by decide +kernel
theorem dX4_ring_42 : decode cX4_ring 42 = .ok (.getfield 14, 3) := by decide +kernel
theorem dX4_ring_45 : decode cX4_ring 45 = .ok (.iload_n 2, 1) := by decide +kernel
theorem dX4_ring_46 : decode cX4_ring 46 = .ok (.iconst 3, 1) := by decide +kernel
theorem dX4_ring_47 : decode cX4_ring 47 = .ok (.iload_n 3, 1) := by decide +kernel
theorem dX4_ring_48 : decode cX4_ring 48 = .ok (.invokevirtual 61, 3) := by decide +kernel
theorem dX4_ring_51 : decode cX4_ring 51 = .ok (.aload_n 1, 1) := by decide +kernel
theorem dX4_ring_52 : decode cX4_ring 52 = .ok (.aload_n 0, 1) := by decide +kernel
theorem dX4_ring_53 : decode cX4_ring 53 = .ok (.getfield 14, 3) := by decide +kernel
theorem dX4_ring_56 : decode cX4_ring 56 = .ok (.iload_n 2, 1) := by decide +kernel
theorem dX4_ring_57 : decode cX4_ring 57 = .ok (.iconst 1, 1) := by decide +kernel
theorem dX4_ring_58 : decode cX4_ring 58 = .ok (.invokevirtual 53, 3) := by decide +kernel
theorem dX4_ring_61 : decode cX4_ring 61 = .ok (.iload_n 3, 1) := by decide +kernel
theorem dX4_ring_62 : decode cX4_ring 62 = .ok (.invokevirtual 68, 3) := by decide +kernel
theorem dX4_ring_65 : decode cX4_ring 65 = .ok (.ifCond .eq 11, 3) := by decide +kernel
theorem dX4_ring_68 : decode cX4_ring 68 = .ok (.aload_n 0, 1) := by decide +kernel
theorem dX4_ring_69 : decode cX4_ring 69 = .ok (.getfield 14, 3) := by decide +kernel
theorem dX4_ring_72 : decode cX4_ring 72 = .ok (.iload_n 2, 1) := by decide +kernel
theorem dX4_ring_73 : decode cX4_ring 73 = .ok (.invokevirtual 72, 3) := by decide +kernel
theorem dX4_ring_76 : decode cX4_ring 76 = .ok (.iinc 2 (-1), 3) := by decide +kernel
theorem dX4_ring_79 : decode cX4_ring 79 = .ok (.goto (-54), 3) := by decide +kernel
theorem dX4_ring_82 : decode cX4_ring 82 = .ok (.return_, 1) := by decide +kernel
theorem dX4_live_0 : decode cX4_live 0 = .ok (.aload_n 1, 1) := by decide +kernel
theorem dX4_live_1 : decode cX4_live 1 = .ok (.getfield 76, 3) := by decide +kernel
theorem dX4_live_4 : decode cX4_live 4 = .ok (.invokevirtual 49, 3) := by decide +kernel
theorem dX4_live_7 : decode cX4_live 7 = .ok (.istore_n 3, 1) := by decide +kernel
theorem dX4_live_8 : decode cX4_live 8 = .ok (.aload_n 1, 1) := by decide +kernel
theorem dX4_live_9 : decode cX4_live 9 = .ok (.getfield 46, 3) := by decide +kernel
theorem dX4_live_12 : decode cX4_live 12 = .ok (.invokevirtual 49, 3) := by decide +kernel
theorem dX4_live_15 : decode cX4_live 15 = .ok (.istore 4, 2) := by decide +kernel
theorem dX4_live_17 : decode cX4_live 17 = .ok (.aload_n 1, 1) := by decide +kernel
theorem dX4_live_18 : decode cX4_live 18 = .ok (.getfield 79, 3) := by decide +kernel
theorem dX4_live_21 : decode cX4_live 21 = .ok (.istore 5, 2) := by decide +kernel
theorem dX4_live_23 : decode cX4_live 23 = .ok (.iload_n 3, 1) := by decide +kernel
theorem dX4_live_24 : decode cX4_live 24 = .ok (.iconst 1, 1) := by decide +kernel
theorem dX4_live_25 : decode cX4_live 25 = .ok (.if_icmp .lt 15, 3) := by decide +kernel
theorem dX4_live_28 : decode cX4_live 28 = .ok (.iload 4, 2) := by decide +kernel
theorem dX4_live_30 : decode cX4_live 30 = .ok (.iconst 1, 1) := by decide +kernel
theorem dX4_live_31 : decode cX4_live 31 = .ok (.if_icmp .lt 9, 3) := by decide +kernel
theorem dX4_live_34 : decode cX4_live 34 = .ok (.iload 5, 2) := by decide +kernel
theorem dX4_live_36 : decode cX4_live 36 = .ok (.iconst 1, 1) := by decide +kernel
theorem dX4_live_37 : decode cX4_live 37 = .ok (.if_icmp .ge 4, 3) := by decide +kernel
theorem dX4_live_40 : decode cX4_live 40 = .ok (.return_, 1) := by decide +kernel
theorem dX4_live_41 : decode cX4_live 41 = .ok (.aload_n 0, 1) := by decide +kernel
theorem dX4_live_42 : decode cX4_live 42 = .ok (.aload_n 1, 1) := by decide +kernel
theorem dX4_live_43 : decode cX4_live 43 = .ok (.getfield 76, 3) := by decide +kernel
theorem dX4_live_46 : decode cX4_live 46 = .ok (.iload_n 2, 1) := by decide +kernel
theorem dX4_live_47 : decode cX4_live 47 = .ok (.iload_n 3, 1) := by decide +kernel
theorem dX4_live_48 : decode cX4_live 48 = .ok (.irem, 1) := by decide +kernel
theorem dX4_live_49 : decode cX4_live 49 = .ok (.iconst 0, 1) := by decide +kernel
theorem dX4_live_50 : decode cX4_live 50 = .ok (.invokevirtual 53, 3) := by decide +kernel
theorem dX4_live_53 : decode cX4_live 53 = .ok (.putfield 29, 3) := by decide +kernel
theorem dX4_live_56 : decode cX4_live 56 = .ok (.aload_n 0, 1) := by decide +kernel
theorem dX4_live_57 : decode cX4_live 57 = .ok (.aload_n 1, 1) := by decide +kernel
theorem dX4_live_58 : decode cX4_live 58 = .ok (.invokevirtual 82, 3) := by decide +kernel
theorem dX4_live_61 : decode cX4_live 61 = .ok (.istore 6, 2) := by decide +kernel
theorem dX4_live_63 : decode cX4_live 63 = .ok (.iload_n 2, 1) := by decide +kernel
theorem dX4_live_64 : decode cX4_live 64 = .ok (.bipush 8, 2) := by decide +kernel
theorem dX4_live_66 : decode cX4_live 66 = .ok (.idiv, 1) := by decide +kernel
theorem dX4_live_67 : decode cX4_live 67 = .ok (.iconst 2, 1) := by decide +kernel
theorem dX4_live_68 : decode cX4_live 68 = .ok (.irem, 1) := by decide +kernel
theorem dX4_live_69 : decode cX4_live 69 = .ok (.ifCond .ne 40, 3) := by decide +kernel
theorem dX4_live_72 : decode cX4_live 72 = .ok (.iload 6, 2) := by decide +kernel
theorem dX4_live_74 : decode cX4_live 74 = .ok (.ifCond .lt 35, 3) := by decide +kernel
theorem dX4_live_77 : decode cX4_live 77 = .ok (.aload_n 0, 1) := by decide +kernel
theorem dX4_live_78 : decode cX4_live 78 = .ok (.getfield 14, 3) := by decide +kernel
theorem dX4_live_81 : decode cX4_live 81 = .ok (.iload_n 2, 1) := by decide +kernel
theorem dX4_live_82 : decode cX4_live 82 = .ok (.sipush 128, 3) := by decide +kernel
theorem dX4_live_85 : decode cX4_live 85 = .ok (.idiv, 1) := by decide +kernel
theorem dX4_live_86 : decode cX4_live 86 = .ok (.iload 5, 2) := by decide +kernel
theorem dX4_live_88 : decode cX4_live 88 = .ok (.irem, 1) := by decide +kernel
theorem dX4_live_89 : decode cX4_live 89 = .ok (.aload_n 0, 1) := by decide +kernel
theorem dX4_live_90 : decode cX4_live 90 = .ok (.getfield 29, 3) := by decide +kernel
theorem dX4_live_93 : decode cX4_live 93 = .ok (.invokestatic 86, 3) := by decide +kernel
theorem dX4_live_96 : decode cX4_live 96 = .ok (.iload 6, 2) := by decide +kernel
theorem dX4_live_98 : decode cX4_live 98 = .ok (.iload_n 2, 1) := by decide +kernel
theorem dX4_live_99 : decode cX4_live 99 = .ok (.bipush 16, 2) := by decide +kernel
theorem dX4_live_101 : decode cX4_live 101 = .ok (.idiv, 1) := by decide +kernel
theorem dX4_live_102 : decode cX4_live 102 = .ok (.iload 4, 2) := by decide +kernel
theorem dX4_live_104 : decode cX4_live 104 = .ok (.irem, 1) := by decide +kernel
theorem dX4_live_105 : decode cX4_live 105 = .ok (.invokevirtual 57, 3) := by decide +kernel
theorem dX4_live_108 : decode cX4_live 108 = .ok (.pop, 1) := by decide +kernel
theorem dX4_live_109 : decode cX4_live 109 = .ok (.aload_n 0, 1) := by decide +kernel
theorem dX4_live_110 : decode cX4_live 110 = .ok (.aload_n 1, 1) := by decide +kernel
theorem dX4_live_111 : decode cX4_live 111 = .ok (.invokevirtual 89, 3) := by decide +kernel
theorem dX4_live_114 : decode cX4_live 114 = .ok (.return_, 1) := by decide +kernel
theorem dX4_lowestFreeStone_0 : decode cX4_lowestFreeStone 0 = .ok (.iconst 0, 1) := by decide +kernel
theorem dX4_lowestFreeStone_1 : decode cX4_lowestFreeStone 1 = .ok (.istore_n 2, 1) := by decide +kernel
theorem dX4_lowestFreeStone_2 : decode cX4_lowestFreeStone 2 = .ok (.iload_n 2, 1) := by decide +kernel
theorem dX4_lowestFreeStone_3 : decode cX4_lowestFreeStone 3 = .ok (.aload_n 1, 1) := by decide +kernel
theorem dX4_lowestFreeStone_4 : decode cX4_lowestFreeStone 4 = .ok (.getfield 65, 3) := by decide +kernel
theorem dX4_lowestFreeStone_7 : decode cX4_lowestFreeStone 7 = .ok (.invokevirtual 49, 3) := by decide +kernel
theorem dX4_lowestFreeStone_10 : decode cX4_lowestFreeStone 10 = .ok (.if_icmp .ge 20, 3) := by decide +kernel
theorem dX4_lowestFreeStone_13 : decode cX4_lowestFreeStone 13 = .ok (.aload_n 0, 1) := by decide +kernel
theorem dX4_lowestFreeStone_14 : decode cX4_lowestFreeStone 14 = .ok (.aload_n 1, 1) := by decide +kernel
theorem dX4_lowestFreeStone_15 : decode cX4_lowestFreeStone 15 = .ok (.iload_n 2, 1) := by decide +kernel
theorem dX4_lowestFreeStone_16 : decode cX4_lowestFreeStone 16 = .ok (.invokevirtual 92, 3) := by decide +kernel
theorem dX4_lowestFreeStone_19 : decode cX4_lowestFreeStone 19 = .ok (.ifCond .le 5, 3) := by decide +kernel
theorem dX4_lowestFreeStone_22 : decode cX4_lowestFreeStone 22 = .ok (.iload_n 2, 1) := by decide +kernel
theorem dX4_lowestFreeStone_23 : decode cX4_lowestFreeStone 23 = .ok (.ireturn, 1) := by decide +kernel
theorem dX4_lowestFreeStone_24 : decode cX4_lowestFreeStone 24 = .ok (.iinc 2 1, 3) := by decide +kernel
theorem dX4_lowestFreeStone_27 : decode cX4_lowestFreeStone 27 = .ok (.goto (-25), 3) := by decide +kernel
theorem dX4_lowestFreeStone_30 : decode cX4_lowestFreeStone 30 = .ok (.iconst (-1), 1) := by decide +kernel
theorem dX4_lowestFreeStone_31 : decode cX4_lowestFreeStone 31 = .ok (.ireturn, 1) := by decide +kernel
theorem dX4_handsOf_0 : decode cX4_handsOf 0 = .ok (.iload_n 3, 1) := by decide +kernel
theorem dX4_handsOf_1 : decode cX4_handsOf 1 = .ok (.iconst (-1), 1) := by decide +kernel
theorem dX4_handsOf_2 : decode cX4_handsOf 2 = .ok (.if_icmp .ne 7, 3) := by decide +kernel
theorem dX4_handsOf_5 : decode cX4_handsOf 5 = .ok (.iconst 0, 1) := by decide +kernel
theorem dX4_handsOf_6 : decode cX4_handsOf 6 = .ok (.goto 6, 3) := by decide +kernel
theorem dX4_handsOf_9 : decode cX4_handsOf 9 = .ok (.iconst 1, 1) := by decide +kernel
theorem dX4_handsOf_10 : decode cX4_handsOf 10 = .ok (.iload_n 3, 1) := by decide +kernel
theorem dX4_handsOf_11 : decode cX4_handsOf 11 = .ok (.ishl, 1) := by decide +kernel
theorem dX4_handsOf_12 : decode cX4_handsOf 12 = .ok (.istore 4, 2) := by decide +kernel
theorem dX4_handsOf_14 : decode cX4_handsOf 14 = .ok (.iconst 0, 1) := by decide +kernel
theorem dX4_handsOf_15 : decode cX4_handsOf 15 = .ok (.istore 5, 2) := by decide +kernel
theorem dX4_handsOf_17 : decode cX4_handsOf 17 = .ok (.iconst 0, 1) := by decide +kernel
theorem dX4_handsOf_18 : decode cX4_handsOf 18 = .ok (.istore 6, 2) := by decide +kernel
theorem dX4_handsOf_20 : decode cX4_handsOf 20 = .ok (.iload 6, 2) := by decide +kernel
theorem dX4_handsOf_22 : decode cX4_handsOf 22 = .ok (.aload_n 0, 1) := by decide +kernel
theorem dX4_handsOf_23 : decode cX4_handsOf 23 = .ok (.getfield 14, 3) := by decide +kernel
theorem dX4_handsOf_26 : decode cX4_handsOf 26 = .ok (.invokevirtual 49, 3) := by decide +kernel
theorem dX4_handsOf_29 : decode cX4_handsOf 29 = .ok (.if_icmp .ge 65, 3) := by decide +kernel
theorem dX4_handsOf_32 : decode cX4_handsOf 32 = .ok (.aload_n 0, 1) := by decide +kernel
theorem dX4_handsOf_33 : decode cX4_handsOf 33 = .ok (.getfield 14, 3) := by decide +kernel
theorem dX4_handsOf_36 : decode cX4_handsOf 36 = .ok (.iload 6, 2) := by decide +kernel
theorem dX4_handsOf_38 : decode cX4_handsOf 38 = .ok (.iconst 0, 1) := by decide +kernel
theorem dX4_handsOf_39 : decode cX4_handsOf 39 = .ok (.invokevirtual 53, 3) := by decide +kernel
theorem dX4_handsOf_42 : decode cX4_handsOf 42 = .ok (.iload_n 2, 1) := by decide +kernel
theorem dX4_handsOf_43 : decode cX4_handsOf 43 = .ok (.if_icmp .ne 45, 3) := by decide +kernel
theorem dX4_handsOf_46 : decode cX4_handsOf 46 = .ok (.iload 4, 2) := by decide +kernel
theorem dX4_handsOf_48 : decode cX4_handsOf 48 = .ok (.iconst 1, 1) := by decide +kernel
theorem dX4_handsOf_49 : decode cX4_handsOf 49 = .ok (.aload_n 0, 1) := by decide +kernel
theorem dX4_handsOf_50 : decode cX4_handsOf 50 = .ok (.getfield 14, 3) := by decide +kernel
theorem dX4_handsOf_53 : decode cX4_handsOf 53 = .ok (.iload 6, 2) := by decide +kernel
theorem dX4_handsOf_55 : decode cX4_handsOf 55 = .ok (.iconst 2, 1) := by decide +kernel
theorem dX4_handsOf_56 : decode cX4_handsOf 56 = .ok (.invokevirtual 53, 3) := by decide +kernel
theorem dX4_handsOf_59 : decode cX4_handsOf 59 = .ok (.ishl, 1) := by decide +kernel
theorem dX4_handsOf_60 : decode cX4_handsOf 60 = .ok (.ior, 1) := by decide +kernel
theorem dX4_handsOf_61 : decode cX4_handsOf 61 = .ok (.istore 4, 2) := by decide +kernel
theorem dX4_handsOf_63 : decode cX4_handsOf 63 = .ok (.aload_n 1, 1) := by decide +kernel
theorem dX4_handsOf_64 : decode cX4_handsOf 64 = .ok (.getfield 65, 3) := by decide +kernel
theorem dX4_handsOf_67 : decode cX4_handsOf 67 = .ok (.aload_n 0, 1) := by decide +kernel
theorem dX4_handsOf_68 : decode cX4_handsOf 68 = .ok (.getfield 14, 3) := by decide +kernel
theorem dX4_handsOf_71 : decode cX4_handsOf 71 = .ok (.iload 6, 2) := by decide +kernel
theorem dX4_handsOf_73 : decode cX4_handsOf 73 = .ok (.iconst 1, 1) := by decide +kernel
theorem dX4_handsOf_74 : decode cX4_handsOf 74 = .ok (.invokevirtual 53, 3) := by decide +kernel
theorem dX4_handsOf_77 : decode cX4_handsOf 77 = .ok (.iconst 2, 1) := by decide +kernel
theorem dX4_handsOf_78 : decode cX4_handsOf 78 = .ok (.invokevirtual 53, 3) := by decide +kernel
theorem dX4_handsOf_81 : decode cX4_handsOf 81 = .ok (.iconst 3, 1) := by decide +kernel
theorem dX4_handsOf_82 : decode cX4_handsOf 82 = .ok (.if_icmp .ne 6, 3) := by decide +kernel
theorem dX4_handsOf_85 : decode cX4_handsOf 85 = .ok (.iconst 1, 1) := by decide +kernel
theorem dX4_handsOf_86 : decode cX4_handsOf 86 = .ok (.istore 5, 2) := by decide +kernel
theorem dX4_handsOf_88 : decode cX4_handsOf 88 = .ok (.iinc 6 1, 3) := by decide +kernel
theorem dX4_handsOf_91 : decode cX4_handsOf 91 = .ok (.goto (-71), 3) := by decide +kernel
theorem dX4_handsOf_94 : decode cX4_handsOf 94 = .ok (.iload 4, 2) := by decide +kernel
theorem dX4_handsOf_96 : decode cX4_handsOf 96 = .ok (.invokestatic 96, 3) := by decide +kernel
theorem dX4_handsOf_99 : decode cX4_handsOf 99 = .ok (.iload 5, 2) := by decide +kernel
theorem dX4_handsOf_101 : decode cX4_handsOf 101 = .ok (.iadd, 1) := by decide +kernel
theorem dX4_handsOf_102 : decode cX4_handsOf 102 = .ok (.ireturn, 1) := by decide +kernel
theorem dX4_readBy_0 : decode cX4_readBy 0 = .ok (.iconst 0, 1) := by decide +kernel
theorem dX4_readBy_1 : decode cX4_readBy 1 = .ok (.istore_n 3, 1) := by decide +kernel
theorem dX4_readBy_2 : decode cX4_readBy 2 = .ok (.iconst 0, 1) := by decide +kernel
theorem dX4_readBy_3 : decode cX4_readBy 3 = .ok (.istore 4, 2) := by decide +kernel
theorem dX4_readBy_5 : decode cX4_readBy 5 = .ok (.iload 4, 2) := by decide +kernel
theorem dX4_readBy_7 : decode cX4_readBy 7 = .ok (.iconst 2, 1) := by decide +kernel
theorem dX4_readBy_8 : decode cX4_readBy 8 = .ok (.aload_n 1, 1) := by decide +kernel
theorem dX4_readBy_9 : decode cX4_readBy 9 = .ok (.getfield 79, 3) := by decide +kernel
theorem dX4_readBy_12 : decode cX4_readBy 12 = .ok (.imul, 1) := by decide +kernel
theorem dX4_readBy_13 : decode cX4_readBy 13 = .ok (.if_icmp .ge 28, 3) := by decide +kernel
theorem dX4_readBy_16 : decode cX4_readBy 16 = .ok (.aload_n 0, 1) := by decide +kernel
theorem dX4_readBy_17 : decode cX4_readBy 17 = .ok (.aload_n 1, 1) := by decide +kernel
theorem dX4_readBy_18 : decode cX4_readBy 18 = .ok (.iload 4, 2) := by decide +kernel
theorem dX4_readBy_20 : decode cX4_readBy 20 = .ok (.iconst (-1), 1) := by decide +kernel
theorem dX4_readBy_21 : decode cX4_readBy 21 = .ok (.invokevirtual 102, 3) := by decide +kernel
theorem dX4_readBy_24 : decode cX4_readBy 24 = .ok (.iload_n 2, 1) := by decide +kernel
theorem dX4_readBy_25 : decode cX4_readBy 25 = .ok (.if_icmp .lt 10, 3) := by decide +kernel
theorem dX4_readBy_28 : decode cX4_readBy 28 = .ok (.iload_n 3, 1) := by decide +kernel
theorem dX4_readBy_29 : decode cX4_readBy 29 = .ok (.iconst 1, 1) := by decide +kernel
theorem dX4_readBy_30 : decode cX4_readBy 30 = .ok (.iload 4, 2) := by decide +kernel
theorem dX4_readBy_32 : decode cX4_readBy 32 = .ok (.ishl, 1) := by decide +kernel
theorem dX4_readBy_33 : decode cX4_readBy 33 = .ok (.ior, 1) := by decide +kernel
theorem dX4_readBy_34 : decode cX4_readBy 34 = .ok (.istore_n 3, 1) := by decide +kernel
theorem dX4_readBy_35 : decode cX4_readBy 35 = .ok (.iinc 4 1, 3) := by decide +kernel
theorem dX4_readBy_38 : decode cX4_readBy 38 = .ok (.goto (-33), 3) := by decide +kernel
theorem dX4_readBy_41 : decode cX4_readBy 41 = .ok (.iload_n 3, 1) := by decide +kernel
theorem dX4_readBy_42 : decode cX4_readBy 42 = .ok (.ireturn, 1) := by decide +kernel
theorem dX4_carvedBut_0 : decode cX4_carvedBut 0 = .ok (.iconst 1, 1) := by decide +kernel
theorem dX4_carvedBut_1 : decode cX4_carvedBut 1 = .ok (.aload_n 0, 1) := by decide +kernel
theorem dX4_carvedBut_2 : decode cX4_carvedBut 2 = .ok (.getfield 14, 3) := by decide +kernel
theorem dX4_carvedBut_5 : decode cX4_carvedBut 5 = .ok (.invokevirtual 49, 3) := by decide +kernel
theorem dX4_carvedBut_8 : decode cX4_carvedBut 8 = .ok (.ishl, 1) := by decide +kernel
theorem dX4_carvedBut_9 : decode cX4_carvedBut 9 = .ok (.iconst 1, 1) := by decide +kernel
theorem dX4_carvedBut_10 : decode cX4_carvedBut 10 = .ok (.isub, 1) := by decide +kernel
theorem dX4_carvedBut_11 : decode cX4_carvedBut 11 = .ok (.istore_n 2, 1) := by decide +kernel
theorem dX4_carvedBut_12 : decode cX4_carvedBut 12 = .ok (.aload_n 0, 1) := by decide +kernel
theorem dX4_carvedBut_13 : decode cX4_carvedBut 13 = .ok (.iload_n 1, 1) := by decide +kernel
theorem dX4_carvedBut_14 : decode cX4_carvedBut 14 = .ok (.iconst (-1), 1) := by decide +kernel
theorem dX4_carvedBut_15 : decode cX4_carvedBut 15 = .ok (.if_icmp .ne 7, 3) := by decide +kernel
theorem dX4_carvedBut_18 : decode cX4_carvedBut 18 = .ok (.iload_n 2, 1) := by decide +kernel
theorem dX4_carvedBut_19 : decode cX4_carvedBut 19 = .ok (.goto 10, 3) := by decide +kernel
theorem dX4_carvedBut_22 : decode cX4_carvedBut 22 = .ok (.iload_n 2, 1) := by decide +kernel
theorem dX4_carvedBut_23 : decode cX4_carvedBut 23 = .ok (.iconst 1, 1) := by decide +kernel
theorem dX4_carvedBut_24 : decode cX4_carvedBut 24 = .ok (.iload_n 1, 1) := by decide +kernel
theorem dX4_carvedBut_25 : decode cX4_carvedBut 25 = .ok (.ishl, 1) := by decide +kernel
theorem dX4_carvedBut_26 : decode cX4_carvedBut 26 = .ok (.iconst (-1), 1) := by decide +kernel
theorem dX4_carvedBut_27 : decode cX4_carvedBut 27 = .ok (.ixor, 1) := by decide +kernel
theorem dX4_carvedBut_28 : decode cX4_carvedBut 28 = .ok (.iand, 1) := by decide +kernel
theorem dX4_carvedBut_29 : decode cX4_carvedBut 29 = .ok (.invokevirtual 106, 3) := by decide +kernel
theorem dX4_carvedBut_32 : decode cX4_carvedBut 32 = .ok (.ireturn, 1) := by decide +kernel
theorem dX4_sayingsOf_0 : decode cX4_sayingsOf 0 = .ok (.iconst 0, 1) := by decide +kernel
theorem dX4_sayingsOf_1 : decode cX4_sayingsOf 1 = .ok (.istore_n 2, 1) := by decide +kernel
theorem dX4_sayingsOf_2 : decode cX4_sayingsOf 2 = .ok (.iconst 0, 1) := by decide +kernel
theorem dX4_sayingsOf_3 : decode cX4_sayingsOf 3 = .ok (.istore_n 3, 1) := by decide +kernel
theorem dX4_sayingsOf_4 : decode cX4_sayingsOf 4 = .ok (.iload_n 3, 1) := by decide +kernel
theorem dX4_sayingsOf_5 : decode cX4_sayingsOf 5 = .ok (.aload_n 0, 1) := by decide +kernel
theorem dX4_sayingsOf_6 : decode cX4_sayingsOf 6 = .ok (.getfield 14, 3) := by decide +kernel
theorem dX4_sayingsOf_9 : decode cX4_sayingsOf 9 = .ok (.invokevirtual 49, 3) := by decide +kernel
theorem dX4_sayingsOf_12 : decode cX4_sayingsOf 12 = .ok (.if_icmp .ge 32, 3) := by decide +kernel
theorem dX4_sayingsOf_15 : decode cX4_sayingsOf 15 = .ok (.iload_n 1, 1) := by decide +kernel
theorem dX4_sayingsOf_16 : decode cX4_sayingsOf 16 = .ok (.iload_n 3, 1) := by decide +kernel
theorem dX4_sayingsOf_17 : decode cX4_sayingsOf 17 = .ok (.ishr, 1) := by decide +kernel
theorem dX4_sayingsOf_18 : decode cX4_sayingsOf 18 = .ok (.iconst 1, 1) := by decide +kernel
theorem dX4_sayingsOf_19 : decode cX4_sayingsOf 19 = .ok (.iand, 1) := by decide +kernel
theorem dX4_sayingsOf_20 : decode cX4_sayingsOf 20 = .ok (.iconst 1, 1) := by decide +kernel
theorem dX4_sayingsOf_21 : decode cX4_sayingsOf 21 = .ok (.if_icmp .ne 17, 3) := by decide +kernel
theorem dX4_sayingsOf_24 : decode cX4_sayingsOf 24 = .ok (.iload_n 2, 1) := by decide +kernel
theorem dX4_sayingsOf_25 : decode cX4_sayingsOf 25 = .ok (.iconst 1, 1) := by decide +kernel
theorem dX4_sayingsOf_26 : decode cX4_sayingsOf 26 = .ok (.aload_n 0, 1) := by decide +kernel
theorem dX4_sayingsOf_27 : decode cX4_sayingsOf 27 = .ok (.getfield 14, 3) := by decide +kernel
theorem dX4_sayingsOf_30 : decode cX4_sayingsOf 30 = .ok (.iload_n 3, 1) := by decide +kernel
theorem dX4_sayingsOf_31 : decode cX4_sayingsOf 31 = .ok (.iconst 0, 1) := by decide +kernel
theorem dX4_sayingsOf_32 : decode cX4_sayingsOf 32 = .ok (.invokevirtual 53, 3) := by decide +kernel
theorem dX4_sayingsOf_35 : decode cX4_sayingsOf 35 = .ok (.ishl, 1) := by decide +kernel
theorem dX4_sayingsOf_36 : decode cX4_sayingsOf 36 = .ok (.ior, 1) := by decide +kernel
theorem dX4_sayingsOf_37 : decode cX4_sayingsOf 37 = .ok (.istore_n 2, 1) := by decide +kernel
theorem dX4_sayingsOf_38 : decode cX4_sayingsOf 38 = .ok (.iinc 3 1, 3) := by decide +kernel
theorem dX4_sayingsOf_41 : decode cX4_sayingsOf 41 = .ok (.goto (-37), 3) := by decide +kernel
theorem dX4_sayingsOf_44 : decode cX4_sayingsOf 44 = .ok (.iload_n 2, 1) := by decide +kernel
theorem dX4_sayingsOf_45 : decode cX4_sayingsOf 45 = .ok (.ireturn, 1) := by decide +kernel
theorem dX4_marksSoIn_0 : decode cX4_marksSoIn 0 = .ok (.iconst 0, 1) := by decide +kernel
theorem dX4_marksSoIn_1 : decode cX4_marksSoIn 1 = .ok (.istore_n 2, 1) := by decide +kernel
theorem dX4_marksSoIn_2 : decode cX4_marksSoIn 2 = .ok (.iconst 0, 1) := by decide +kernel
theorem dX4_marksSoIn_3 : decode cX4_marksSoIn 3 = .ok (.istore_n 3, 1) := by decide +kernel
theorem dX4_marksSoIn_4 : decode cX4_marksSoIn 4 = .ok (.iload_n 3, 1) := by decide +kernel
theorem dX4_marksSoIn_5 : decode cX4_marksSoIn 5 = .ok (.aload_n 0, 1) := by decide +kernel
theorem dX4_marksSoIn_6 : decode cX4_marksSoIn 6 = .ok (.getfield 14, 3) := by decide +kernel
theorem dX4_marksSoIn_9 : decode cX4_marksSoIn 9 = .ok (.invokevirtual 49, 3) := by decide +kernel
theorem dX4_marksSoIn_12 : decode cX4_marksSoIn 12 = .ok (.if_icmp .ge 31, 3) := by decide +kernel
theorem dX4_marksSoIn_15 : decode cX4_marksSoIn 15 = .ok (.aload_n 0, 1) := by decide +kernel
theorem dX4_marksSoIn_16 : decode cX4_marksSoIn 16 = .ok (.getfield 14, 3) := by decide +kernel
theorem dX4_marksSoIn_19 : decode cX4_marksSoIn 19 = .ok (.iload_n 3, 1) := by decide +kernel
theorem dX4_marksSoIn_20 : decode cX4_marksSoIn 20 = .ok (.iconst 0, 1) := by decide +kernel
theorem dX4_marksSoIn_21 : decode cX4_marksSoIn 21 = .ok (.invokevirtual 53, 3) := by decide +kernel
theorem dX4_marksSoIn_24 : decode cX4_marksSoIn 24 = .ok (.iload_n 1, 1) := by decide +kernel
theorem dX4_marksSoIn_25 : decode cX4_marksSoIn 25 = .ok (.invokestatic 109, 3) := by decide +kernel
theorem dX4_marksSoIn_28 : decode cX4_marksSoIn 28 = .ok (.ifCond .eq 9, 3) := by decide +kernel
theorem dX4_marksSoIn_31 : decode cX4_marksSoIn 31 = .ok (.iload_n 2, 1) := by decide +kernel
theorem dX4_marksSoIn_32 : decode cX4_marksSoIn 32 = .ok (.iconst 1, 1) := by decide +kernel
theorem dX4_marksSoIn_33 : decode cX4_marksSoIn 33 = .ok (.iload_n 3, 1) := by decide +kernel
theorem dX4_marksSoIn_34 : decode cX4_marksSoIn 34 = .ok (.ishl, 1) := by decide +kernel
theorem dX4_marksSoIn_35 : decode cX4_marksSoIn 35 = .ok (.ior, 1) := by decide +kernel
theorem dX4_marksSoIn_36 : decode cX4_marksSoIn 36 = .ok (.istore_n 2, 1) := by decide +kernel
theorem dX4_marksSoIn_37 : decode cX4_marksSoIn 37 = .ok (.iinc 3 1, 3) := by decide +kernel
theorem dX4_marksSoIn_40 : decode cX4_marksSoIn 40 = .ok (.goto (-36), 3) := by decide +kernel
theorem dX4_marksSoIn_43 : decode cX4_marksSoIn 43 = .ok (.iload_n 2, 1) := by decide +kernel
theorem dX4_marksSoIn_44 : decode cX4_marksSoIn 44 = .ok (.ireturn, 1) := by decide +kernel
theorem dX4_weightOf_0 : decode cX4_weightOf 0 = .ok (.lconst 1, 1) := by decide +kernel
theorem dX4_weightOf_1 : decode cX4_weightOf 1 = .ok (.lstore_n 3, 1) := by decide +kernel
theorem dX4_weightOf_2 : decode cX4_weightOf 2 = .ok (.iconst 0, 1) := by decide +kernel
theorem dX4_weightOf_3 : decode cX4_weightOf 3 = .ok (.istore 5, 2) := by decide +kernel
theorem dX4_weightOf_5 : decode cX4_weightOf 5 = .ok (.iload 5, 2) := by decide +kernel
theorem dX4_weightOf_7 : decode cX4_weightOf 7 = .ok (.aload_n 0, 1) := by decide +kernel
theorem dX4_weightOf_8 : decode cX4_weightOf 8 = .ok (.getfield 14, 3) := by decide +kernel
theorem dX4_weightOf_11 : decode cX4_weightOf 11 = .ok (.invokevirtual 49, 3) := by decide +kernel
theorem dX4_weightOf_14 : decode cX4_weightOf 14 = .ok (.if_icmp .ge 61, 3) := by decide +kernel
theorem dX4_weightOf_17 : decode cX4_weightOf 17 = .ok (.aload_n 1, 1) := by decide +kernel
theorem dX4_weightOf_18 : decode cX4_weightOf 18 = .ok (.getfield 46, 3) := by decide +kernel
theorem dX4_weightOf_21 : decode cX4_weightOf 21 = .ok (.aload_n 0, 1) := by decide +kernel
theorem dX4_weightOf_22 : decode cX4_weightOf 22 = .ok (.getfield 14, 3) := by decide +kernel
theorem dX4_weightOf_25 : decode cX4_weightOf 25 = .ok (.iload 5, 2) := by decide +kernel
theorem dX4_weightOf_27 : decode cX4_weightOf 27 = .ok (.iconst 2, 1) := by decide +kernel
theorem dX4_weightOf_28 : decode cX4_weightOf 28 = .ok (.invokevirtual 53, 3) := by decide +kernel
theorem dX4_weightOf_31 : decode cX4_weightOf 31 = .ok (.iconst 1, 1) := by decide +kernel
theorem dX4_weightOf_32 : decode cX4_weightOf 32 = .ok (.invokevirtual 53, 3) := by decide +kernel
theorem dX4_weightOf_35 : decode cX4_weightOf 35 = .ok (.istore 6, 2) := by decide +kernel
theorem dX4_weightOf_37 : decode cX4_weightOf 37 = .ok (.lload_n 3, 1) := by decide +kernel
theorem dX4_weightOf_38 : decode cX4_weightOf 38 = .ok (.aload_n 0, 1) := by decide +kernel
theorem dX4_weightOf_39 : decode cX4_weightOf 39 = .ok (.getfield 14, 3) := by decide +kernel
theorem dX4_weightOf_42 : decode cX4_weightOf 42 = .ok (.iload 5, 2) := by decide +kernel
theorem dX4_weightOf_44 : decode cX4_weightOf 44 = .ok (.iconst 0, 1) := by decide +kernel
theorem dX4_weightOf_45 : decode cX4_weightOf 45 = .ok (.invokevirtual 53, 3) := by decide +kernel
theorem dX4_weightOf_48 : decode cX4_weightOf 48 = .ok (.iload_n 2, 1) := by decide +kernel
theorem dX4_weightOf_49 : decode cX4_weightOf 49 = .ok (.invokestatic 109, 3) := by decide +kernel
theorem dX4_weightOf_52 : decode cX4_weightOf 52 = .ok (.ifCond .eq 12, 3) := by decide +kernel
theorem dX4_weightOf_55 : decode cX4_weightOf 55 = .ok (.bipush 10, 2) := by decide +kernel
theorem dX4_weightOf_57 : decode cX4_weightOf 57 = .ok (.iload 6, 2) := by decide +kernel
theorem dX4_weightOf_59 : decode cX4_weightOf 59 = .ok (.isub, 1) := by decide +kernel
theorem dX4_weightOf_60 : decode cX4_weightOf 60 = .ok (.i2l, 1) := by decide +kernel
theorem dX4_weightOf_61 : decode cX4_weightOf 61 = .ok (.goto 6, 3) := by decide +kernel
theorem dX4_weightOf_64 : decode cX4_weightOf 64 = .ok (.iload 6, 2) := by decide +kernel
theorem dX4_weightOf_66 : decode cX4_weightOf 66 = .ok (.i2l, 1) := by decide +kernel
theorem dX4_weightOf_67 : decode cX4_weightOf 67 = .ok (.lmul, 1) := by decide +kernel
theorem dX4_weightOf_68 : decode cX4_weightOf 68 = .ok (.lstore_n 3, 1) := by decide +kernel
theorem dX4_weightOf_69 : decode cX4_weightOf 69 = .ok (.iinc 5 1, 3) := by decide +kernel
theorem dX4_weightOf_72 : decode cX4_weightOf 72 = .ok (.goto (-67), 3) := by decide +kernel
theorem dX4_weightOf_75 : decode cX4_weightOf 75 = .ok (.lload_n 3, 1) := by decide +kernel
theorem dX4_weightOf_76 : decode cX4_weightOf 76 = .ok (.lreturn, 1) := by decide +kernel
theorem dX5_init_0 : decode cX5_init 0 = .ok (.aload_n 0, 1) := by decide +kernel
theorem dX5_init_1 : decode cX5_init 1 = .ok (.invokespecial 1, 3) := by decide +kernel
theorem dX5_init_4 : decode cX5_init 4 = .ok (.aload_n 0, 1) := by decide +kernel
theorem dX5_init_5 : decode cX5_init 5 = .ok (.new 7, 3) := by decide +kernel
theorem dX5_init_8 : decode cX5_init 8 = .ok (.dup, 1) := by decide +kernel
theorem dX5_init_9 : decode cX5_init 9 = .ok (.invokespecial 9, 3) := by decide +kernel
theorem dX5_init_12 : decode cX5_init 12 = .ok (.putfield 10, 3) := by decide +kernel
theorem dX5_init_15 : decode cX5_init 15 = .ok (.aload_n 0, 1) := by decide +kernel
theorem dX5_init_16 : decode cX5_init 16 = .ok (.new 16, 3) := by decide +kernel
theorem dX5_init_19 : decode cX5_init 19 = .ok (.dup, 1) := by decide +kernel
theorem dX5_init_20 : decode cX5_init 20 = .ok (.bipush 8, 2) := by decide +kernel
theorem dX5_init_22 : decode cX5_init 22 = .ok (.invokespecial 18, 3) := by decide +kernel
theorem dX5_init_25 : decode cX5_init 25 = .ok (.putfield 21, 3) := by decide +kernel
theorem dX5_init_28 : decode cX5_init 28 = .ok (.aload_n 0, 1) := by decide +kernel
theorem dX5_init_29 : decode cX5_init 29 = .ok (.new 16, 3) := by decide +kernel
theorem dX5_init_32 : decode cX5_init 32 = .ok (.dup, 1) := by decide +kernel
theorem dX5_init_33 : decode cX5_init 33 = .ok (.iconst 2, 1) := by decide +kernel
theorem dX5_init_34 : decode cX5_init 34 = .ok (.invokespecial 18, 3) := by decide +kernel
theorem dX5_init_37 : decode cX5_init 37 = .ok (.putfield 25, 3) := by decide +kernel
theorem dX5_init_40 : decode cX5_init 40 = .ok (.aload_n 0, 1) := by decide +kernel
theorem dX5_init_41 : decode cX5_init 41 = .ok (.new 28, 3) := by decide +kernel
theorem dX5_init_44 : decode cX5_init 44 = .ok (.dup, 1) := by decide +kernel
theorem dX5_init_45 : decode cX5_init 45 = .ok (.invokespecial 30, 3) := by decide +kernel
theorem dX5_init_48 : decode cX5_init 48 = .ok (.putfield 31, 3) := by decide +kernel
theorem dX5_init_51 : decode cX5_init 51 = .ok (.aload_n 0, 1) := by decide +kernel
theorem dX5_init_52 : decode cX5_init 52 = .ok (.new 28, 3) := by decide +kernel
theorem dX5_init_55 : decode cX5_init 55 = .ok (.dup, 1) := by decide +kernel
theorem dX5_init_56 : decode cX5_init 56 = .ok (.invokespecial 30, 3) := by decide +kernel
theorem dX5_init_59 : decode cX5_init 59 = .ok (.putfield 35, 3) := by decide +kernel
theorem dX5_init_62 : decode cX5_init 62 = .ok (.aload_n 0, 1) := by decide +kernel
theorem dX5_init_63 : decode cX5_init 63 = .ok (.new 38, 3) := by decide +kernel
theorem dX5_init_66 : decode cX5_init 66 = .ok (.dup, 1) := by decide +kernel
theorem dX5_init_67 : decode cX5_init 67 = .ok (.invokespecial 40, 3) := by decide +kernel
theorem dX5_init_70 : decode cX5_init 70 = .ok (.putfield 41, 3) := by decide +kernel
theorem dX5_init_73 : decode cX5_init 73 = .ok (.aload_n 0, 1) := by decide +kernel
theorem dX5_init_74 : decode cX5_init 74 = .ok (.new 38, 3) := by decide +kernel
theorem dX5_init_77 : decode cX5_init 77 = .ok (.dup, 1) := by decide +kernel
theorem dX5_init_78 : decode cX5_init 78 = .ok (.invokespecial 40, 3) := by decide +kernel
theorem dX5_init_81 : decode cX5_init 81 = .ok (.putfield 45, 3) := by decide +kernel
theorem dX5_init_84 : decode cX5_init 84 = .ok (.iconst 0, 1) := by decide +kernel
theorem dX5_init_85 : decode cX5_init 85 = .ok (.istore_n 1, 1) := by decide +kernel
theorem dX5_init_86 : decode cX5_init 86 = .ok (.iload_n 1, 1) := by decide +kernel
theorem dX5_init_87 : decode cX5_init 87 = .ok (.ldc 48, 2) := by decide +kernel
theorem dX5_init_89 : decode cX5_init 89 = .ok (.invokevirtual 50, 3) := by decide +kernel
theorem dX5_init_92 : decode cX5_init 92 = .ok (.if_icmp .ge 28, 3) := by decide +kernel
theorem dX5_init_95 : decode cX5_init 95 = .ok (.aload_n 0, 1) := by decide +kernel
theorem dX5_init_96 : decode cX5_init 96 = .ok (.getfield 10, 3) := by decide +kernel
theorem dX5_init_99 : decode cX5_init 99 = .ok (.getfield 56, 3) := by decide +kernel
theorem dX5_init_102 : decode cX5_init 102 = .ok (.ldc 48, 2) := by decide +kernel
theorem dX5_init_104 : decode cX5_init 104 = .ok (.iload_n 1, 1) := by decide +kernel
theorem dX5_init_105 : decode cX5_init 105 = .ok (.invokevirtual 60, 3) := by decide +kernel
theorem dX5_init_108 : decode cX5_init 108 = .ok (.iconst 0, 1) := by decide +kernel
theorem dX5_init_109 : decode cX5_init 109 = .ok (.iconst 0, 1) := by decide +kernel
theorem dX5_init_110 : decode cX5_init 110 = .ok (.invokevirtual 64, 3) := by decide +kernel
theorem dX5_init_113 : decode cX5_init 113 = .ok (.pop, 1) := by decide +kernel
theorem dX5_init_114 : decode cX5_init 114 = .ok (.iinc 1 1, 3) := by decide +kernel
theorem dX5_init_117 : decode cX5_init 117 = .ok (.goto (-31), 3) := by decide +kernel
theorem dX5_init_120 : decode cX5_init 120 = .ok (.aload_n 0, 1) := by decide +kernel
theorem dX5_init_121 : decode cX5_init 121 = .ok (.getfield 10, 3) := by decide +kernel
theorem dX5_init_124 : decode cX5_init 124 = .ok (.aload_n 0, 1) := by decide +kernel
theorem dX5_init_125 : decode cX5_init 125 = .ok (.getfield 41, 3) := by decide +kernel
theorem dX5_init_128 : decode cX5_init 128 = .ok (.invokevirtual 70, 3) := by decide +kernel
theorem dX5_init_131 : decode cX5_init 131 = .ok (.pop, 1) := by decide +kernel
theorem dX5_init_132 : decode cX5_init 132 = .ok (.aload_n 0, 1) := by decide +kernel
theorem dX5_init_133 : decode cX5_init 133 = .ok (.getfield 41, 3) := by decide +kernel
theorem dX5_init_136 : decode cX5_init 136 = .ok (.invokevirtual 74, 3) := by decide +kernel
theorem dX5_init_139 : decode cX5_init 139 = .ok (.aload_n 0, 1) := by decide +kernel
theorem dX5_init_140 : decode cX5_init 140 = .ok (.getfield 31, 3) := by decide +kernel
theorem dX5_init_143 : decode cX5_init 143 = .ok (.aload_n 0, 1) := by decide +kernel
theorem dX5_init_144 : decode cX5_init 144 = .ok (.getfield 41, 3) := by decide +kernel
theorem dX5_init_147 : decode cX5_init 147 = .ok (.invokevirtual 77, 3) := by decide +kernel
theorem dX5_init_150 : decode cX5_init 150 = .ok (.aload_n 0, 1) := by decide +kernel
theorem dX5_init_151 : decode cX5_init 151 = .ok (.getfield 10, 3) := by decide +kernel
theorem dX5_init_154 : decode cX5_init 154 = .ok (.getfield 56, 3) := by decide +kernel
theorem dX5_init_157 : decode cX5_init 157 = .ok (.invokevirtual 81, 3) := by decide +kernel
theorem dX5_init_160 : decode cX5_init 160 = .ok (.return_, 1) := by decide +kernel
theorem dX5_write_0 : decode cX5_write 0 = .ok (.iload_n 1, 1) := by decide +kernel
theorem dX5_write_1 : decode cX5_write 1 = .ok (.bipush 32, 2) := by decide +kernel
theorem dX5_write_3 : decode cX5_write 3 = .ok (.if_icmp .lt 9, 3) := by decide +kernel
theorem dX5_write_6 : decode cX5_write 6 = .ok (.iload_n 1, 1) := by decide +kernel
theorem dX5_write_7 : decode cX5_write 7 = .ok (.bipush 126, 2) := by decide +kernel
theorem dX5_write_9 : decode cX5_write 9 = .ok (.if_icmp .le 5, 3) := by decide +kernel
theorem dX5_write_12 : decode cX5_write 12 = .ok (.iconst (-1), 1) := by decide +kernel
theorem dX5_write_13 : decode cX5_write 13 = .ok (.ireturn, 1) := by decide +kernel
theorem dX5_write_14 : decode cX5_write 14 = .ok (.aload_n 0, 1) := by decide +kernel
theorem dX5_write_15 : decode cX5_write 15 = .ok (.getfield 10, 3) := by decide +kernel
theorem dX5_write_18 : decode cX5_write 18 = .ok (.getfield 56, 3) := by decide +kernel
theorem dX5_write_21 : decode cX5_write 21 = .ok (.iload_n 1, 1) := by decide +kernel
theorem dX5_write_22 : decode cX5_write 22 = .ok (.iconst 0, 1) := by decide +kernel
theorem dX5_write_23 : decode cX5_write 23 = .ok (.iconst 0, 1) := by decide +kernel
theorem dX5_write_24 : decode cX5_write 24 = .ok (.invokevirtual 64, 3) := by decide +kernel
theorem dX5_write_27 : decode cX5_write 27 = .ok (.ifCond .eq 16, 3) := by decide +kernel
theorem dX5_write_30 : decode cX5_write 30 = .ok (.aload_n 0, 1) := by decide +kernel
theorem dX5_write_31 : decode cX5_write 31 = .ok (.getfield 10, 3) := by decide +kernel
theorem dX5_write_34 : decode cX5_write 34 = .ok (.getfield 56, 3) := by decide +kernel
theorem dX5_write_37 : decode cX5_write 37 = .ok (.invokevirtual 84, 3) := by decide +kernel
theorem dX5_write_40 : decode cX5_write 40 = .ok (.goto 5, 3) := by decide +kernel
theorem dX5_write_43 : decode cX5_write 43 = .ok (.bipush (-3), 2) := by decide +kernel
theorem dX5_write_45 : decode cX5_write 45 = .ok (.ireturn, 1) := by decide +kernel
theorem dX5_wipe_0 : decode cX5_wipe 0 = .ok (.aload_n 0, 1) := by decide +kernel
theorem dX5_wipe_1 : decode cX5_wipe 1 = .ok (.getfield 10, 3) := by decide +kernel
theorem dX5_wipe_4 : decode cX5_wipe 4 = .ok (.getfield 56, 3) := by decide +kernel
theorem dX5_wipe_7 : decode cX5_wipe 7 = .ok (.invokevirtual 84, 3) := by decide +kernel
theorem dX5_wipe_10 : decode cX5_wipe 10 = .ok (.istore_n 1, 1) := by decide +kernel
theorem dX5_wipe_11 : decode cX5_wipe 11 = .ok (.aload_n 0, 1) := by decide +kernel
theorem dX5_wipe_12 : decode cX5_wipe 12 = .ok (.getfield 10, 3) := by decide +kernel
theorem dX5_wipe_15 : decode cX5_wipe 15 = .ok (.getfield 56, 3) := by decide +kernel
theorem dX5_wipe_18 : decode cX5_wipe 18 = .ok (.invokevirtual 81, 3) := by decide +kernel
theorem dX5_wipe_21 : decode cX5_wipe 21 = .ok (.iload_n 1, 1) := by decide +kernel
theorem dX5_wipe_22 : decode cX5_wipe 22 = .ok (.ireturn, 1) := by decide +kernel
theorem dX5_fault_0 : decode cX5_fault 0 = .ok (.aload_n 0, 1) := by decide +kernel
theorem dX5_fault_1 : decode cX5_fault 1 = .ok (.getfield 10, 3) := by decide +kernel
theorem dX5_fault_4 : decode cX5_fault 4 = .ok (.aload_n 0, 1) := by decide +kernel
theorem dX5_fault_5 : decode cX5_fault 5 = .ok (.getfield 45, 3) := by decide +kernel
theorem dX5_fault_8 : decode cX5_fault 8 = .ok (.invokevirtual 70, 3) := by decide +kernel
theorem dX5_fault_11 : decode cX5_fault 11 = .ok (.ireturn, 1) := by decide +kernel
theorem dX5_lay_0 : decode cX5_lay 0 = .ok (.aload_n 0, 1) := by decide +kernel
theorem dX5_lay_1 : decode cX5_lay 1 = .ok (.getfield 10, 3) := by decide +kernel
theorem dX5_lay_4 : decode cX5_lay 4 = .ok (.aload_n 0, 1) := by decide +kernel
theorem dX5_lay_5 : decode cX5_lay 5 = .ok (.getfield 45, 3) := by decide +kernel
theorem dX5_lay_8 : decode cX5_lay 8 = .ok (.invokevirtual 70, 3) := by decide +kernel
theorem dX5_lay_11 : decode cX5_lay 11 = .ok (.bipush (-4), 2) := by decide +kernel
theorem dX5_lay_13 : decode cX5_lay 13 = .ok (.if_icmp .ne 48, 3) := by decide +kernel
theorem dX5_lay_16 : decode cX5_lay 16 = .ok (.aload_n 0, 1) := by decide +kernel
theorem dX5_lay_17 : decode cX5_lay 17 = .ok (.getfield 45, 3) := by decide +kernel
theorem dX5_lay_20 : decode cX5_lay 20 = .ok (.getfield 87, 3) := by decide +kernel
theorem dX5_lay_23 : decode cX5_lay 23 = .ok (.invokevirtual 84, 3) := by decide +kernel
theorem dX5_lay_26 : decode cX5_lay 26 = .ok (.iconst 1, 1) := by decide +kernel
theorem dX5_lay_27 : decode cX5_lay 27 = .ok (.if_icmp .lt 34, 3) := by decide +kernel
theorem dX5_lay_30 : decode cX5_lay 30 = .ok (.aload_n 0, 1) := by decide +kernel
theorem dX5_lay_31 : decode cX5_lay 31 = .ok (.getfield 45, 3) := by decide +kernel
theorem dX5_lay_34 : decode cX5_lay 34 = .ok (.getfield 90, 3) := by decide +kernel
theorem dX5_lay_37 : decode cX5_lay 37 = .ok (.invokevirtual 84, 3) := by decide +kernel
theorem dX5_lay_40 : decode cX5_lay 40 = .ok (.iconst 1, 1) := by decide +kernel
theorem dX5_lay_41 : decode cX5_lay 41 = .ok (.if_icmp .lt 20, 3) := by decide +kernel
theorem dX5_lay_44 : decode cX5_lay 44 = .ok (.aload_n 0, 1) := by decide +kernel
theorem dX5_lay_45 : decode cX5_lay 45 = .ok (.getfield 45, 3) := by decide +kernel
theorem dX5_lay_48 : decode cX5_lay 48 = .ok (.aload_n 0, 1) := by decide +kernel
theorem dX5_lay_49 : decode cX5_lay 49 = .ok (.getfield 45, 3) := by decide +kernel
theorem dX5_lay_52 : decode cX5_lay 52 = .ok (.getfield 93, 3) := by decide +kernel
theorem dX5_lay_55 : decode cX5_lay 55 = .ok (.invokevirtual 97, 3) := by decide +kernel
theorem dX5_lay_58 : decode cX5_lay 58 = .ok (.ifCond .ne 6, 3) := by decide +kernel
theorem dX5_lay_61 : decode cX5_lay 61 = .ok (.bipush (-2), 2) := by decide +kernel
theorem dX5_lay_63 : decode cX5_lay 63 = .ok (.ireturn, 1) := by decide +kernel
theorem dX5_lay_64 : decode cX5_lay 64 = .ok (.aload_n 0, 1) := by decide +kernel
theorem dX5_lay_65 : decode cX5_lay 65 = .ok (.getfield 41, 3) := by decide +kernel
theorem dX5_lay_68 : decode cX5_lay 68 = .ok (.astore_n 1, 1) := by decide +kernel
theorem dX5_lay_69 : decode cX5_lay 69 = .ok (.aload_n 0, 1) := by decide +kernel
theorem dX5_lay_70 : decode cX5_lay 70 = .ok (.aload_n 0, 1) := by decide +kernel
theorem dX5_lay_71 : decode cX5_lay 71 = .ok (.getfield 45, 3) := by decide +kernel
theorem dX5_lay_74 : decode cX5_lay 74 = .ok (.putfield 41, 3) := by decide +kernel
theorem dX5_lay_77 : decode cX5_lay 77 = .ok (.aload_n 0, 1) := by decide +kernel
theorem dX5_lay_78 : decode cX5_lay 78 = .ok (.aload_n 1, 1) := by decide +kernel
theorem dX5_lay_79 : decode cX5_lay 79 = .ok (.putfield 45, 3) := by decide +kernel
theorem dX5_lay_82 : decode cX5_lay 82 = .ok (.aload_n 0, 1) := by decide +kernel
theorem dX5_lay_83 : decode cX5_lay 83 = .ok (.getfield 41, 3) := by decide +kernel
theorem dX5_lay_86 : decode cX5_lay 86 = .ok (.invokevirtual 74, 3) := by decide +kernel
theorem dX5_lay_89 : decode cX5_lay 89 = .ok (.aload_n 0, 1) := by decide +kernel
theorem dX5_lay_90 : decode cX5_lay 90 = .ok (.getfield 31, 3) := by decide +kernel
theorem dX5_lay_93 : decode cX5_lay 93 = .ok (.aload_n 0, 1) := by decide +kernel
theorem dX5_lay_94 : decode cX5_lay 94 = .ok (.getfield 41, 3) := by decide +kernel
theorem dX5_lay_97 : decode cX5_lay 97 = .ok (.invokevirtual 77, 3) := by decide +kernel
theorem dX5_lay_100 : decode cX5_lay 100 = .ok (.aload_n 0, 1) := by decide +kernel
theorem dX5_lay_101 : decode cX5_lay 101 = .ok (.getfield 21, 3) := by decide +kernel
theorem dX5_lay_104 : decode cX5_lay 104 = .ok (.invokevirtual 101, 3) := by decide +kernel
theorem dX5_lay_107 : decode cX5_lay 107 = .ok (.aload_n 0, 1) := by decide +kernel
theorem dX5_lay_108 : decode cX5_lay 108 = .ok (.getfield 25, 3) := by decide +kernel
theorem dX5_lay_111 : decode cX5_lay 111 = .ok (.invokevirtual 101, 3) := by decide +kernel
theorem dX5_lay_114 : decode cX5_lay 114 = .ok (.aload_n 0, 1) := by decide +kernel
theorem dX5_lay_115 : decode cX5_lay 115 = .ok (.getfield 41, 3) := by decide +kernel
theorem dX5_lay_118 : decode cX5_lay 118 = .ok (.getfield 102, 3) := by decide +kernel
theorem dX5_lay_121 : decode cX5_lay 121 = .ok (.invokevirtual 84, 3) := by decide +kernel
theorem dX5_lay_124 : decode cX5_lay 124 = .ok (.ireturn, 1) := by decide +kernel
theorem dX5_law_0 : decode cX5_law 0 = .ok (.aload_n 0, 1) := by decide +kernel
theorem dX5_law_1 : decode cX5_law 1 = .ok (.getfield 41, 3) := by decide +kernel
theorem dX5_law_4 : decode cX5_law 4 = .ok (.getfield 105, 3) := by decide +kernel
theorem dX5_law_7 : decode cX5_law 7 = .ok (.iload_n 1, 1) := by decide +kernel
theorem dX5_law_8 : decode cX5_law 8 = .ok (.invokevirtual 108, 3) := by decide +kernel
theorem dX5_law_11 : decode cX5_law 11 = .ok (.ifCond .eq 12, 3) := by decide +kernel
theorem dX5_law_14 : decode cX5_law 14 = .ok (.iload_n 2, 1) := by decide +kernel
theorem dX5_law_15 : decode cX5_law 15 = .ok (.ifCond .lt 8, 3) := by decide +kernel
theorem dX5_law_18 : decode cX5_law 18 = .ok (.iload_n 2, 1) := by decide +kernel
theorem dX5_law_19 : decode cX5_law 19 = .ok (.iconst 1, 1) := by decide +kernel
theorem dX5_law_20 : decode cX5_law 20 = .ok (.if_icmp .le 5, 3) := by decide +kernel
theorem dX5_law_23 : decode cX5_law 23 = .ok (.iconst (-1), 1) := by decide +kernel
theorem dX5_law_24 : decode cX5_law 24 = .ok (.ireturn, 1) := by decide +kernel
theorem dX5_law_25 : decode cX5_law 25 = .ok (.aload_n 0, 1) := by decide +kernel
theorem dX5_law_26 : decode cX5_law 26 = .ok (.getfield 41, 3) := by decide +kernel
theorem dX5_law_29 : decode cX5_law 29 = .ok (.getfield 105, 3) := by decide +kernel
theorem dX5_law_32 : decode cX5_law 32 = .ok (.iload_n 1, 1) := by decide +kernel
theorem dX5_law_33 : decode cX5_law 33 = .ok (.iload_n 2, 1) := by decide +kernel
theorem dX5_law_34 : decode cX5_law 34 = .ok (.invokevirtual 111, 3) := by decide +kernel
theorem dX5_law_37 : decode cX5_law 37 = .ok (.ireturn, 1) := by decide +kernel
theorem dX5_person_0 : decode cX5_person 0 = .ok (.aload_n 0, 1) := by decide +kernel
theorem dX5_person_1 : decode cX5_person 1 = .ok (.getfield 41, 3) := by decide +kernel
theorem dX5_person_4 : decode cX5_person 4 = .ok (.getfield 87, 3) := by decide +kernel
theorem dX5_person_7 : decode cX5_person 7 = .ok (.iload_n 1, 1) := by decide +kernel
theorem dX5_person_8 : decode cX5_person 8 = .ok (.invokevirtual 108, 3) := by decide +kernel
theorem dX5_person_11 : decode cX5_person 11 = .ok (.ifCond .eq 12, 3) := by decide +kernel
theorem dX5_person_14 : decode cX5_person 14 = .ok (.iload_n 2, 1) := by decide +kernel
theorem dX5_person_15 : decode cX5_person 15 = .ok (.ifCond .lt 8, 3) := by decide +kernel
theorem dX5_person_18 : decode cX5_person 18 = .ok (.iload_n 2, 1) := by decide +kernel
theorem dX5_person_19 : decode cX5_person 19 = .ok (.iconst 2, 1) := by decide +kernel
theorem dX5_person_20 : decode cX5_person 20 = .ok (.if_icmp .le 5, 3) := by decide +kernel
theorem dX5_person_23 : decode cX5_person 23 = .ok (.iconst (-1), 1) := by decide +kernel
theorem dX5_person_24 : decode cX5_person 24 = .ok (.ireturn, 1) := by decide +kernel
theorem dX5_person_25 : decode cX5_person 25 = .ok (.iload_n 2, 1) := by decide +kernel
theorem dX5_person_26 : decode cX5_person 26 = .ok (.iconst 2, 1) := by decide +kernel
theorem dX5_person_27 : decode cX5_person 27 = .ok (.if_icmp .ne 18, 3) := by decide +kernel
theorem dX5_person_30 : decode cX5_person 30 = .ok (.aload_n 0, 1) := by decide +kernel
theorem dX5_person_31 : decode cX5_person 31 = .ok (.getfield 31, 3) := by decide +kernel
theorem dX5_person_34 : decode cX5_person 34 = .ok (.getfield 115, 3) := by decide +kernel
theorem dX5_person_37 : decode cX5_person 37 = .ok (.iload_n 1, 1) := by decide +kernel
theorem dX5_person_38 : decode cX5_person 38 = .ok (.iconst 0, 1) := by decide +kernel
theorem dX5_person_39 : decode cX5_person 39 = .ok (.invokevirtual 111, 3) := by decide +kernel
theorem dX5_person_42 : decode cX5_person 42 = .ok (.goto 15, 3) := by decide +kernel
theorem dX5_person_45 : decode cX5_person 45 = .ok (.aload_n 0, 1) := by decide +kernel
theorem dX5_person_46 : decode cX5_person 46 = .ok (.getfield 41, 3) := by decide +kernel
theorem dX5_person_49 : decode cX5_person 49 = .ok (.getfield 87, 3) := by decide +kernel
theorem dX5_person_52 : decode cX5_person 52 = .ok (.iload_n 1, 1) := by decide +kernel
theorem dX5_person_53 : decode cX5_person 53 = .ok (.iload_n 2, 1) := by decide +kernel
theorem dX5_person_54 : decode cX5_person 54 = .ok (.invokevirtual 111, 3) := by decide +kernel
theorem dX5_person_57 : decode cX5_person 57 = .ok (.ireturn, 1) := by decide +kernel
theorem dX5_stone_0 : decode cX5_stone 0 = .ok (.aload_n 0, 1) := by decide +kernel
theorem dX5_stone_1 : decode cX5_stone 1 = .ok (.getfield 41, 3) := by decide +kernel
theorem dX5_stone_4 : decode cX5_stone 4 = .ok (.getfield 90, 3) := by decide +kernel
theorem dX5_stone_7 : decode cX5_stone 7 = .ok (.iload_n 1, 1) := by decide +kernel
theorem dX5_stone_8 : decode cX5_stone 8 = .ok (.invokevirtual 108, 3) := by decide +kernel
theorem dX5_stone_11 : decode cX5_stone 11 = .ok (.ifCond .eq 12, 3) := by decide +kernel
theorem dX5_stone_14 : decode cX5_stone 14 = .ok (.iload_n 2, 1) := by decide +kernel
theorem dX5_stone_15 : decode cX5_stone 15 = .ok (.ifCond .lt 8, 3) := by decide +kernel
theorem dX5_stone_18 : decode cX5_stone 18 = .ok (.iload_n 2, 1) := by decide +kernel
theorem dX5_stone_19 : decode cX5_stone 19 = .ok (.iconst 3, 1) := by decide +kernel
theorem dX5_stone_20 : decode cX5_stone 20 = .ok (.if_icmp .le 5, 3) := by decide +kernel
theorem dX5_stone_23 : decode cX5_stone 23 = .ok (.iconst (-1), 1) := by decide +kernel
theorem dX5_stone_24 : decode cX5_stone 24 = .ok (.ireturn, 1) := by decide +kernel
theorem dX5_stone_25 : decode cX5_stone 25 = .ok (.iload_n 2, 1) := by decide +kernel
theorem dX5_stone_26 : decode cX5_stone 26 = .ok (.iconst 3, 1) := by decide +kernel
theorem dX5_stone_27 : decode cX5_stone 27 = .ok (.if_icmp .ne 18, 3) := by decide +kernel
theorem dX5_stone_30 : decode cX5_stone 30 = .ok (.aload_n 0, 1) := by decide +kernel
theorem dX5_stone_31 : decode cX5_stone 31 = .ok (.getfield 31, 3) := by decide +kernel
theorem dX5_stone_34 : decode cX5_stone 34 = .ok (.aload_n 0, 1) := by decide +kernel
theorem dX5_stone_35 : decode cX5_stone 35 = .ok (.getfield 41, 3) := by decide +kernel
theorem dX5_stone_38 : decode cX5_stone 38 = .ok (.iload_n 1, 1) := by decide +kernel
theorem dX5_stone_39 : decode cX5_stone 39 = .ok (.invokevirtual 118, 3) := by decide +kernel
theorem dX5_stone_42 : decode cX5_stone 42 = .ok (.goto 15, 3) := by decide +kernel
theorem dX5_stone_45 : decode cX5_stone 45 = .ok (.aload_n 0, 1) := by decide +kernel
theorem dX5_stone_46 : decode cX5_stone 46 = .ok (.getfield 41, 3) := by decide +kernel
theorem dX5_stone_49 : decode cX5_stone 49 = .ok (.getfield 90, 3) := by decide +kernel
theorem dX5_stone_52 : decode cX5_stone 52 = .ok (.iload_n 1, 1) := by decide +kernel
theorem dX5_stone_53 : decode cX5_stone 53 = .ok (.iload_n 2, 1) := by decide +kernel
theorem dX5_stone_54 : decode cX5_stone 54 = .ok (.invokevirtual 111, 3) := by decide +kernel
theorem dX5_stone_57 : decode cX5_stone 57 = .ok (.ireturn, 1) := by decide +kernel
theorem dX5_mark_0 : decode cX5_mark 0 = .ok (.aload_n 0, 1) := by decide +kernel
theorem dX5_mark_1 : decode cX5_mark 1 = .ok (.getfield 31, 3) := by decide +kernel
theorem dX5_mark_4 : decode cX5_mark 4 = .ok (.getfield 122, 3) := by decide +kernel
theorem dX5_mark_7 : decode cX5_mark 7 = .ok (.iload_n 1, 1) := by decide +kernel
theorem dX5_mark_8 : decode cX5_mark 8 = .ok (.invokevirtual 108, 3) := by decide +kernel
theorem dX5_mark_11 : decode cX5_mark 11 = .ok (.ifCond .eq 12, 3) := by decide +kernel
theorem dX5_mark_14 : decode cX5_mark 14 = .ok (.iload_n 2, 1) := by decide +kernel
theorem dX5_mark_15 : decode cX5_mark 15 = .ok (.ifCond .lt 8, 3) := by decide +kernel
theorem dX5_mark_18 : decode cX5_mark 18 = .ok (.iload_n 2, 1) := by decide +kernel
theorem dX5_mark_19 : decode cX5_mark 19 = .ok (.iconst 4, 1) := by decide +kernel
theorem dX5_mark_20 : decode cX5_mark 20 = .ok (.if_icmp .le 5, 3) := by decide +kernel
theorem dX5_mark_23 : decode cX5_mark 23 = .ok (.iconst (-1), 1) := by decide +kernel
theorem dX5_mark_24 : decode cX5_mark 24 = .ok (.ireturn, 1) := by decide +kernel
theorem dX5_mark_25 : decode cX5_mark 25 = .ok (.iload_n 2, 1) := by decide +kernel
theorem dX5_mark_26 : decode cX5_mark 26 = .ok (.iconst 4, 1) := by decide +kernel
theorem dX5_mark_27 : decode cX5_mark 27 = .ok (.if_icmp .ne 34, 3) := by decide +kernel
theorem dX5_mark_30 : decode cX5_mark 30 = .ok (.aload_n 0, 1) := by decide +kernel
theorem dX5_mark_31 : decode cX5_mark 31 = .ok (.getfield 31, 3) := by decide +kernel
theorem dX5_mark_34 : decode cX5_mark 34 = .ok (.getfield 122, 3) := by decide +kernel
theorem dX5_mark_37 : decode cX5_mark 37 = .ok (.iload_n 1, 1) := by decide +kernel
theorem dX5_mark_38 : decode cX5_mark 38 = .ok (.iconst 0, 1) := by decide +kernel
theorem dX5_mark_39 : decode cX5_mark 39 = .ok (.invokevirtual 111, 3) := by decide +kernel
theorem dX5_mark_42 : decode cX5_mark 42 = .ok (.aload_n 0, 1) := by decide +kernel
theorem dX5_mark_43 : decode cX5_mark 43 = .ok (.getfield 31, 3) := by decide +kernel
theorem dX5_mark_46 : decode cX5_mark 46 = .ok (.getfield 125, 3) := by decide +kernel
theorem dX5_mark_49 : decode cX5_mark 49 = .ok (.invokestatic 128, 3) := by decide +kernel
theorem dX5_mark_52 : decode cX5_mark 52 = .ok (.ifCond .eq 7, 3) := by decide +kernel
theorem dX5_mark_55 : decode cX5_mark 55 = .ok (.iconst 1, 1) := by decide +kernel
theorem dX5_mark_56 : decode cX5_mark 56 = .ok (.goto 4, 3) := by decide +kernel
theorem dX5_mark_59 : decode cX5_mark 59 = .ok (.iconst 0, 1) := by decide +kernel
theorem dX5_mark_60 : decode cX5_mark 60 = .ok (.ireturn, 1) := by decide +kernel
theorem dX5_mark_61 : decode cX5_mark 61 = .ok (.aload_n 0, 1) := by decide +kernel
theorem dX5_mark_62 : decode cX5_mark 62 = .ok (.getfield 31, 3) := by decide +kernel
theorem dX5_mark_65 : decode cX5_mark 65 = .ok (.getfield 122, 3) := by decide +kernel
theorem dX5_mark_68 : decode cX5_mark 68 = .ok (.iload_n 1, 1) := by decide +kernel
theorem dX5_mark_69 : decode cX5_mark 69 = .ok (.iload_n 2, 1) := by decide +kernel
theorem dX5_mark_70 : decode cX5_mark 70 = .ok (.invokevirtual 111, 3) := by decide +kernel
theorem dX5_mark_73 : decode cX5_mark 73 = .ok (.ireturn, 1) := by decide +kernel
theorem dX5_world_0 : decode cX5_world 0 = .ok (.iload_n 1, 1) := by decide +kernel
theorem dX5_world_1 : decode cX5_world 1 = .ok (.ifCond .ge 5, 3) := by decide +kernel
theorem dX5_world_4 : decode cX5_world 4 = .ok (.iconst (-1), 1) := by decide +kernel
theorem dX5_world_5 : decode cX5_world 5 = .ok (.ireturn, 1) := by decide +kernel
theorem dX5_world_6 : decode cX5_world 6 = .ok (.aload_n 0, 1) := by decide +kernel
theorem dX5_world_7 : decode cX5_world 7 = .ok (.getfield 41, 3) := by decide +kernel
theorem dX5_world_10 : decode cX5_world 10 = .ok (.getfield 102, 3) := by decide +kernel
theorem dX5_world_13 : decode cX5_world 13 = .ok (.iload_n 1, 1) := by decide +kernel
theorem dX5_world_14 : decode cX5_world 14 = .ok (.invokevirtual 108, 3) := by decide +kernel
theorem dX5_world_17 : decode cX5_world 17 = .ok (.ifCond .eq 18, 3) := by decide +kernel
theorem dX5_world_20 : decode cX5_world 20 = .ok (.aload_n 0, 1) := by decide +kernel
theorem dX5_world_21 : decode cX5_world 21 = .ok (.getfield 41, 3) := by decide +kernel
theorem dX5_world_24 : decode cX5_world 24 = .ok (.getfield 102, 3) := by decide +kernel
theorem dX5_world_27 : decode cX5_world 27 = .ok (.iload_n 1, 1) := by decide +kernel
theorem dX5_world_28 : decode cX5_world 28 = .ok (.iconst 0, 1) := by decide +kernel
theorem dX5_world_29 : decode cX5_world 29 = .ok (.invokevirtual 111, 3) := by decide +kernel
theorem dX5_world_32 : decode cX5_world 32 = .ok (.goto 5, 3) := by decide +kernel
theorem dX5_world_35 : decode cX5_world 35 = .ok (.bipush (-4), 2) := by decide +kernel
theorem dX5_world_37 : decode cX5_world 37 = .ok (.ireturn, 1) := by decide +kernel
theorem dX5_deed_0 : decode cX5_deed 0 = .ok (.aload_n 0, 1) := by decide +kernel
theorem dX5_deed_1 : decode cX5_deed 1 = .ok (.getfield 41, 3) := by decide +kernel
theorem dX5_deed_4 : decode cX5_deed 4 = .ok (.iload_n 1, 1) := by decide +kernel
theorem dX5_deed_5 : decode cX5_deed 5 = .ok (.invokevirtual 132, 3) := by decide +kernel
theorem dX5_deed_8 : decode cX5_deed 8 = .ok (.ifCond .ne 5, 3) := by decide +kernel
theorem dX5_deed_11 : decode cX5_deed 11 = .ok (.iconst (-1), 1) := by decide +kernel
theorem dX5_deed_12 : decode cX5_deed 12 = .ok (.ireturn, 1) := by decide +kernel
theorem dX5_deed_13 : decode cX5_deed 13 = .ok (.aload_n 0, 1) := by decide +kernel
theorem dX5_deed_14 : decode cX5_deed 14 = .ok (.getfield 41, 3) := by decide +kernel
theorem dX5_deed_17 : decode cX5_deed 17 = .ok (.iload_n 1, 1) := by decide +kernel
theorem dX5_deed_18 : decode cX5_deed 18 = .ok (.invokevirtual 97, 3) := by decide +kernel
theorem dX5_deed_21 : decode cX5_deed 21 = .ok (.ifCond .ne 6, 3) := by decide +kernel
theorem dX5_deed_24 : decode cX5_deed 24 = .ok (.bipush (-2), 2) := by decide +kernel
theorem dX5_deed_26 : decode cX5_deed 26 = .ok (.ireturn, 1) := by decide +kernel
theorem dX5_deed_27 : decode cX5_deed 27 = .ok (.aload_n 0, 1) := by decide +kernel
theorem dX5_deed_28 : decode cX5_deed 28 = .ok (.getfield 21, 3) := by decide +kernel
theorem dX5_deed_31 : decode cX5_deed 31 = .ok (.aload_n 0, 1) := by decide +kernel
theorem dX5_deed_32 : decode cX5_deed 32 = .ok (.getfield 31, 3) := by decide +kernel
theorem dX5_deed_35 : decode cX5_deed 35 = .ok (.invokevirtual 135, 3) := by decide +kernel
theorem dX5_deed_38 : decode cX5_deed 38 = .ok (.aload_n 0, 1) := by decide +kernel
theorem dX5_deed_39 : decode cX5_deed 39 = .ok (.getfield 31, 3) := by decide +kernel
theorem dX5_deed_42 : decode cX5_deed 42 = .ok (.getfield 125, 3) := by decide +kernel
theorem dX5_deed_45 : decode cX5_deed 45 = .ok (.iload_n 1, 1) := by decide +kernel
theorem dX5_deed_46 : decode cX5_deed 46 = .ok (.ixor, 1) := by decide +kernel
theorem dX5_deed_47 : decode cX5_deed 47 = .ok (.invokestatic 139, 3) := by decide +kernel
theorem dX5_deed_50 : decode cX5_deed 50 = .ok (.istore_n 2, 1) := by decide +kernel
theorem dX5_deed_51 : decode cX5_deed 51 = .ok (.aload_n 0, 1) := by decide +kernel
theorem dX5_deed_52 : decode cX5_deed 52 = .ok (.getfield 31, 3) := by decide +kernel
theorem dX5_deed_55 : decode cX5_deed 55 = .ok (.iload_n 1, 1) := by decide +kernel
theorem dX5_deed_56 : decode cX5_deed 56 = .ok (.putfield 125, 3) := by decide +kernel
theorem dX5_deed_59 : decode cX5_deed 59 = .ok (.iload_n 2, 1) := by decide +kernel
theorem dX5_deed_60 : decode cX5_deed 60 = .ok (.ireturn, 1) := by decide +kernel
theorem dX5_carve_0 : decode cX5_carve 0 = .ok (.aload_n 0, 1) := by decide +kernel
theorem dX5_carve_1 : decode cX5_carve 1 = .ok (.getfield 41, 3) := by decide +kernel
theorem dX5_carve_4 : decode cX5_carve 4 = .ok (.getfield 87, 3) := by decide +kernel
theorem dX5_carve_7 : decode cX5_carve 7 = .ok (.iload_n 1, 1) := by decide +kernel
theorem dX5_carve_8 : decode cX5_carve 8 = .ok (.invokevirtual 108, 3) := by decide +kernel
theorem dX5_carve_11 : decode cX5_carve 11 = .ok (.ifCond .eq 28, 3) := by decide +kernel
theorem dX5_carve_14 : decode cX5_carve 14 = .ok (.aload_n 0, 1) := by decide +kernel
theorem dX5_carve_15 : decode cX5_carve 15 = .ok (.getfield 41, 3) := by decide +kernel
theorem dX5_carve_18 : decode cX5_carve 18 = .ok (.getfield 90, 3) := by decide +kernel
theorem dX5_carve_21 : decode cX5_carve 21 = .ok (.iload_n 2, 1) := by decide +kernel
theorem dX5_carve_22 : decode cX5_carve 22 = .ok (.invokevirtual 108, 3) := by decide +kernel
theorem dX5_carve_25 : decode cX5_carve 25 = .ok (.ifCond .eq 14, 3) := by decide +kernel
theorem dX5_carve_28 : decode cX5_carve 28 = .ok (.aload_n 0, 1) := by decide +kernel
theorem dX5_carve_29 : decode cX5_carve 29 = .ok (.getfield 41, 3) := by decide +kernel
theorem dX5_carve_32 : decode cX5_carve 32 = .ok (.iload_n 3, 1) := by decide +kernel
theorem dX5_carve_33 : decode cX5_carve 33 = .ok (.invokevirtual 145, 3) := by decide +kernel
theorem dX5_carve_36 : decode cX5_carve 36 = .ok (.ifCond .ne 5, 3) := by decide +kernel
theorem dX5_carve_39 : decode cX5_carve 39 = .ok (.iconst (-1), 1) := by decide +kernel
theorem dX5_carve_40 : decode cX5_carve 40 = .ok (.ireturn, 1) := by decide +kernel
theorem dX5_carve_41 : decode cX5_carve 41 = .ok (.aload_n 0, 1) := by decide +kernel
theorem dX5_carve_42 : decode cX5_carve 42 = .ok (.getfield 31, 3) := by decide +kernel
theorem dX5_carve_45 : decode cX5_carve 45 = .ok (.getfield 115, 3) := by decide +kernel
theorem dX5_carve_48 : decode cX5_carve 48 = .ok (.iload_n 1, 1) := by decide +kernel
theorem dX5_carve_49 : decode cX5_carve 49 = .ok (.iconst 0, 1) := by decide +kernel
theorem dX5_carve_50 : decode cX5_carve 50 = .ok (.invokevirtual 111, 3) := by decide +kernel
theorem dX5_carve_53 : decode cX5_carve 53 = .ok (.aload_n 0, 1) := by decide +kernel
theorem dX5_carve_54 : decode cX5_carve 54 = .ok (.getfield 41, 3) := by decide +kernel
theorem dX5_carve_57 : decode cX5_carve 57 = .ok (.iload_n 2, 1) := by decide +kernel
theorem dX5_carve_58 : decode cX5_carve 58 = .ok (.invokevirtual 148, 3) := by decide +kernel
theorem dX5_carve_61 : decode cX5_carve 61 = .ok (.if_icmp .lt 19, 3) := by decide +kernel
theorem dX5_carve_64 : decode cX5_carve 64 = .ok (.aload_n 0, 1) := by decide +kernel
theorem dX5_carve_65 : decode cX5_carve 65 = .ok (.getfield 31, 3) := by decide +kernel
theorem dX5_carve_68 : decode cX5_carve 68 = .ok (.aload_n 0, 1) := by decide +kernel
theorem dX5_carve_69 : decode cX5_carve 69 = .ok (.getfield 41, 3) := by decide +kernel
theorem dX5_carve_72 : decode cX5_carve 72 = .ok (.iload_n 2, 1) := by decide +kernel
theorem dX5_carve_73 : decode cX5_carve 73 = .ok (.invokevirtual 118, 3) := by decide +kernel
theorem dX5_carve_76 : decode cX5_carve 76 = .ok (.iconst 1, 1) := by decide +kernel
theorem dX5_carve_77 : decode cX5_carve 77 = .ok (.if_icmp .ge 6, 3) := by decide +kernel
theorem dX5_carve_80 : decode cX5_carve 80 = .ok (.bipush (-2), 2) := by decide +kernel
theorem dX5_carve_82 : decode cX5_carve 82 = .ok (.ireturn, 1) := by decide +kernel
theorem dX5_carve_83 : decode cX5_carve 83 = .ok (.aload_n 0, 1) := by decide +kernel
theorem dX5_carve_84 : decode cX5_carve 84 = .ok (.getfield 31, 3) := by decide +kernel
theorem dX5_carve_87 : decode cX5_carve 87 = .ok (.getfield 122, 3) := by decide +kernel
theorem dX5_carve_90 : decode cX5_carve 90 = .ok (.invokevirtual 151, 3) := by decide +kernel
theorem dX5_carve_93 : decode cX5_carve 93 = .ok (.ifCond .eq 6, 3) := by decide +kernel
theorem dX5_carve_96 : decode cX5_carve 96 = .ok (.bipush (-3), 2) := by decide +kernel
theorem dX5_carve_98 : decode cX5_carve 98 = .ok (.ireturn, 1) := by decide +kernel
theorem dX5_carve_99 : decode cX5_carve 99 = .ok (.aload_n 0, 1) := by decide +kernel
theorem dX5_carve_100 : decode cX5_carve 100 = .ok (.getfield 21, 3) := by decide +kernel
theorem dX5_carve_103 : decode cX5_carve 103 = .ok (.aload_n 0, 1) := by decide +kernel
theorem dX5_carve_104 : decode cX5_carve 104 = .ok (.getfield 31, 3) := by decide +kernel
theorem dX5_carve_107 : decode cX5_carve 107 = .ok (.invokevirtual 135, 3) := by decide +kernel
theorem dX5_carve_110 : decode cX5_carve 110 = .ok (.aload_n 0, 1) := by decide +kernel
theorem dX5_carve_111 : decode cX5_carve 111 = .ok (.getfield 31, 3) := by decide +kernel
theorem dX5_carve_114 : decode cX5_carve 114 = .ok (.iload_n 1, 1) := by decide +kernel
theorem dX5_carve_115 : decode cX5_carve 115 = .ok (.aload_n 0, 1) := by decide +kernel
theorem dX5_carve_116 : decode cX5_carve 116 = .ok (.getfield 41, 3) := by decide +kernel
theorem dX5_carve_119 : decode cX5_carve 119 = .ok (.iload_n 2, 1) := by decide +kernel
theorem dX5_carve_120 : decode cX5_carve 120 = .ok (.invokevirtual 148, 3) := by decide +kernel
theorem dX5_carve_123 : decode cX5_carve 123 = .ok (.invokevirtual 155, 3) := by decide +kernel
theorem dX5_carve_126 : decode cX5_carve 126 = .ok (.iload_n 3, 1) := by decide +kernel
theorem dX5_carve_127 : decode cX5_carve 127 = .ok (.aload_n 0, 1) := by decide +kernel
theorem dX5_carve_128 : decode cX5_carve 128 = .ok (.getfield 31, 3) := by decide +kernel
theorem dX5_carve_131 : decode cX5_carve 131 = .ok (.getfield 125, 3) := by decide +kernel
theorem dX5_carve_134 : decode cX5_carve 134 = .ok (.invokestatic 159, 3) := by decide +kernel
theorem dX5_carve_137 : decode cX5_carve 137 = .ok (.istore 5, 2) := by decide +kernel
theorem dX5_carve_139 : decode cX5_carve 139 = .ok (.aload_n 0, 1) := by decide +kernel
theorem dX5_carve_140 : decode cX5_carve 140 = .ok (.getfield 31, 3) := by decide +kernel
theorem dX5_carve_143 : decode cX5_carve 143 = .ok (.getfield 122, 3) := by decide +kernel
theorem dX5_carve_146 : decode cX5_carve 146 = .ok (.iload 4, 2) := by decide +kernel
theorem dX5_carve_148 : decode cX5_carve 148 = .ok (.ifCond .eq 8, 3) := by decide +kernel
theorem dX5_carve_151 : decode cX5_carve 151 = .ok (.iload 5, 2) := by decide +kernel
theorem dX5_carve_153 : decode cX5_carve 153 = .ok (.goto 8, 3) := by decide +kernel
theorem dX5_carve_156 : decode cX5_carve 156 = .ok (.iload 5, 2) := by decide +kernel
theorem dX5_carve_158 : decode cX5_carve 158 = .ok (.invokestatic 162, 3) := by decide +kernel
theorem dX5_carve_161 : decode cX5_carve 161 = .ok (.iload_n 2, 1) := by decide +kernel
theorem dX5_carve_162 : decode cX5_carve 162 = .ok (.iload_n 1, 1) := by decide +kernel
theorem dX5_carve_163 : decode cX5_carve 163 = .ok (.invokevirtual 64, 3) := by decide +kernel
theorem dX5_carve_166 : decode cX5_carve 166 = .ok (.pop, 1) := by decide +kernel
theorem dX5_carve_167 : decode cX5_carve 167 = .ok (.aload_n 0, 1) := by decide +kernel
theorem dX5_carve_168 : decode cX5_carve 168 = .ok (.getfield 31, 3) := by decide +kernel
theorem dX5_carve_171 : decode cX5_carve 171 = .ok (.getfield 122, 3) := by decide +kernel
theorem dX5_carve_174 : decode cX5_carve 174 = .ok (.invokevirtual 84, 3) := by decide +kernel
theorem dX5_carve_177 : decode cX5_carve 177 = .ok (.iconst 1, 1) := by decide +kernel
theorem dX5_carve_178 : decode cX5_carve 178 = .ok (.isub, 1) := by decide +kernel
theorem dX5_carve_179 : decode cX5_carve 179 = .ok (.ireturn, 1) := by decide +kernel
theorem dX5_chisel_0 : decode cX5_chisel 0 = .ok (.aload_n 0, 1) := by decide +kernel
theorem dX5_chisel_1 : decode cX5_chisel 1 = .ok (.getfield 41, 3) := by decide +kernel
theorem dX5_chisel_4 : decode cX5_chisel 4 = .ok (.getfield 87, 3) := by decide +kernel
theorem dX5_chisel_7 : decode cX5_chisel 7 = .ok (.iload_n 1, 1) := by decide +kernel
theorem dX5_chisel_8 : decode cX5_chisel 8 = .ok (.invokevirtual 108, 3) := by decide +kernel
theorem dX5_chisel_11 : decode cX5_chisel 11 = .ok (.ifCond .eq 17, 3) := by decide +kernel
theorem dX5_chisel_14 : decode cX5_chisel 14 = .ok (.aload_n 0, 1) := by decide +kernel
theorem dX5_chisel_15 : decode cX5_chisel 15 = .ok (.getfield 31, 3) := by decide +kernel
theorem dX5_chisel_18 : decode cX5_chisel 18 = .ok (.getfield 122, 3) := by decide +kernel
theorem dX5_chisel_21 : decode cX5_chisel 21 = .ok (.iload_n 2, 1) := by decide +kernel
theorem dX5_chisel_22 : decode cX5_chisel 22 = .ok (.invokevirtual 108, 3) := by decide +kernel
theorem dX5_chisel_25 : decode cX5_chisel 25 = .ok (.ifCond .ne 5, 3) := by decide +kernel
theorem dX5_chisel_28 : decode cX5_chisel 28 = .ok (.iconst (-1), 1) := by decide +kernel
theorem dX5_chisel_29 : decode cX5_chisel 29 = .ok (.ireturn, 1) := by decide +kernel
theorem dX5_chisel_30 : decode cX5_chisel 30 = .ok (.aload_n 0, 1) := by decide +kernel
theorem dX5_chisel_31 : decode cX5_chisel 31 = .ok (.getfield 41, 3) := by decide +kernel
theorem dX5_chisel_34 : decode cX5_chisel 34 = .ok (.aload_n 0, 1) := by decide +kernel
theorem dX5_chisel_35 : decode cX5_chisel 35 = .ok (.getfield 31, 3) := by decide +kernel
theorem dX5_chisel_38 : decode cX5_chisel 38 = .ok (.getfield 122, 3) := by decide +kernel
theorem dX5_chisel_41 : decode cX5_chisel 41 = .ok (.iload_n 2, 1) := by decide +kernel
theorem dX5_chisel_42 : decode cX5_chisel 42 = .ok (.iconst 1, 1) := by decide +kernel
theorem dX5_chisel_43 : decode cX5_chisel 43 = .ok (.invokevirtual 111, 3) := by decide +kernel
theorem dX5_chisel_46 : decode cX5_chisel 46 = .ok (.invokevirtual 148, 3) := by decide +kernel
theorem dX5_chisel_49 : decode cX5_chisel 49 = .ok (.istore_n 3, 1) := by decide +kernel
theorem dX5_chisel_50 : decode cX5_chisel 50 = .ok (.aload_n 0, 1) := by decide +kernel
theorem dX5_chisel_51 : decode cX5_chisel 51 = .ok (.getfield 31, 3) := by decide +kernel
theorem dX5_chisel_54 : decode cX5_chisel 54 = .ok (.getfield 115, 3) := by decide +kernel
theorem dX5_chisel_57 : decode cX5_chisel 57 = .ok (.iload_n 1, 1) := by decide +kernel
theorem dX5_chisel_58 : decode cX5_chisel 58 = .ok (.iconst 0, 1) := by decide +kernel
theorem dX5_chisel_59 : decode cX5_chisel 59 = .ok (.invokevirtual 111, 3) := by decide +kernel
theorem dX5_chisel_62 : decode cX5_chisel 62 = .ok (.iload_n 3, 1) := by decide +kernel
theorem dX5_chisel_63 : decode cX5_chisel 63 = .ok (.if_icmp .ge 6, 3) := by decide +kernel
theorem dX5_chisel_66 : decode cX5_chisel 66 = .ok (.bipush (-2), 2) := by decide +kernel
theorem dX5_chisel_68 : decode cX5_chisel 68 = .ok (.ireturn, 1) := by decide +kernel
theorem dX5_chisel_69 : decode cX5_chisel 69 = .ok (.aload_n 0, 1) := by decide +kernel
theorem dX5_chisel_70 : decode cX5_chisel 70 = .ok (.getfield 21, 3) := by decide +kernel
theorem dX5_chisel_73 : decode cX5_chisel 73 = .ok (.aload_n 0, 1) := by decide +kernel
theorem dX5_chisel_74 : decode cX5_chisel 74 = .ok (.getfield 31, 3) := by decide +kernel
theorem dX5_chisel_77 : decode cX5_chisel 77 = .ok (.invokevirtual 135, 3) := by decide +kernel
theorem dX5_chisel_80 : decode cX5_chisel 80 = .ok (.aload_n 0, 1) := by decide +kernel
theorem dX5_chisel_81 : decode cX5_chisel 81 = .ok (.getfield 31, 3) := by decide +kernel
theorem dX5_chisel_84 : decode cX5_chisel 84 = .ok (.iload_n 1, 1) := by decide +kernel
theorem dX5_chisel_85 : decode cX5_chisel 85 = .ok (.iload_n 3, 1) := by decide +kernel
theorem dX5_chisel_86 : decode cX5_chisel 86 = .ok (.invokevirtual 155, 3) := by decide +kernel
theorem dX5_chisel_89 : decode cX5_chisel 89 = .ok (.aload_n 0, 1) := by decide +kernel
theorem dX5_chisel_90 : decode cX5_chisel 90 = .ok (.getfield 31, 3) := by decide +kernel
theorem dX5_chisel_93 : decode cX5_chisel 93 = .ok (.getfield 122, 3) := by decide +kernel
theorem dX5_chisel_96 : decode cX5_chisel 96 = .ok (.iload_n 2, 1) := by decide +kernel
theorem dX5_chisel_97 : decode cX5_chisel 97 = .ok (.invokevirtual 165, 3) := by decide +kernel
theorem dX5_chisel_100 : decode cX5_chisel 100 = .ok (.aload_n 0, 1) := by decide +kernel
theorem dX5_chisel_101 : decode cX5_chisel 101 = .ok (.getfield 31, 3) := by decide +kernel
theorem dX5_chisel_104 : decode cX5_chisel 104 = .ok (.getfield 122, 3) := by decide +kernel
theorem dX5_chisel_107 : decode cX5_chisel 107 = .ok (.invokevirtual 84, 3) := by decide +kernel
theorem dX5_chisel_110 : decode cX5_chisel 110 = .ok (.ireturn, 1) := by decide +kernel
theorem dX5_bell_0 : decode cX5_bell 0 = .ok (.aload_n 0, 1) := by decide +kernel
theorem dX5_bell_1 : decode cX5_bell 1 = .ok (.getfield 31, 3) := by decide +kernel
theorem dX5_bell_4 : decode cX5_bell 4 = .ok (.getfield 168, 3) := by decide +kernel
theorem dX5_bell_7 : decode cX5_bell 7 = .ok (.sipush 999, 3) := by decide +kernel
theorem dX5_bell_10 : decode cX5_bell 10 = .ok (.if_icmp .lt 6, 3) := by decide +kernel
theorem dX5_bell_13 : decode cX5_bell 13 = .ok (.bipush (-2), 2) := by decide +kernel
theorem dX5_bell_15 : decode cX5_bell 15 = .ok (.ireturn, 1) := by decide +kernel
theorem dX5_bell_16 : decode cX5_bell 16 = .ok (.aload_n 0, 1) := by decide +kernel
theorem dX5_bell_17 : decode cX5_bell 17 = .ok (.getfield 21, 3) := by decide +kernel
theorem dX5_bell_20 : decode cX5_bell 20 = .ok (.aload_n 0, 1) := by decide +kernel
theorem dX5_bell_21 : decode cX5_bell 21 = .ok (.getfield 31, 3) := by decide +kernel
theorem dX5_bell_24 : decode cX5_bell 24 = .ok (.invokevirtual 135, 3) := by decide +kernel
theorem dX5_bell_27 : decode cX5_bell 27 = .ok (.aload_n 0, 1) := by decide +kernel
theorem dX5_bell_28 : decode cX5_bell 28 = .ok (.getfield 31, 3) := by decide +kernel
theorem dX5_bell_31 : decode cX5_bell 31 = .ok (.aload_n 0, 1) := by decide +kernel
theorem dX5_bell_32 : decode cX5_bell 32 = .ok (.getfield 41, 3) := by decide +kernel
theorem dX5_bell_35 : decode cX5_bell 35 = .ok (.invokevirtual 171, 3) := by decide +kernel
theorem dX5_bell_38 : decode cX5_bell 38 = .ok (.aload_n 0, 1) := by decide +kernel
theorem dX5_bell_39 : decode cX5_bell 39 = .ok (.getfield 31, 3) := by decide +kernel
theorem dX5_bell_42 : decode cX5_bell 42 = .ok (.getfield 122, 3) := by decide +kernel
theorem dX5_bell_45 : decode cX5_bell 45 = .ok (.invokevirtual 84, 3) := by decide +kernel
theorem dX5_bell_48 : decode cX5_bell 48 = .ok (.ireturn, 1) := by decide +kernel
theorem dX5_undo_0 : decode cX5_undo 0 = .ok (.aload_n 0, 1) := by decide +kernel
theorem dX5_undo_1 : decode cX5_undo 1 = .ok (.getfield 21, 3) := by decide +kernel
theorem dX5_undo_4 : decode cX5_undo 4 = .ok (.invokevirtual 174, 3) := by decide +kernel
theorem dX5_undo_7 : decode cX5_undo 7 = .ok (.iconst 1, 1) := by decide +kernel
theorem dX5_undo_8 : decode cX5_undo 8 = .ok (.if_icmp .ge 6, 3) := by decide +kernel
theorem dX5_undo_11 : decode cX5_undo 11 = .ok (.bipush (-2), 2) := by decide +kernel
theorem dX5_undo_13 : decode cX5_undo 13 = .ok (.ireturn, 1) := by decide +kernel
theorem dX5_undo_14 : decode cX5_undo 14 = .ok (.aload_n 0, 1) := by decide +kernel
theorem dX5_undo_15 : decode cX5_undo 15 = .ok (.getfield 21, 3) := by decide +kernel
theorem dX5_undo_18 : decode cX5_undo 18 = .ok (.aload_n 0, 1) := by decide +kernel
theorem dX5_undo_19 : decode cX5_undo 19 = .ok (.getfield 31, 3) := by decide +kernel
theorem dX5_undo_22 : decode cX5_undo 22 = .ok (.invokevirtual 175, 3) := by decide +kernel
theorem dX5_undo_25 : decode cX5_undo 25 = .ok (.aload_n 0, 1) := by decide +kernel
theorem dX5_undo_26 : decode cX5_undo 26 = .ok (.getfield 21, 3) := by decide +kernel
theorem dX5_undo_29 : decode cX5_undo 29 = .ok (.invokevirtual 174, 3) := by decide +kernel
theorem dX5_undo_32 : decode cX5_undo 32 = .ok (.ireturn, 1) := by decide +kernel
theorem dX5_known_0 : decode cX5_known 0 = .ok (.iload_n 1, 1) := by decide +kernel
theorem dX5_known_1 : decode cX5_known 1 = .ok (.invokestatic 178, 3) := by decide +kernel
theorem dX5_known_4 : decode cX5_known 4 = .ok (.ifCond .eq 12, 3) := by decide +kernel
theorem dX5_known_7 : decode cX5_known 7 = .ok (.iload_n 2, 1) := by decide +kernel
theorem dX5_known_8 : decode cX5_known 8 = .ok (.ifCond .lt 8, 3) := by decide +kernel
theorem dX5_known_11 : decode cX5_known 11 = .ok (.iload_n 2, 1) := by decide +kernel
theorem dX5_known_12 : decode cX5_known 12 = .ok (.iconst 5, 1) := by decide +kernel
theorem dX5_known_13 : decode cX5_known 13 = .ok (.if_icmp .le 5, 3) := by decide +kernel
theorem dX5_known_16 : decode cX5_known 16 = .ok (.iconst (-1), 1) := by decide +kernel
theorem dX5_known_17 : decode cX5_known 17 = .ok (.ireturn, 1) := by decide +kernel
theorem dX5_known_18 : decode cX5_known 18 = .ok (.aload_n 0, 1) := by decide +kernel
theorem dX5_known_19 : decode cX5_known 19 = .ok (.getfield 31, 3) := by decide +kernel
theorem dX5_known_22 : decode cX5_known 22 = .ok (.aload_n 0, 1) := by decide +kernel
theorem dX5_known_23 : decode cX5_known 23 = .ok (.getfield 41, 3) := by decide +kernel
theorem dX5_known_26 : decode cX5_known 26 = .ok (.iload_n 1, 1) := by decide +kernel
theorem dX5_known_27 : decode cX5_known 27 = .ok (.invokevirtual 181, 3) := by decide +kernel
theorem dX5_known_30 : decode cX5_known 30 = .ok (.istore_n 3, 1) := by decide +kernel
theorem dX5_known_31 : decode cX5_known 31 = .ok (.iload_n 2, 1) := by decide +kernel
theorem dX5_known_32 : decode cX5_known 32 = .ok (.tableswitch 88 0 4 #[36, 53, 70, 76, 86], 36) := by decide +kernel
theorem dX5_known_68 : decode cX5_known 68 = .ok (.aload_n 0, 1) := by decide +kernel
theorem dX5_known_69 : decode cX5_known 69 = .ok (.getfield 41, 3) := by decide +kernel
theorem dX5_known_72 : decode cX5_known 72 = .ok (.aload_n 0, 1) := by decide +kernel
theorem dX5_known_73 : decode cX5_known 73 = .ok (.getfield 41, 3) := by decide +kernel
theorem dX5_known_76 : decode cX5_known 76 = .ok (.iload_n 3, 1) := by decide +kernel
theorem dX5_known_77 : decode cX5_known 77 = .ok (.invokevirtual 184, 3) := by decide +kernel
theorem dX5_known_80 : decode cX5_known 80 = .ok (.iconst 0, 1) := by decide +kernel
theorem dX5_known_81 : decode cX5_known 81 = .ok (.invokevirtual 187, 3) := by decide +kernel
theorem dX5_known_84 : decode cX5_known 84 = .ok (.ireturn, 1) := by decide +kernel
theorem dX5_known_85 : decode cX5_known 85 = .ok (.aload_n 0, 1) := by decide +kernel
theorem dX5_known_86 : decode cX5_known 86 = .ok (.getfield 41, 3) := by decide +kernel
theorem dX5_known_89 : decode cX5_known 89 = .ok (.aload_n 0, 1) := by decide +kernel
theorem dX5_known_90 : decode cX5_known 90 = .ok (.getfield 41, 3) := by decide +kernel
theorem dX5_known_93 : decode cX5_known 93 = .ok (.iload_n 3, 1) := by decide +kernel
theorem dX5_known_94 : decode cX5_known 94 = .ok (.invokevirtual 184, 3) := by decide +kernel
theorem dX5_known_97 : decode cX5_known 97 = .ok (.iconst 1, 1) := by decide +kernel
theorem dX5_known_98 : decode cX5_known 98 = .ok (.invokevirtual 187, 3) := by decide +kernel
theorem dX5_known_101 : decode cX5_known 101 = .ok (.ireturn, 1) := by decide +kernel
theorem dX5_known_102 : decode cX5_known 102 = .ok (.aload_n 0, 1) := by decide +kernel
theorem dX5_known_103 : decode cX5_known 103 = .ok (.iload_n 3, 1) := by decide +kernel
theorem dX5_known_104 : decode cX5_known 104 = .ok (.invokevirtual 190, 3) := by decide +kernel
theorem dX5_known_107 : decode cX5_known 107 = .ok (.ireturn, 1) := by decide +kernel
theorem dX5_known_108 : decode cX5_known 108 = .ok (.aload_n 0, 1) := by decide +kernel
theorem dX5_known_109 : decode cX5_known 109 = .ok (.aload_n 0, 1) := by decide +kernel
theorem dX5_known_110 : decode cX5_known 110 = .ok (.getfield 31, 3) := by decide +kernel
theorem dX5_known_113 : decode cX5_known 113 = .ok (.iload_n 3, 1) := by decide +kernel
theorem dX5_known_114 : decode cX5_known 114 = .ok (.invokevirtual 193, 3) := by decide +kernel
theorem dX5_known_117 : decode cX5_known 117 = .ok (.ireturn, 1) := by decide +kernel
theorem dX5_known_118 : decode cX5_known 118 = .ok (.iload_n 3, 1) := by decide +kernel
theorem dX5_known_119 : decode cX5_known 119 = .ok (.ireturn, 1) := by decide +kernel
theorem dX5_known_120 : decode cX5_known 120 = .ok (.aload_n 0, 1) := by decide +kernel
theorem dX5_known_121 : decode cX5_known 121 = .ok (.getfield 41, 3) := by decide +kernel
theorem dX5_known_124 : decode cX5_known 124 = .ok (.iload_n 3, 1) := by decide +kernel
theorem dX5_known_125 : decode cX5_known 125 = .ok (.invokevirtual 197, 3) := by decide +kernel
theorem dX5_known_128 : decode cX5_known 128 = .ok (.ifCond .eq 7, 3) := by decide +kernel
theorem dX5_known_131 : decode cX5_known 131 = .ok (.iconst 0, 1) := by decide +kernel
theorem dX5_known_132 : decode cX5_known 132 = .ok (.goto 4, 3) := by decide +kernel
theorem dX5_known_135 : decode cX5_known 135 = .ok (.iconst 1, 1) := by decide +kernel
theorem dX5_known_136 : decode cX5_known 136 = .ok (.ireturn, 1) := by decide +kernel
theorem dX5_hands_0 : decode cX5_hands 0 = .ok (.aload_n 0, 1) := by decide +kernel
theorem dX5_hands_1 : decode cX5_hands 1 = .ok (.getfield 41, 3) := by decide +kernel
theorem dX5_hands_4 : decode cX5_hands 4 = .ok (.iload_n 1, 1) := by decide +kernel
theorem dX5_hands_5 : decode cX5_hands 5 = .ok (.invokevirtual 200, 3) := by decide +kernel
theorem dX5_hands_8 : decode cX5_hands 8 = .ok (.ifCond .eq 19, 3) := by decide +kernel
theorem dX5_hands_11 : decode cX5_hands 11 = .ok (.aload_n 0, 1) := by decide +kernel
theorem dX5_hands_12 : decode cX5_hands 12 = .ok (.getfield 31, 3) := by decide +kernel
theorem dX5_hands_15 : decode cX5_hands 15 = .ok (.aload_n 0, 1) := by decide +kernel
theorem dX5_hands_16 : decode cX5_hands 16 = .ok (.getfield 41, 3) := by decide +kernel
theorem dX5_hands_19 : decode cX5_hands 19 = .ok (.iload_n 1, 1) := by decide +kernel
theorem dX5_hands_20 : decode cX5_hands 20 = .ok (.iconst (-1), 1) := by decide +kernel
theorem dX5_hands_21 : decode cX5_hands 21 = .ok (.invokevirtual 203, 3) := by decide +kernel
theorem dX5_hands_24 : decode cX5_hands 24 = .ok (.goto 4, 3) := by decide +kernel
theorem dX5_hands_27 : decode cX5_hands 27 = .ok (.iconst (-1), 1) := by decide +kernel
theorem dX5_hands_28 : decode cX5_hands 28 = .ok (.ireturn, 1) := by decide +kernel
theorem dX5_belief_0 : decode cX5_belief 0 = .ok (.aload_n 0, 1) := by decide +kernel
theorem dX5_belief_1 : decode cX5_belief 1 = .ok (.getfield 41, 3) := by decide +kernel
theorem dX5_belief_4 : decode cX5_belief 4 = .ok (.iload_n 1, 1) := by decide +kernel
theorem dX5_belief_5 : decode cX5_belief 5 = .ok (.invokevirtual 145, 3) := by decide +kernel
theorem dX5_belief_8 : decode cX5_belief 8 = .ok (.ifCond .eq 12, 3) := by decide +kernel
theorem dX5_belief_11 : decode cX5_belief 11 = .ok (.iload_n 2, 1) := by decide +kernel
theorem dX5_belief_12 : decode cX5_belief 12 = .ok (.ifCond .lt 8, 3) := by decide +kernel
theorem dX5_belief_15 : decode cX5_belief 15 = .ok (.iload_n 2, 1) := by decide +kernel
theorem dX5_belief_16 : decode cX5_belief 16 = .ok (.iconst 1, 1) := by decide +kernel
theorem dX5_belief_17 : decode cX5_belief 17 = .ok (.if_icmp .le 7, 3) := by decide +kernel
theorem dX5_belief_20 : decode cX5_belief 20 = .ok (.ldc2_w 207, 3) := by decide +kernel
theorem dX5_belief_23 : decode cX5_belief 23 = .ok (.lreturn, 1) := by decide +kernel
theorem dX5_belief_24 : decode cX5_belief 24 = .ok (.lconst 0, 1) := by decide +kernel
theorem dX5_belief_25 : decode cX5_belief 25 = .ok (.lstore_n 3, 1) := by decide +kernel
theorem dX5_belief_26 : decode cX5_belief 26 = .ok (.lconst 0, 1) := by decide +kernel
theorem dX5_belief_27 : decode cX5_belief 27 = .ok (.lstore 5, 2) := by decide +kernel
theorem dX5_belief_29 : decode cX5_belief 29 = .ok (.iconst 0, 1) := by decide +kernel
theorem dX5_belief_30 : decode cX5_belief 30 = .ok (.istore 7, 2) := by decide +kernel
theorem dX5_belief_32 : decode cX5_belief 32 = .ok (.iload 7, 2) := by decide +kernel
theorem dX5_belief_34 : decode cX5_belief 34 = .ok (.aload_n 0, 1) := by decide +kernel
theorem dX5_belief_35 : decode cX5_belief 35 = .ok (.getfield 41, 3) := by decide +kernel
theorem dX5_belief_38 : decode cX5_belief 38 = .ok (.getfield 102, 3) := by decide +kernel
theorem dX5_belief_41 : decode cX5_belief 41 = .ok (.invokevirtual 84, 3) := by decide +kernel
theorem dX5_belief_44 : decode cX5_belief 44 = .ok (.if_icmp .ge 62, 3) := by decide +kernel
theorem dX5_belief_47 : decode cX5_belief 47 = .ok (.aload_n 0, 1) := by decide +kernel
theorem dX5_belief_48 : decode cX5_belief 48 = .ok (.getfield 41, 3) := by decide +kernel
theorem dX5_belief_51 : decode cX5_belief 51 = .ok (.getfield 102, 3) := by decide +kernel
theorem dX5_belief_54 : decode cX5_belief 54 = .ok (.iload 7, 2) := by decide +kernel
theorem dX5_belief_56 : decode cX5_belief 56 = .ok (.iconst 0, 1) := by decide +kernel
theorem dX5_belief_57 : decode cX5_belief 57 = .ok (.invokevirtual 111, 3) := by decide +kernel
theorem dX5_belief_60 : decode cX5_belief 60 = .ok (.istore 8, 2) := by decide +kernel
theorem dX5_belief_62 : decode cX5_belief 62 = .ok (.aload_n 0, 1) := by decide +kernel
theorem dX5_belief_63 : decode cX5_belief 63 = .ok (.getfield 31, 3) := by decide +kernel
theorem dX5_belief_66 : decode cX5_belief 66 = .ok (.aload_n 0, 1) := by decide +kernel
theorem dX5_belief_67 : decode cX5_belief 67 = .ok (.getfield 41, 3) := by decide +kernel
theorem dX5_belief_70 : decode cX5_belief 70 = .ok (.iload 8, 2) := by decide +kernel
theorem dX5_belief_72 : decode cX5_belief 72 = .ok (.invokevirtual 209, 3) := by decide +kernel
theorem dX5_belief_75 : decode cX5_belief 75 = .ok (.lstore 9, 2) := by decide +kernel
theorem dX5_belief_77 : decode cX5_belief 77 = .ok (.lload 5, 2) := by decide +kernel
theorem dX5_belief_79 : decode cX5_belief 79 = .ok (.lload 9, 2) := by decide +kernel
theorem dX5_belief_81 : decode cX5_belief 81 = .ok (.ladd, 1) := by decide +kernel
theorem dX5_belief_82 : decode cX5_belief 82 = .ok (.lstore 5, 2) := by decide +kernel
theorem dX5_belief_84 : decode cX5_belief 84 = .ok (.iconst 2, 1) := by decide +kernel
theorem dX5_belief_85 : decode cX5_belief 85 = .ok (.iload_n 1, 1) := by decide +kernel
theorem dX5_belief_86 : decode cX5_belief 86 = .ok (.imul, 1) := by decide +kernel
theorem dX5_belief_87 : decode cX5_belief 87 = .ok (.iload 8, 2) := by decide +kernel
theorem dX5_belief_89 : decode cX5_belief 89 = .ok (.invokestatic 128, 3) := by decide +kernel
theorem dX5_belief_92 : decode cX5_belief 92 = .ok (.ifCond .eq 8, 3) := by decide +kernel
theorem dX5_belief_95 : decode cX5_belief 95 = .ok (.lload_n 3, 1) := by decide +kernel
theorem dX5_belief_96 : decode cX5_belief 96 = .ok (.lload 9, 2) := by decide +kernel
theorem dX5_belief_98 : decode cX5_belief 98 = .ok (.ladd, 1) := by decide +kernel
theorem dX5_belief_99 : decode cX5_belief 99 = .ok (.lstore_n 3, 1) := by decide +kernel
theorem dX5_belief_100 : decode cX5_belief 100 = .ok (.iinc 7 1, 3) := by decide +kernel
theorem dX5_belief_103 : decode cX5_belief 103 = .ok (.goto (-71), 3) := by decide +kernel
theorem dX5_belief_106 : decode cX5_belief 106 = .ok (.lload 5, 2) := by decide +kernel
theorem dX5_belief_108 : decode cX5_belief 108 = .ok (.lload_n 3, 1) := by decide +kernel
theorem dX5_belief_109 : decode cX5_belief 109 = .ok (.invokestatic 213, 3) := by decide +kernel
theorem dX5_belief_112 : decode cX5_belief 112 = .ok (.lstore 7, 2) := by decide +kernel
theorem dX5_belief_114 : decode cX5_belief 114 = .ok (.lload 5, 2) := by decide +kernel
theorem dX5_belief_116 : decode cX5_belief 116 = .ok (.lconst 0, 1) := by decide +kernel
theorem dX5_belief_117 : decode cX5_belief 117 = .ok (.lcmp, 1) := by decide +kernel
theorem dX5_belief_118 : decode cX5_belief 118 = .ok (.ifCond .eq 10, 3) := by decide +kernel
theorem dX5_belief_121 : decode cX5_belief 121 = .ok (.lload 7, 2) := by decide +kernel
theorem dX5_belief_123 : decode cX5_belief 123 = .ok (.lconst 0, 1) := by decide +kernel
theorem dX5_belief_124 : decode cX5_belief 124 = .ok (.lcmp, 1) := by decide +kernel
theorem dX5_belief_125 : decode cX5_belief 125 = .ok (.ifCond .ne 7, 3) := by decide +kernel
theorem dX5_belief_128 : decode cX5_belief 128 = .ok (.ldc2_w 217, 3) := by decide +kernel
theorem dX5_belief_131 : decode cX5_belief 131 = .ok (.lreturn, 1) := by decide +kernel
theorem dX5_belief_132 : decode cX5_belief 132 = .ok (.iload_n 2, 1) := by decide +kernel
theorem dX5_belief_133 : decode cX5_belief 133 = .ok (.ifCond .ne 10, 3) := by decide +kernel
theorem dX5_belief_136 : decode cX5_belief 136 = .ok (.lload_n 3, 1) := by decide +kernel
theorem dX5_belief_137 : decode cX5_belief 137 = .ok (.lload 7, 2) := by decide +kernel
theorem dX5_belief_139 : decode cX5_belief 139 = .ok (.ldiv, 1) := by decide +kernel
theorem dX5_belief_140 : decode cX5_belief 140 = .ok (.goto 8, 3) := by decide +kernel
theorem dX5_belief_143 : decode cX5_belief 143 = .ok (.lload 5, 2) := by decide +kernel
theorem dX5_belief_145 : decode cX5_belief 145 = .ok (.lload 7, 2) := by decide +kernel
theorem dX5_belief_147 : decode cX5_belief 147 = .ok (.ldiv, 1) := by decide +kernel
theorem dX5_belief_148 : decode cX5_belief 148 = .ok (.lreturn, 1) := by decide +kernel
theorem dX5_least_0 : decode cX5_least 0 = .ok (.aload_n 0, 1) := by decide +kernel
theorem dX5_least_1 : decode cX5_least 1 = .ok (.getfield 41, 3) := by decide +kernel
theorem dX5_least_4 : decode cX5_least 4 = .ok (.iload_n 1, 1) := by decide +kernel
theorem dX5_least_5 : decode cX5_least 5 = .ok (.invokevirtual 132, 3) := by decide +kernel
theorem dX5_least_8 : decode cX5_least 8 = .ok (.ifCond .eq 11, 3) := by decide +kernel
theorem dX5_least_11 : decode cX5_least 11 = .ok (.aload_n 0, 1) := by decide +kernel
theorem dX5_least_12 : decode cX5_least 12 = .ok (.iload_n 1, 1) := by decide +kernel
theorem dX5_least_13 : decode cX5_least 13 = .ok (.invokevirtual 219, 3) := by decide +kernel
theorem dX5_least_16 : decode cX5_least 16 = .ok (.goto 4, 3) := by decide +kernel
theorem dX5_least_19 : decode cX5_least 19 = .ok (.iconst (-1), 1) := by decide +kernel
theorem dX5_least_20 : decode cX5_least 20 = .ok (.ireturn, 1) := by decide +kernel
theorem dX5_soonest_0 : decode cX5_soonest 0 = .ok (.aload_n 0, 1) := by decide +kernel
theorem dX5_soonest_1 : decode cX5_soonest 1 = .ok (.getfield 41, 3) := by decide +kernel
theorem dX5_soonest_4 : decode cX5_soonest 4 = .ok (.iload_n 1, 1) := by decide +kernel
theorem dX5_soonest_5 : decode cX5_soonest 5 = .ok (.invokevirtual 132, 3) := by decide +kernel
theorem dX5_soonest_8 : decode cX5_soonest 8 = .ok (.ifCond .ne 5, 3) := by decide +kernel
theorem dX5_soonest_11 : decode cX5_soonest 11 = .ok (.iconst (-1), 1) := by decide +kernel
theorem dX5_soonest_12 : decode cX5_soonest 12 = .ok (.ireturn, 1) := by decide +kernel
theorem dX5_soonest_13 : decode cX5_soonest 13 = .ok (.aload_n 0, 1) := by decide +kernel
theorem dX5_soonest_14 : decode cX5_soonest 14 = .ok (.iload_n 1, 1) := by decide +kernel
theorem dX5_soonest_15 : decode cX5_soonest 15 = .ok (.invokevirtual 219, 3) := by decide +kernel
theorem dX5_soonest_18 : decode cX5_soonest 18 = .ok (.invokestatic 139, 3) := by decide +kernel
theorem dX5_soonest_21 : decode cX5_soonest 21 = .ok (.istore_n 2, 1) := by decide +kernel
theorem dX5_soonest_22 : decode cX5_soonest 22 = .ok (.iconst 0, 1) := by decide +kernel
theorem dX5_soonest_23 : decode cX5_soonest 23 = .ok (.istore_n 3, 1) := by decide +kernel
theorem dX5_soonest_24 : decode cX5_soonest 24 = .ok (.iconst 1, 1) := by decide +kernel
theorem dX5_soonest_25 : decode cX5_soonest 25 = .ok (.istore 4, 2) := by decide +kernel
theorem dX5_soonest_27 : decode cX5_soonest 27 = .ok (.iload 4, 2) := by decide +kernel
theorem dX5_soonest_29 : decode cX5_soonest 29 = .ok (.bipush 9, 2) := by decide +kernel
theorem dX5_soonest_31 : decode cX5_soonest 31 = .ok (.if_icmp .gt 79, 3) := by decide +kernel
theorem dX5_soonest_34 : decode cX5_soonest 34 = .ok (.iconst 0, 1) := by decide +kernel
theorem dX5_soonest_35 : decode cX5_soonest 35 = .ok (.istore 5, 2) := by decide +kernel
theorem dX5_soonest_37 : decode cX5_soonest 37 = .ok (.iload 5, 2) := by decide +kernel
theorem dX5_soonest_39 : decode cX5_soonest 39 = .ok (.aload_n 0, 1) := by decide +kernel
theorem dX5_soonest_40 : decode cX5_soonest 40 = .ok (.getfield 41, 3) := by decide +kernel
theorem dX5_soonest_43 : decode cX5_soonest 43 = .ok (.getfield 90, 3) := by decide +kernel
theorem dX5_soonest_46 : decode cX5_soonest 46 = .ok (.invokevirtual 84, 3) := by decide +kernel
theorem dX5_soonest_49 : decode cX5_soonest 49 = .ok (.if_icmp .ge 55, 3) := by decide +kernel
theorem dX5_soonest_52 : decode cX5_soonest 52 = .ok (.aload_n 0, 1) := by decide +kernel
theorem dX5_soonest_53 : decode cX5_soonest 53 = .ok (.getfield 41, 3) := by decide +kernel
theorem dX5_soonest_56 : decode cX5_soonest 56 = .ok (.iload 5, 2) := by decide +kernel
theorem dX5_soonest_58 : decode cX5_soonest 58 = .ok (.invokevirtual 148, 3) := by decide +kernel
theorem dX5_soonest_61 : decode cX5_soonest 61 = .ok (.iload 4, 2) := by decide +kernel
theorem dX5_soonest_63 : decode cX5_soonest 63 = .ok (.if_icmp .ne 35, 3) := by decide +kernel
theorem dX5_soonest_66 : decode cX5_soonest 66 = .ok (.iload_n 2, 1) := by decide +kernel
theorem dX5_soonest_67 : decode cX5_soonest 67 = .ok (.aload_n 0, 1) := by decide +kernel
theorem dX5_soonest_68 : decode cX5_soonest 68 = .ok (.getfield 31, 3) := by decide +kernel
theorem dX5_soonest_71 : decode cX5_soonest 71 = .ok (.aload_n 0, 1) := by decide +kernel
theorem dX5_soonest_72 : decode cX5_soonest 72 = .ok (.getfield 41, 3) := by decide +kernel
theorem dX5_soonest_75 : decode cX5_soonest 75 = .ok (.iload 5, 2) := by decide +kernel
theorem dX5_soonest_77 : decode cX5_soonest 77 = .ok (.invokevirtual 118, 3) := by decide +kernel
theorem dX5_soonest_80 : decode cX5_soonest 80 = .ok (.invokestatic 222, 3) := by decide +kernel
theorem dX5_soonest_83 : decode cX5_soonest 83 = .ok (.istore 6, 2) := by decide +kernel
theorem dX5_soonest_85 : decode cX5_soonest 85 = .ok (.iload_n 2, 1) := by decide +kernel
theorem dX5_soonest_86 : decode cX5_soonest 86 = .ok (.iload 6, 2) := by decide +kernel
theorem dX5_soonest_88 : decode cX5_soonest 88 = .ok (.isub, 1) := by decide +kernel
theorem dX5_soonest_89 : decode cX5_soonest 89 = .ok (.istore_n 2, 1) := by decide +kernel
theorem dX5_soonest_90 : decode cX5_soonest 90 = .ok (.iload_n 3, 1) := by decide +kernel
theorem dX5_soonest_91 : decode cX5_soonest 91 = .ok (.iload 6, 2) := by decide +kernel
theorem dX5_soonest_93 : decode cX5_soonest 93 = .ok (.iload 4, 2) := by decide +kernel
theorem dX5_soonest_95 : decode cX5_soonest 95 = .ok (.imul, 1) := by decide +kernel
theorem dX5_soonest_96 : decode cX5_soonest 96 = .ok (.iadd, 1) := by decide +kernel
theorem dX5_soonest_97 : decode cX5_soonest 97 = .ok (.istore_n 3, 1) := by decide +kernel
theorem dX5_soonest_98 : decode cX5_soonest 98 = .ok (.iinc 5 1, 3) := by decide +kernel
theorem dX5_soonest_101 : decode cX5_soonest 101 = .ok (.goto (-64), 3) := by decide +kernel
theorem dX5_soonest_104 : decode cX5_soonest 104 = .ok (.iinc 4 1, 3) := by decide +kernel
theorem dX5_soonest_107 : decode cX5_soonest 107 = .ok (.goto (-80), 3) := by decide +kernel
theorem dX5_soonest_110 : decode cX5_soonest 110 = .ok (.iload_n 2, 1) := by decide +kernel
theorem dX5_soonest_111 : decode cX5_soonest 111 = .ok (.ifCond .le 8, 3) := by decide +kernel
theorem dX5_soonest_114 : decode cX5_soonest 114 = .ok (.bipush (-4), 2) := by decide +kernel
theorem dX5_soonest_116 : decode cX5_soonest 116 = .ok (.goto 4, 3) := by decide +kernel
theorem dX5_soonest_119 : decode cX5_soonest 119 = .ok (.iload_n 3, 1) := by decide +kernel
theorem dX5_soonest_120 : decode cX5_soonest 120 = .ok (.ireturn, 1) := by decide +kernel
theorem dX5_lie_0 : decode cX5_lie 0 = .ok (.aload_n 0, 1) := by decide +kernel
theorem dX5_lie_1 : decode cX5_lie 1 = .ok (.getfield 41, 3) := by decide +kernel
theorem dX5_lie_4 : decode cX5_lie 4 = .ok (.getfield 87, 3) := by decide +kernel
theorem dX5_lie_7 : decode cX5_lie 7 = .ok (.iload_n 1, 1) := by decide +kernel
theorem dX5_lie_8 : decode cX5_lie 8 = .ok (.invokevirtual 108, 3) := by decide +kernel
theorem dX5_lie_11 : decode cX5_lie 11 = .ok (.ifCond .eq 19, 3) := by decide +kernel
theorem dX5_lie_14 : decode cX5_lie 14 = .ok (.iload_n 2, 1) := by decide +kernel
theorem dX5_lie_15 : decode cX5_lie 15 = .ok (.invokestatic 178, 3) := by decide +kernel
theorem dX5_lie_18 : decode cX5_lie 18 = .ok (.ifCond .eq 12, 3) := by decide +kernel
theorem dX5_lie_21 : decode cX5_lie 21 = .ok (.iload_n 3, 1) := by decide +kernel
theorem dX5_lie_22 : decode cX5_lie 22 = .ok (.ifCond .lt 8, 3) := by decide +kernel
theorem dX5_lie_25 : decode cX5_lie 25 = .ok (.iload_n 3, 1) := by decide +kernel
theorem dX5_lie_26 : decode cX5_lie 26 = .ok (.iconst 1, 1) := by decide +kernel
theorem dX5_lie_27 : decode cX5_lie 27 = .ok (.if_icmp .le 5, 3) := by decide +kernel
theorem dX5_lie_30 : decode cX5_lie 30 = .ok (.iconst (-1), 1) := by decide +kernel
theorem dX5_lie_31 : decode cX5_lie 31 = .ok (.ireturn, 1) := by decide +kernel
theorem dX5_lie_32 : decode cX5_lie 32 = .ok (.aload_n 0, 1) := by decide +kernel
theorem dX5_lie_33 : decode cX5_lie 33 = .ok (.iload_n 1, 1) := by decide +kernel
theorem dX5_lie_34 : decode cX5_lie 34 = .ok (.iload_n 2, 1) := by decide +kernel
theorem dX5_lie_35 : decode cX5_lie 35 = .ok (.invokevirtual 227, 3) := by decide +kernel
theorem dX5_lie_38 : decode cX5_lie 38 = .ok (.istore 4, 2) := by decide +kernel
theorem dX5_lie_40 : decode cX5_lie 40 = .ok (.iload 4, 2) := by decide +kernel
theorem dX5_lie_42 : decode cX5_lie 42 = .ok (.bipush (-4), 2) := by decide +kernel
theorem dX5_lie_44 : decode cX5_lie 44 = .ok (.if_icmp .eq 7, 3) := by decide +kernel
theorem dX5_lie_47 : decode cX5_lie 47 = .ok (.iload_n 3, 1) := by decide +kernel
theorem dX5_lie_48 : decode cX5_lie 48 = .ok (.ifCond .ne 6, 3) := by decide +kernel
theorem dX5_lie_51 : decode cX5_lie 51 = .ok (.iload 4, 2) := by decide +kernel
theorem dX5_lie_53 : decode cX5_lie 53 = .ok (.ireturn, 1) := by decide +kernel
theorem dX5_lie_54 : decode cX5_lie 54 = .ok (.aload_n 0, 1) := by decide +kernel
theorem dX5_lie_55 : decode cX5_lie 55 = .ok (.iload_n 1, 1) := by decide +kernel
theorem dX5_lie_56 : decode cX5_lie 56 = .ok (.iload_n 2, 1) := by decide +kernel
theorem dX5_lie_57 : decode cX5_lie 57 = .ok (.iload 4, 2) := by decide +kernel
theorem dX5_lie_59 : decode cX5_lie 59 = .ok (.aload_n 0, 1) := by decide +kernel
theorem dX5_lie_60 : decode cX5_lie 60 = .ok (.getfield 31, 3) := by decide +kernel
theorem dX5_lie_63 : decode cX5_lie 63 = .ok (.aload_n 0, 1) := by decide +kernel
theorem dX5_lie_64 : decode cX5_lie 64 = .ok (.getfield 41, 3) := by decide +kernel
theorem dX5_lie_67 : decode cX5_lie 67 = .ok (.iload_n 2, 1) := by decide +kernel
theorem dX5_lie_68 : decode cX5_lie 68 = .ok (.invokevirtual 181, 3) := by decide +kernel
theorem dX5_lie_71 : decode cX5_lie 71 = .ok (.invokevirtual 230, 3) := by decide +kernel
theorem dX5_lie_74 : decode cX5_lie 74 = .ok (.ireturn, 1) := by decide +kernel
theorem dX5_safe_0 : decode cX5_safe 0 = .ok (.iload_n 1, 1) := by decide +kernel
theorem dX5_safe_1 : decode cX5_safe 1 = .ok (.invokestatic 178, 3) := by decide +kernel
theorem dX5_safe_4 : decode cX5_safe 4 = .ok (.ifCond .ne 5, 3) := by decide +kernel
theorem dX5_safe_7 : decode cX5_safe 7 = .ok (.iconst (-1), 1) := by decide +kernel
theorem dX5_safe_8 : decode cX5_safe 8 = .ok (.ireturn, 1) := by decide +kernel
theorem dX5_safe_9 : decode cX5_safe 9 = .ok (.iconst 0, 1) := by decide +kernel
theorem dX5_safe_10 : decode cX5_safe 10 = .ok (.istore_n 2, 1) := by decide +kernel
theorem dX5_safe_11 : decode cX5_safe 11 = .ok (.iload_n 2, 1) := by decide +kernel
theorem dX5_safe_12 : decode cX5_safe 12 = .ok (.aload_n 0, 1) := by decide +kernel
theorem dX5_safe_13 : decode cX5_safe 13 = .ok (.getfield 41, 3) := by decide +kernel
theorem dX5_safe_16 : decode cX5_safe 16 = .ok (.getfield 87, 3) := by decide +kernel
theorem dX5_safe_19 : decode cX5_safe 19 = .ok (.invokevirtual 84, 3) := by decide +kernel
theorem dX5_safe_22 : decode cX5_safe 22 = .ok (.if_icmp .ge 22, 3) := by decide +kernel
theorem dX5_safe_25 : decode cX5_safe 25 = .ok (.aload_n 0, 1) := by decide +kernel
theorem dX5_safe_26 : decode cX5_safe 26 = .ok (.iload_n 2, 1) := by decide +kernel
theorem dX5_safe_27 : decode cX5_safe 27 = .ok (.iload_n 1, 1) := by decide +kernel
theorem dX5_safe_28 : decode cX5_safe 28 = .ok (.invokevirtual 227, 3) := by decide +kernel
theorem dX5_safe_31 : decode cX5_safe 31 = .ok (.bipush (-4), 2) := by decide +kernel
theorem dX5_safe_33 : decode cX5_safe 33 = .ok (.if_icmp .eq 5, 3) := by decide +kernel
theorem dX5_safe_36 : decode cX5_safe 36 = .ok (.iconst 0, 1) := by decide +kernel
theorem dX5_safe_37 : decode cX5_safe 37 = .ok (.ireturn, 1) := by decide +kernel
theorem dX5_safe_38 : decode cX5_safe 38 = .ok (.iinc 2 1, 3) := by decide +kernel
theorem dX5_safe_41 : decode cX5_safe 41 = .ok (.goto (-30), 3) := by decide +kernel
theorem dX5_safe_44 : decode cX5_safe 44 = .ok (.iconst 1, 1) := by decide +kernel
theorem dX5_safe_45 : decode cX5_safe 45 = .ok (.ireturn, 1) := by decide +kernel
theorem dX5_clash_0 : decode cX5_clash 0 = .ok (.iconst 1, 1) := by decide +kernel
theorem dX5_clash_1 : decode cX5_clash 1 = .ok (.aload_n 0, 1) := by decide +kernel
theorem dX5_clash_2 : decode cX5_clash 2 = .ok (.getfield 31, 3) := by decide +kernel
theorem dX5_clash_5 : decode cX5_clash 5 = .ok (.getfield 122, 3) := by decide +kernel
theorem dX5_clash_8 : decode cX5_clash 8 = .ok (.invokevirtual 84, 3) := by decide +kernel
theorem dX5_clash_11 : decode cX5_clash 11 = .ok (.ishl, 1) := by decide +kernel
theorem dX5_clash_12 : decode cX5_clash 12 = .ok (.istore_n 1, 1) := by decide +kernel
theorem dX5_clash_13 : decode cX5_clash 13 = .ok (.aload_n 0, 1) := by decide +kernel
theorem dX5_clash_14 : decode cX5_clash 14 = .ok (.getfield 41, 3) := by decide +kernel
theorem dX5_clash_17 : decode cX5_clash 17 = .ok (.aload_n 0, 1) := by decide +kernel
theorem dX5_clash_18 : decode cX5_clash 18 = .ok (.getfield 31, 3) := by decide +kernel
theorem dX5_clash_21 : decode cX5_clash 21 = .ok (.iload_n 1, 1) := by decide +kernel
theorem dX5_clash_22 : decode cX5_clash 22 = .ok (.iconst 1, 1) := by decide +kernel
theorem dX5_clash_23 : decode cX5_clash 23 = .ok (.isub, 1) := by decide +kernel
theorem dX5_clash_24 : decode cX5_clash 24 = .ok (.invokevirtual 234, 3) := by decide +kernel
theorem dX5_clash_27 : decode cX5_clash 27 = .ok (.invokevirtual 197, 3) := by decide +kernel
theorem dX5_clash_30 : decode cX5_clash 30 = .ok (.ifCond .eq 6, 3) := by decide +kernel
theorem dX5_clash_33 : decode cX5_clash 33 = .ok (.bipush (-4), 2) := by decide +kernel
theorem dX5_clash_35 : decode cX5_clash 35 = .ok (.ireturn, 1) := by decide +kernel
theorem dX5_clash_36 : decode cX5_clash 36 = .ok (.iconst 1, 1) := by decide +kernel
theorem dX5_clash_37 : decode cX5_clash 37 = .ok (.istore_n 2, 1) := by decide +kernel
theorem dX5_clash_38 : decode cX5_clash 38 = .ok (.iload_n 2, 1) := by decide +kernel
theorem dX5_clash_39 : decode cX5_clash 39 = .ok (.aload_n 0, 1) := by decide +kernel
theorem dX5_clash_40 : decode cX5_clash 40 = .ok (.getfield 31, 3) := by decide +kernel
theorem dX5_clash_43 : decode cX5_clash 43 = .ok (.getfield 122, 3) := by decide +kernel
theorem dX5_clash_46 : decode cX5_clash 46 = .ok (.invokevirtual 84, 3) := by decide +kernel
theorem dX5_clash_49 : decode cX5_clash 49 = .ok (.if_icmp .gt 50, 3) := by decide +kernel
theorem dX5_clash_52 : decode cX5_clash 52 = .ok (.iconst 0, 1) := by decide +kernel
theorem dX5_clash_53 : decode cX5_clash 53 = .ok (.istore_n 3, 1) := by decide +kernel
theorem dX5_clash_54 : decode cX5_clash 54 = .ok (.iload_n 3, 1) := by decide +kernel
theorem dX5_clash_55 : decode cX5_clash 55 = .ok (.iload_n 1, 1) := by decide +kernel
theorem dX5_clash_56 : decode cX5_clash 56 = .ok (.if_icmp .ge 37, 3) := by decide +kernel
theorem dX5_clash_59 : decode cX5_clash 59 = .ok (.iload_n 3, 1) := by decide +kernel
theorem dX5_clash_60 : decode cX5_clash 60 = .ok (.invokestatic 139, 3) := by decide +kernel
theorem dX5_clash_63 : decode cX5_clash 63 = .ok (.iload_n 2, 1) := by decide +kernel
theorem dX5_clash_64 : decode cX5_clash 64 = .ok (.if_icmp .ne 23, 3) := by decide +kernel
theorem dX5_clash_67 : decode cX5_clash 67 = .ok (.aload_n 0, 1) := by decide +kernel
theorem dX5_clash_68 : decode cX5_clash 68 = .ok (.getfield 41, 3) := by decide +kernel
theorem dX5_clash_71 : decode cX5_clash 71 = .ok (.aload_n 0, 1) := by decide +kernel
theorem dX5_clash_72 : decode cX5_clash 72 = .ok (.getfield 31, 3) := by decide +kernel
theorem dX5_clash_75 : decode cX5_clash 75 = .ok (.iload_n 3, 1) := by decide +kernel
theorem dX5_clash_76 : decode cX5_clash 76 = .ok (.invokevirtual 234, 3) := by decide +kernel
theorem dX5_clash_79 : decode cX5_clash 79 = .ok (.invokevirtual 197, 3) := by decide +kernel
theorem dX5_clash_82 : decode cX5_clash 82 = .ok (.ifCond .ne 5, 3) := by decide +kernel
theorem dX5_clash_85 : decode cX5_clash 85 = .ok (.iload_n 3, 1) := by decide +kernel
theorem dX5_clash_86 : decode cX5_clash 86 = .ok (.ireturn, 1) := by decide +kernel
theorem dX5_clash_87 : decode cX5_clash 87 = .ok (.iinc 3 1, 3) := by decide +kernel
theorem dX5_clash_90 : decode cX5_clash 90 = .ok (.goto (-36), 3) := by decide +kernel
theorem dX5_clash_93 : decode cX5_clash 93 = .ok (.iinc 2 1, 3) := by decide +kernel
theorem dX5_clash_96 : decode cX5_clash 96 = .ok (.goto (-58), 3) := by decide +kernel
theorem dX5_clash_99 : decode cX5_clash 99 = .ok (.bipush (-4), 2) := by decide +kernel
theorem dX5_clash_101 : decode cX5_clash 101 = .ok (.ireturn, 1) := by decide +kernel
theorem dX5_stand_0 : decode cX5_stand 0 = .ok (.iload_n 1, 1) := by decide +kernel
theorem dX5_stand_1 : decode cX5_stand 1 = .ok (.ifCond .lt 8, 3) := by decide +kernel
theorem dX5_stand_4 : decode cX5_stand 4 = .ok (.iload_n 1, 1) := by decide +kernel
theorem dX5_stand_5 : decode cX5_stand 5 = .ok (.iconst 1, 1) := by decide +kernel
theorem dX5_stand_6 : decode cX5_stand 6 = .ok (.if_icmp .le 5, 3) := by decide +kernel
theorem dX5_stand_9 : decode cX5_stand 9 = .ok (.iconst (-1), 1) := by decide +kernel
theorem dX5_stand_10 : decode cX5_stand 10 = .ok (.ireturn, 1) := by decide +kernel
theorem dX5_stand_11 : decode cX5_stand 11 = .ok (.iconst 0, 1) := by decide +kernel
theorem dX5_stand_12 : decode cX5_stand 12 = .ok (.istore_n 2, 1) := by decide +kernel
theorem dX5_stand_13 : decode cX5_stand 13 = .ok (.iconst 0, 1) := by decide +kernel
theorem dX5_stand_14 : decode cX5_stand 14 = .ok (.istore_n 3, 1) := by decide +kernel
theorem dX5_stand_15 : decode cX5_stand 15 = .ok (.iload_n 3, 1) := by decide +kernel
theorem dX5_stand_16 : decode cX5_stand 16 = .ok (.aload_n 0, 1) := by decide +kernel
theorem dX5_stand_17 : decode cX5_stand 17 = .ok (.getfield 41, 3) := by decide +kernel
theorem dX5_stand_20 : decode cX5_stand 20 = .ok (.getfield 102, 3) := by decide +kernel
theorem dX5_stand_23 : decode cX5_stand 23 = .ok (.invokevirtual 84, 3) := by decide +kernel
theorem dX5_stand_26 : decode cX5_stand 26 = .ok (.if_icmp .ge 36, 3) := by decide +kernel
theorem dX5_stand_29 : decode cX5_stand 29 = .ok (.iload_n 2, 1) := by decide +kernel
theorem dX5_stand_30 : decode cX5_stand 30 = .ok (.aload_n 0, 1) := by decide +kernel
theorem dX5_stand_31 : decode cX5_stand 31 = .ok (.getfield 31, 3) := by decide +kernel
theorem dX5_stand_34 : decode cX5_stand 34 = .ok (.aload_n 0, 1) := by decide +kernel
theorem dX5_stand_35 : decode cX5_stand 35 = .ok (.getfield 41, 3) := by decide +kernel
theorem dX5_stand_38 : decode cX5_stand 38 = .ok (.getfield 102, 3) := by decide +kernel
theorem dX5_stand_41 : decode cX5_stand 41 = .ok (.iload_n 3, 1) := by decide +kernel
theorem dX5_stand_42 : decode cX5_stand 42 = .ok (.iconst 0, 1) := by decide +kernel
theorem dX5_stand_43 : decode cX5_stand 43 = .ok (.invokevirtual 111, 3) := by decide +kernel
theorem dX5_stand_46 : decode cX5_stand 46 = .ok (.invokevirtual 237, 3) := by decide +kernel
theorem dX5_stand_49 : decode cX5_stand 49 = .ok (.invokestatic 139, 3) := by decide +kernel
theorem dX5_stand_52 : decode cX5_stand 52 = .ok (.invokestatic 240, 3) := by decide +kernel
theorem dX5_stand_55 : decode cX5_stand 55 = .ok (.istore_n 2, 1) := by decide +kernel
theorem dX5_stand_56 : decode cX5_stand 56 = .ok (.iinc 3 1, 3) := by decide +kernel
theorem dX5_stand_59 : decode cX5_stand 59 = .ok (.goto (-44), 3) := by decide +kernel
theorem dX5_stand_62 : decode cX5_stand 62 = .ok (.iload_n 1, 1) := by decide +kernel
theorem dX5_stand_63 : decode cX5_stand 63 = .ok (.ifCond .ne 7, 3) := by decide +kernel
theorem dX5_stand_66 : decode cX5_stand 66 = .ok (.iload_n 2, 1) := by decide +kernel
theorem dX5_stand_67 : decode cX5_stand 67 = .ok (.goto 8, 3) := by decide +kernel
theorem dX5_stand_70 : decode cX5_stand 70 = .ok (.aload_n 0, 1) := by decide +kernel
theorem dX5_stand_71 : decode cX5_stand 71 = .ok (.iload_n 2, 1) := by decide +kernel
theorem dX5_stand_72 : decode cX5_stand 72 = .ok (.invokevirtual 243, 3) := by decide +kernel
theorem dX5_stand_75 : decode cX5_stand 75 = .ok (.ireturn, 1) := by decide +kernel
theorem dX5_was_0 : decode cX5_was 0 = .ok (.aload_n 0, 1) := by decide +kernel
theorem dX5_was_1 : decode cX5_was 1 = .ok (.getfield 41, 3) := by decide +kernel
theorem dX5_was_4 : decode cX5_was 4 = .ok (.iload_n 1, 1) := by decide +kernel
theorem dX5_was_5 : decode cX5_was 5 = .ok (.invokevirtual 200, 3) := by decide +kernel
theorem dX5_was_8 : decode cX5_was 8 = .ok (.ifCond .ne 5, 3) := by decide +kernel
theorem dX5_was_11 : decode cX5_was 11 = .ok (.iconst (-1), 1) := by decide +kernel
theorem dX5_was_12 : decode cX5_was 12 = .ok (.ireturn, 1) := by decide +kernel
theorem dX5_was_13 : decode cX5_was 13 = .ok (.aload_n 0, 1) := by decide +kernel
theorem dX5_was_14 : decode cX5_was 14 = .ok (.getfield 31, 3) := by decide +kernel
theorem dX5_was_17 : decode cX5_was 17 = .ok (.iconst (-1), 1) := by decide +kernel
theorem dX5_was_18 : decode cX5_was 18 = .ok (.invokevirtual 246, 3) := by decide +kernel
theorem dX5_was_21 : decode cX5_was 21 = .ok (.istore_n 2, 1) := by decide +kernel
theorem dX5_was_22 : decode cX5_was 22 = .ok (.iconst 0, 1) := by decide +kernel
theorem dX5_was_23 : decode cX5_was 23 = .ok (.istore_n 3, 1) := by decide +kernel
theorem dX5_was_24 : decode cX5_was 24 = .ok (.iconst 0, 1) := by decide +kernel
theorem dX5_was_25 : decode cX5_was 25 = .ok (.istore 4, 2) := by decide +kernel
theorem dX5_was_27 : decode cX5_was 27 = .ok (.iload 4, 2) := by decide +kernel
theorem dX5_was_29 : decode cX5_was 29 = .ok (.iconst 2, 1) := by decide +kernel
theorem dX5_was_30 : decode cX5_was 30 = .ok (.aload_n 0, 1) := by decide +kernel
theorem dX5_was_31 : decode cX5_was 31 = .ok (.getfield 41, 3) := by decide +kernel
theorem dX5_was_34 : decode cX5_was 34 = .ok (.getfield 249, 3) := by decide +kernel
theorem dX5_was_37 : decode cX5_was 37 = .ok (.imul, 1) := by decide +kernel
theorem dX5_was_38 : decode cX5_was 38 = .ok (.if_icmp .ge 37, 3) := by decide +kernel
theorem dX5_was_41 : decode cX5_was 41 = .ok (.aload_n 0, 1) := by decide +kernel
theorem dX5_was_42 : decode cX5_was 42 = .ok (.getfield 41, 3) := by decide +kernel
theorem dX5_was_45 : decode cX5_was 45 = .ok (.iload_n 2, 1) := by decide +kernel
theorem dX5_was_46 : decode cX5_was 46 = .ok (.iconst 1, 1) := by decide +kernel
theorem dX5_was_47 : decode cX5_was 47 = .ok (.iload 4, 2) := by decide +kernel
theorem dX5_was_49 : decode cX5_was 49 = .ok (.ishl, 1) := by decide +kernel
theorem dX5_was_50 : decode cX5_was 50 = .ok (.ior, 1) := by decide +kernel
theorem dX5_was_51 : decode cX5_was 51 = .ok (.invokevirtual 184, 3) := by decide +kernel
theorem dX5_was_54 : decode cX5_was 54 = .ok (.iload_n 1, 1) := by decide +kernel
theorem dX5_was_55 : decode cX5_was 55 = .ok (.ishr, 1) := by decide +kernel
theorem dX5_was_56 : decode cX5_was 56 = .ok (.iconst 1, 1) := by decide +kernel
theorem dX5_was_57 : decode cX5_was 57 = .ok (.iand, 1) := by decide +kernel
theorem dX5_was_58 : decode cX5_was 58 = .ok (.iconst 1, 1) := by decide +kernel
theorem dX5_was_59 : decode cX5_was 59 = .ok (.if_icmp .ne 10, 3) := by decide +kernel
theorem dX5_was_62 : decode cX5_was 62 = .ok (.iload_n 3, 1) := by decide +kernel
theorem dX5_was_63 : decode cX5_was 63 = .ok (.iconst 1, 1) := by decide +kernel
theorem dX5_was_64 : decode cX5_was 64 = .ok (.iload 4, 2) := by decide +kernel
theorem dX5_was_66 : decode cX5_was 66 = .ok (.ishl, 1) := by decide +kernel
theorem dX5_was_67 : decode cX5_was 67 = .ok (.ior, 1) := by decide +kernel
theorem dX5_was_68 : decode cX5_was 68 = .ok (.istore_n 3, 1) := by decide +kernel
theorem dX5_was_69 : decode cX5_was 69 = .ok (.iinc 4 1, 3) := by decide +kernel
theorem dX5_was_72 : decode cX5_was 72 = .ok (.goto (-45), 3) := by decide +kernel
theorem dX5_was_75 : decode cX5_was 75 = .ok (.iload_n 3, 1) := by decide +kernel
theorem dX5_was_76 : decode cX5_was 76 = .ok (.ireturn, 1) := by decide +kernel
theorem dX5_missed_0 : decode cX5_missed 0 = .ok (.bipush (-4), 2) := by decide +kernel
theorem dX5_missed_2 : decode cX5_missed 2 = .ok (.istore_n 1, 1) := by decide +kernel
theorem dX5_missed_3 : decode cX5_missed 3 = .ok (.bipush 9, 2) := by decide +kernel
theorem dX5_missed_5 : decode cX5_missed 5 = .ok (.istore_n 2, 1) := by decide +kernel
theorem dX5_missed_6 : decode cX5_missed 6 = .ok (.iconst 0, 1) := by decide +kernel
theorem dX5_missed_7 : decode cX5_missed 7 = .ok (.istore_n 3, 1) := by decide +kernel
theorem dX5_missed_8 : decode cX5_missed 8 = .ok (.iload_n 3, 1) := by decide +kernel
theorem dX5_missed_9 : decode cX5_missed 9 = .ok (.aload_n 0, 1) := by decide +kernel
theorem dX5_missed_10 : decode cX5_missed 10 = .ok (.getfield 31, 3) := by decide +kernel
theorem dX5_missed_13 : decode cX5_missed 13 = .ok (.getfield 122, 3) := by decide +kernel
theorem dX5_missed_16 : decode cX5_missed 16 = .ok (.invokevirtual 84, 3) := by decide +kernel
theorem dX5_missed_19 : decode cX5_missed 19 = .ok (.if_icmp .ge 34, 3) := by decide +kernel
theorem dX5_missed_22 : decode cX5_missed 22 = .ok (.aload_n 0, 1) := by decide +kernel
theorem dX5_missed_23 : decode cX5_missed 23 = .ok (.aload_n 0, 1) := by decide +kernel
theorem dX5_missed_24 : decode cX5_missed 24 = .ok (.getfield 31, 3) := by decide +kernel
theorem dX5_missed_27 : decode cX5_missed 27 = .ok (.iload_n 3, 1) := by decide +kernel
theorem dX5_missed_28 : decode cX5_missed 28 = .ok (.invokevirtual 246, 3) := by decide +kernel
theorem dX5_missed_31 : decode cX5_missed 31 = .ok (.invokevirtual 190, 3) := by decide +kernel
theorem dX5_missed_34 : decode cX5_missed 34 = .ok (.istore 4, 2) := by decide +kernel
theorem dX5_missed_36 : decode cX5_missed 36 = .ok (.iload 4, 2) := by decide +kernel
theorem dX5_missed_38 : decode cX5_missed 38 = .ok (.iload_n 2, 1) := by decide +kernel
theorem dX5_missed_39 : decode cX5_missed 39 = .ok (.if_icmp .ge 8, 3) := by decide +kernel
theorem dX5_missed_42 : decode cX5_missed 42 = .ok (.iload 4, 2) := by decide +kernel
theorem dX5_missed_44 : decode cX5_missed 44 = .ok (.istore_n 2, 1) := by decide +kernel
theorem dX5_missed_45 : decode cX5_missed 45 = .ok (.iload_n 3, 1) := by decide +kernel
theorem dX5_missed_46 : decode cX5_missed 46 = .ok (.istore_n 1, 1) := by decide +kernel
theorem dX5_missed_47 : decode cX5_missed 47 = .ok (.iinc 3 1, 3) := by decide +kernel
theorem dX5_missed_50 : decode cX5_missed 50 = .ok (.goto (-42), 3) := by decide +kernel
theorem dX5_missed_53 : decode cX5_missed 53 = .ok (.iload_n 1, 1) := by decide +kernel
theorem dX5_missed_54 : decode cX5_missed 54 = .ok (.ireturn, 1) := by decide +kernel
theorem dX5_sale_0 : decode cX5_sale 0 = .ok (.iload_n 1, 1) := by decide +kernel
theorem dX5_sale_1 : decode cX5_sale 1 = .ok (.iconst 1, 1) := by decide +kernel
theorem dX5_sale_2 : decode cX5_sale 2 = .ok (.if_icmp .lt 28, 3) := by decide +kernel
theorem dX5_sale_5 : decode cX5_sale 5 = .ok (.iload_n 1, 1) := by decide +kernel
theorem dX5_sale_6 : decode cX5_sale 6 = .ok (.bipush 12, 2) := by decide +kernel
theorem dX5_sale_8 : decode cX5_sale 8 = .ok (.if_icmp .gt 22, 3) := by decide +kernel
theorem dX5_sale_11 : decode cX5_sale 11 = .ok (.iload_n 2, 1) := by decide +kernel
theorem dX5_sale_12 : decode cX5_sale 12 = .ok (.iconst (-1), 1) := by decide +kernel
theorem dX5_sale_13 : decode cX5_sale 13 = .ok (.if_icmp .lt 17, 3) := by decide +kernel
theorem dX5_sale_16 : decode cX5_sale 16 = .ok (.iload_n 2, 1) := by decide +kernel
theorem dX5_sale_17 : decode cX5_sale 17 = .ok (.aload_n 0, 1) := by decide +kernel
theorem dX5_sale_18 : decode cX5_sale 18 = .ok (.getfield 41, 3) := by decide +kernel
theorem dX5_sale_21 : decode cX5_sale 21 = .ok (.getfield 252, 3) := by decide +kernel
theorem dX5_sale_24 : decode cX5_sale 24 = .ok (.invokevirtual 84, 3) := by decide +kernel
theorem dX5_sale_27 : decode cX5_sale 27 = .ok (.if_icmp .lt 5, 3) := by decide +kernel
theorem dX5_sale_30 : decode cX5_sale 30 = .ok (.iconst (-1), 1) := by decide +kernel
theorem dX5_sale_31 : decode cX5_sale 31 = .ok (.ireturn, 1) := by decide +kernel
theorem dX5_sale_32 : decode cX5_sale 32 = .ok (.iconst 0, 1) := by decide +kernel
theorem dX5_sale_33 : decode cX5_sale 33 = .ok (.istore_n 3, 1) := by decide +kernel
theorem dX5_sale_34 : decode cX5_sale 34 = .ok (.iload_n 1, 1) := by decide +kernel
theorem dX5_sale_35 : decode cX5_sale 35 = .ok (.istore 4, 2) := by decide +kernel
theorem dX5_sale_37 : decode cX5_sale 37 = .ok (.iconst 0, 1) := by decide +kernel
theorem dX5_sale_38 : decode cX5_sale 38 = .ok (.istore 5, 2) := by decide +kernel
theorem dX5_sale_40 : decode cX5_sale 40 = .ok (.iconst 0, 1) := by decide +kernel
theorem dX5_sale_41 : decode cX5_sale 41 = .ok (.istore 6, 2) := by decide +kernel
theorem dX5_sale_43 : decode cX5_sale 43 = .ok (.iload 6, 2) := by decide +kernel
theorem dX5_sale_45 : decode cX5_sale 45 = .ok (.aload_n 0, 1) := by decide +kernel
theorem dX5_sale_46 : decode cX5_sale 46 = .ok (.getfield 41, 3) := by decide +kernel
theorem dX5_sale_49 : decode cX5_sale 49 = .ok (.getfield 252, 3) := by decide +kernel
theorem dX5_sale_52 : decode cX5_sale 52 = .ok (.invokevirtual 84, 3) := by decide +kernel
theorem dX5_sale_55 : decode cX5_sale 55 = .ok (.if_icmp .ge 94, 3) := by decide +kernel
theorem dX5_sale_58 : decode cX5_sale 58 = .ok (.aload_n 0, 1) := by decide +kernel
theorem dX5_sale_59 : decode cX5_sale 59 = .ok (.getfield 41, 3) := by decide +kernel
theorem dX5_sale_62 : decode cX5_sale 62 = .ok (.iload 5, 2) := by decide +kernel
theorem dX5_sale_64 : decode cX5_sale 64 = .ok (.invokevirtual 255, 3) := by decide +kernel
theorem dX5_sale_67 : decode cX5_sale 67 = .ok (.istore 7, 2) := by decide +kernel
theorem dX5_sale_69 : decode cX5_sale 69 = .ok (.aload_n 0, 1) := by decide +kernel
theorem dX5_sale_70 : decode cX5_sale 70 = .ok (.getfield 41, 3) := by decide +kernel
theorem dX5_sale_73 : decode cX5_sale 73 = .ok (.getfield 252, 3) := by decide +kernel
theorem dX5_sale_76 : decode cX5_sale 76 = .ok (.iload 7, 2) := by decide +kernel
theorem dX5_sale_78 : decode cX5_sale 78 = .ok (.iconst 1, 1) := by decide +kernel
theorem dX5_sale_79 : decode cX5_sale 79 = .ok (.invokevirtual 111, 3) := by decide +kernel
theorem dX5_sale_82 : decode cX5_sale 82 = .ok (.istore 8, 2) := by decide +kernel
theorem dX5_sale_84 : decode cX5_sale 84 = .ok (.iload 8, 2) := by decide +kernel
theorem dX5_sale_86 : decode cX5_sale 86 = .ok (.iload 4, 2) := by decide +kernel
theorem dX5_sale_88 : decode cX5_sale 88 = .ok (.invokestatic 222, 3) := by decide +kernel
theorem dX5_sale_91 : decode cX5_sale 91 = .ok (.istore 9, 2) := by decide +kernel
theorem dX5_sale_93 : decode cX5_sale 93 = .ok (.iload 7, 2) := by decide +kernel
theorem dX5_sale_95 : decode cX5_sale 95 = .ok (.iload_n 2, 1) := by decide +kernel
theorem dX5_sale_96 : decode cX5_sale 96 = .ok (.if_icmp .ne 6, 3) := by decide +kernel
theorem dX5_sale_99 : decode cX5_sale 99 = .ok (.iload 9, 2) := by decide +kernel
theorem dX5_sale_101 : decode cX5_sale 101 = .ok (.ireturn, 1) := by decide +kernel
theorem dX5_sale_102 : decode cX5_sale 102 = .ok (.iload 9, 2) := by decide +kernel
theorem dX5_sale_104 : decode cX5_sale 104 = .ok (.iload 8, 2) := by decide +kernel
theorem dX5_sale_106 : decode cX5_sale 106 = .ok (.if_icmp .ge 21, 3) := by decide +kernel
theorem dX5_sale_109 : decode cX5_sale 109 = .ok (.iload_n 3, 1) := by decide +kernel
theorem dX5_sale_110 : decode cX5_sale 110 = .ok (.aload_n 0, 1) := by decide +kernel
theorem dX5_sale_111 : decode cX5_sale 111 = .ok (.getfield 41, 3) := by decide +kernel
theorem dX5_sale_114 : decode cX5_sale 114 = .ok (.getfield 252, 3) := by decide +kernel
theorem dX5_sale_117 : decode cX5_sale 117 = .ok (.iload 7, 2) := by decide +kernel
theorem dX5_sale_119 : decode cX5_sale 119 = .ok (.iconst 2, 1) := by decide +kernel
theorem dX5_sale_120 : decode cX5_sale 120 = .ok (.invokevirtual 111, 3) := by decide +kernel
theorem dX5_sale_123 : decode cX5_sale 123 = .ok (.invokestatic 240, 3) := by decide +kernel
theorem dX5_sale_126 : decode cX5_sale 126 = .ok (.istore_n 3, 1) := by decide +kernel
theorem dX5_sale_127 : decode cX5_sale 127 = .ok (.iload 4, 2) := by decide +kernel
theorem dX5_sale_129 : decode cX5_sale 129 = .ok (.iload 9, 2) := by decide +kernel
theorem dX5_sale_131 : decode cX5_sale 131 = .ok (.isub, 1) := by decide +kernel
theorem dX5_sale_132 : decode cX5_sale 132 = .ok (.istore 4, 2) := by decide +kernel
theorem dX5_sale_134 : decode cX5_sale 134 = .ok (.iload 5, 2) := by decide +kernel
theorem dX5_sale_136 : decode cX5_sale 136 = .ok (.iconst 1, 1) := by decide +kernel
theorem dX5_sale_137 : decode cX5_sale 137 = .ok (.iload 7, 2) := by decide +kernel
theorem dX5_sale_139 : decode cX5_sale 139 = .ok (.ishl, 1) := by decide +kernel
theorem dX5_sale_140 : decode cX5_sale 140 = .ok (.ior, 1) := by decide +kernel
theorem dX5_sale_141 : decode cX5_sale 141 = .ok (.istore 5, 2) := by decide +kernel
theorem dX5_sale_143 : decode cX5_sale 143 = .ok (.iinc 6 1, 3) := by decide +kernel
theorem dX5_sale_146 : decode cX5_sale 146 = .ok (.goto (-103), 3) := by decide +kernel
theorem dX5_sale_149 : decode cX5_sale 149 = .ok (.iload_n 3, 1) := by decide +kernel
theorem dX5_sale_150 : decode cX5_sale 150 = .ok (.ireturn, 1) := by decide +kernel
theorem dX5_worth_0 : decode cX5_worth 0 = .ok (.aload_n 0, 1) := by decide +kernel
theorem dX5_worth_1 : decode cX5_worth 1 = .ok (.getfield 41, 3) := by decide +kernel
theorem dX5_worth_4 : decode cX5_worth 4 = .ok (.getfield 249, 3) := by decide +kernel
theorem dX5_worth_7 : decode cX5_worth 7 = .ok (.aload_n 0, 1) := by decide +kernel
theorem dX5_worth_8 : decode cX5_worth 8 = .ok (.aload_n 0, 1) := by decide +kernel
theorem dX5_worth_9 : decode cX5_worth 9 = .ok (.getfield 31, 3) := by decide +kernel
theorem dX5_worth_12 : decode cX5_worth 12 = .ok (.iconst (-1), 1) := by decide +kernel
theorem dX5_worth_13 : decode cX5_worth 13 = .ok (.invokevirtual 246, 3) := by decide +kernel
theorem dX5_worth_16 : decode cX5_worth 16 = .ok (.invokevirtual 190, 3) := by decide +kernel
theorem dX5_worth_19 : decode cX5_worth 19 = .ok (.isub, 1) := by decide +kernel
theorem dX5_worth_20 : decode cX5_worth 20 = .ok (.ireturn, 1) := by decide +kernel
theorem dX5_two_0 : decode cX5_two 0 = .ok (.aload_n 0, 1) := by decide +kernel
theorem dX5_two_1 : decode cX5_two 1 = .ok (.getfield 41, 3) := by decide +kernel
theorem dX5_two_4 : decode cX5_two 4 = .ok (.iload_n 1, 1) := by decide +kernel
theorem dX5_two_5 : decode cX5_two 5 = .ok (.invokevirtual 145, 3) := by decide +kernel
theorem dX5_two_8 : decode cX5_two 8 = .ok (.ifCond .eq 19, 3) := by decide +kernel
theorem dX5_two_11 : decode cX5_two 11 = .ok (.aload_n 0, 1) := by decide +kernel
theorem dX5_two_12 : decode cX5_two 12 = .ok (.getfield 41, 3) := by decide +kernel
theorem dX5_two_15 : decode cX5_two 15 = .ok (.iload_n 2, 1) := by decide +kernel
theorem dX5_two_16 : decode cX5_two 16 = .ok (.invokevirtual 145, 3) := by decide +kernel
theorem dX5_two_19 : decode cX5_two 19 = .ok (.ifCond .eq 8, 3) := by decide +kernel
theorem dX5_two_22 : decode cX5_two 22 = .ok (.iload_n 1, 1) := by decide +kernel
theorem dX5_two_23 : decode cX5_two 23 = .ok (.iload_n 2, 1) := by decide +kernel
theorem dX5_two_24 : decode cX5_two 24 = .ok (.if_icmp .ne 5, 3) := by decide +kernel
theorem dX5_two_27 : decode cX5_two 27 = .ok (.iconst (-1), 1) := by decide +kernel
theorem dX5_two_28 : decode cX5_two 28 = .ok (.ireturn, 1) := by decide +kernel
theorem dX5_two_29 : decode cX5_two 29 = .ok (.iconst 1, 1) := by decide +kernel
theorem dX5_two_30 : decode cX5_two 30 = .ok (.iload_n 1, 1) := by decide +kernel
theorem dX5_two_31 : decode cX5_two 31 = .ok (.aload_n 0, 1) := by decide +kernel
theorem dX5_two_32 : decode cX5_two 32 = .ok (.getfield 31, 3) := by decide +kernel
theorem dX5_two_35 : decode cX5_two 35 = .ok (.getfield 125, 3) := by decide +kernel
theorem dX5_two_38 : decode cX5_two 38 = .ok (.invokestatic 159, 3) := by decide +kernel
theorem dX5_two_41 : decode cX5_two 41 = .ok (.ishl, 1) := by decide +kernel
theorem dX5_two_42 : decode cX5_two 42 = .ok (.iconst 1, 1) := by decide +kernel
theorem dX5_two_43 : decode cX5_two 43 = .ok (.iload_n 2, 1) := by decide +kernel
theorem dX5_two_44 : decode cX5_two 44 = .ok (.aload_n 0, 1) := by decide +kernel
theorem dX5_two_45 : decode cX5_two 45 = .ok (.getfield 31, 3) := by decide +kernel
theorem dX5_two_48 : decode cX5_two 48 = .ok (.getfield 125, 3) := by decide +kernel
theorem dX5_two_51 : decode cX5_two 51 = .ok (.invokestatic 159, 3) := by decide +kernel
theorem dX5_two_54 : decode cX5_two 54 = .ok (.ishl, 1) := by decide +kernel
theorem dX5_two_55 : decode cX5_two 55 = .ok (.ior, 1) := by decide +kernel
theorem dX5_two_56 : decode cX5_two 56 = .ok (.istore_n 3, 1) := by decide +kernel
theorem dX5_two_57 : decode cX5_two 57 = .ok (.aload_n 0, 1) := by decide +kernel
theorem dX5_two_58 : decode cX5_two 58 = .ok (.aload_n 0, 1) := by decide +kernel
theorem dX5_two_59 : decode cX5_two 59 = .ok (.getfield 31, 3) := by decide +kernel
theorem dX5_two_62 : decode cX5_two 62 = .ok (.iconst (-1), 1) := by decide +kernel
theorem dX5_two_63 : decode cX5_two 63 = .ok (.invokevirtual 246, 3) := by decide +kernel
theorem dX5_two_66 : decode cX5_two 66 = .ok (.iload_n 3, 1) := by decide +kernel
theorem dX5_two_67 : decode cX5_two 67 = .ok (.ior, 1) := by decide +kernel
theorem dX5_two_68 : decode cX5_two 68 = .ok (.invokevirtual 190, 3) := by decide +kernel
theorem dX5_two_71 : decode cX5_two 71 = .ok (.ireturn, 1) := by decide +kernel
theorem dX5_year_0 : decode cX5_year 0 = .ok (.iload_n 1, 1) := by decide +kernel
theorem dX5_year_1 : decode cX5_year 1 = .ok (.ifCond .lt 30, 3) := by decide +kernel
theorem dX5_year_4 : decode cX5_year 4 = .ok (.iload_n 1, 1) := by decide +kernel
theorem dX5_year_5 : decode cX5_year 5 = .ok (.sipush 9999, 3) := by decide +kernel
theorem dX5_year_8 : decode cX5_year 8 = .ok (.if_icmp .gt 23, 3) := by decide +kernel
theorem dX5_year_11 : decode cX5_year 11 = .ok (.iload_n 2, 1) := by decide +kernel
theorem dX5_year_12 : decode cX5_year 12 = .ok (.iconst 1, 1) := by decide +kernel
theorem dX5_year_13 : decode cX5_year 13 = .ok (.if_icmp .lt 18, 3) := by decide +kernel
theorem dX5_year_16 : decode cX5_year 16 = .ok (.iload_n 2, 1) := by decide +kernel
theorem dX5_year_17 : decode cX5_year 17 = .ok (.bipush 60, 2) := by decide +kernel
theorem dX5_year_19 : decode cX5_year 19 = .ok (.if_icmp .gt 12, 3) := by decide +kernel
theorem dX5_year_22 : decode cX5_year 22 = .ok (.iload_n 3, 1) := by decide +kernel
theorem dX5_year_23 : decode cX5_year 23 = .ok (.ifCond .lt 8, 3) := by decide +kernel
theorem dX5_year_26 : decode cX5_year 26 = .ok (.iload_n 3, 1) := by decide +kernel
theorem dX5_year_27 : decode cX5_year 27 = .ok (.iconst 1, 1) := by decide +kernel
theorem dX5_year_28 : decode cX5_year 28 = .ok (.if_icmp .le 5, 3) := by decide +kernel
theorem dX5_year_31 : decode cX5_year 31 = .ok (.iconst (-1), 1) := by decide +kernel
theorem dX5_year_32 : decode cX5_year 32 = .ok (.ireturn, 1) := by decide +kernel
theorem dX5_year_33 : decode cX5_year 33 = .ok (.aload_n 0, 1) := by decide +kernel
theorem dX5_year_34 : decode cX5_year 34 = .ok (.getfield 35, 3) := by decide +kernel
theorem dX5_year_37 : decode cX5_year 37 = .ok (.aload_n 0, 1) := by decide +kernel
theorem dX5_year_38 : decode cX5_year 38 = .ok (.getfield 31, 3) := by decide +kernel
theorem dX5_year_41 : decode cX5_year 41 = .ok (.invokevirtual 258, 3) := by decide +kernel
theorem dX5_year_44 : decode cX5_year 44 = .ok (.iconst 0, 1) := by decide +kernel
theorem dX5_year_45 : decode cX5_year 45 = .ok (.istore 4, 2) := by decide +kernel
theorem dX5_year_47 : decode cX5_year 47 = .ok (.iconst 0, 1) := by decide +kernel
theorem dX5_year_48 : decode cX5_year 48 = .ok (.istore 5, 2) := by decide +kernel
theorem dX5_year_50 : decode cX5_year 50 = .ok (.iload 5, 2) := by decide +kernel
theorem dX5_year_52 : decode cX5_year 52 = .ok (.iload_n 2, 1) := by decide +kernel
theorem dX5_year_53 : decode cX5_year 53 = .ok (.if_icmp .ge 48, 3) := by decide +kernel
theorem dX5_year_56 : decode cX5_year 56 = .ok (.aload_n 0, 1) := by decide +kernel
theorem dX5_year_57 : decode cX5_year 57 = .ok (.getfield 35, 3) := by decide +kernel
theorem dX5_year_60 : decode cX5_year 60 = .ok (.aload_n 0, 1) := by decide +kernel
theorem dX5_year_61 : decode cX5_year 61 = .ok (.getfield 41, 3) := by decide +kernel
theorem dX5_year_64 : decode cX5_year 64 = .ok (.iload_n 1, 1) := by decide +kernel
theorem dX5_year_65 : decode cX5_year 65 = .ok (.iload 5, 2) := by decide +kernel
theorem dX5_year_67 : decode cX5_year 67 = .ok (.invokestatic 261, 3) := by decide +kernel
theorem dX5_year_70 : decode cX5_year 70 = .ok (.invokevirtual 264, 3) := by decide +kernel
theorem dX5_year_73 : decode cX5_year 73 = .ok (.aload_n 0, 1) := by decide +kernel
theorem dX5_year_74 : decode cX5_year 74 = .ok (.aload_n 0, 1) := by decide +kernel
theorem dX5_year_75 : decode cX5_year 75 = .ok (.getfield 35, 3) := by decide +kernel
theorem dX5_year_78 : decode cX5_year 78 = .ok (.aload_n 0, 1) := by decide +kernel
theorem dX5_year_79 : decode cX5_year 79 = .ok (.getfield 35, 3) := by decide +kernel
theorem dX5_year_82 : decode cX5_year 82 = .ok (.iconst (-1), 1) := by decide +kernel
theorem dX5_year_83 : decode cX5_year 83 = .ok (.invokevirtual 246, 3) := by decide +kernel
theorem dX5_year_86 : decode cX5_year 86 = .ok (.invokevirtual 193, 3) := by decide +kernel
theorem dX5_year_89 : decode cX5_year 89 = .ok (.ifCond .ne 6, 3) := by decide +kernel
theorem dX5_year_92 : decode cX5_year 92 = .ok (.iinc 4 1, 3) := by decide +kernel
theorem dX5_year_95 : decode cX5_year 95 = .ok (.iinc 5 1, 3) := by decide +kernel
theorem dX5_year_98 : decode cX5_year 98 = .ok (.goto (-48), 3) := by decide +kernel
theorem dX5_year_101 : decode cX5_year 101 = .ok (.iload_n 3, 1) := by decide +kernel
theorem dX5_year_102 : decode cX5_year 102 = .ok (.ifCond .ne 8, 3) := by decide +kernel
theorem dX5_year_105 : decode cX5_year 105 = .ok (.iload 4, 2) := by decide +kernel
theorem dX5_year_107 : decode cX5_year 107 = .ok (.goto 13, 3) := by decide +kernel
theorem dX5_year_110 : decode cX5_year 110 = .ok (.aload_n 0, 1) := by decide +kernel
theorem dX5_year_111 : decode cX5_year 111 = .ok (.getfield 35, 3) := by decide +kernel
theorem dX5_year_114 : decode cX5_year 114 = .ok (.getfield 122, 3) := by decide +kernel
theorem dX5_year_117 : decode cX5_year 117 = .ok (.invokevirtual 84, 3) := by decide +kernel
theorem dX5_year_120 : decode cX5_year 120 = .ok (.ireturn, 1) := by decide +kernel
theorem dX5_keep_0 : decode cX5_keep 0 = .ok (.aload_n 0, 1) := by decide +kernel
theorem dX5_keep_1 : decode cX5_keep 1 = .ok (.getfield 25, 3) := by decide +kernel
theorem dX5_keep_4 : decode cX5_keep 4 = .ok (.invokevirtual 268, 3) := by decide +kernel
theorem dX5_keep_7 : decode cX5_keep 7 = .ok (.ifCond .eq 6, 3) := by decide +kernel
theorem dX5_keep_10 : decode cX5_keep 10 = .ok (.bipush (-3), 2) := by decide +kernel
theorem dX5_keep_12 : decode cX5_keep 12 = .ok (.ireturn, 1) := by decide +kernel
theorem dX5_keep_13 : decode cX5_keep 13 = .ok (.aload_n 0, 1) := by decide +kernel
theorem dX5_keep_14 : decode cX5_keep 14 = .ok (.getfield 25, 3) := by decide +kernel
theorem dX5_keep_17 : decode cX5_keep 17 = .ok (.aload_n 0, 1) := by decide +kernel
theorem dX5_keep_18 : decode cX5_keep 18 = .ok (.getfield 31, 3) := by decide +kernel
theorem dX5_keep_21 : decode cX5_keep 21 = .ok (.invokevirtual 135, 3) := by decide +kernel
theorem dX5_keep_24 : decode cX5_keep 24 = .ok (.aload_n 0, 1) := by decide +kernel
theorem dX5_keep_25 : decode cX5_keep 25 = .ok (.getfield 25, 3) := by decide +kernel
theorem dX5_keep_28 : decode cX5_keep 28 = .ok (.invokevirtual 174, 3) := by decide +kernel
theorem dX5_keep_31 : decode cX5_keep 31 = .ok (.ireturn, 1) := by decide +kernel
theorem dX5_back_0 : decode cX5_back 0 = .ok (.aload_n 0, 1) := by decide +kernel
theorem dX5_back_1 : decode cX5_back 1 = .ok (.getfield 25, 3) := by decide +kernel
theorem dX5_back_4 : decode cX5_back 4 = .ok (.invokevirtual 174, 3) := by decide +kernel
theorem dX5_back_7 : decode cX5_back 7 = .ok (.iconst 1, 1) := by decide +kernel
theorem dX5_back_8 : decode cX5_back 8 = .ok (.if_icmp .ge 6, 3) := by decide +kernel
theorem dX5_back_11 : decode cX5_back 11 = .ok (.bipush (-2), 2) := by decide +kernel
theorem dX5_back_13 : decode cX5_back 13 = .ok (.ireturn, 1) := by decide +kernel
theorem dX5_back_14 : decode cX5_back 14 = .ok (.aload_n 0, 1) := by decide +kernel
theorem dX5_back_15 : decode cX5_back 15 = .ok (.getfield 25, 3) := by decide +kernel
theorem dX5_back_18 : decode cX5_back 18 = .ok (.aload_n 0, 1) := by decide +kernel
theorem dX5_back_19 : decode cX5_back 19 = .ok (.getfield 31, 3) := by decide +kernel
theorem dX5_back_22 : decode cX5_back 22 = .ok (.invokevirtual 175, 3) := by decide +kernel
theorem dX5_back_25 : decode cX5_back 25 = .ok (.aload_n 0, 1) := by decide +kernel
theorem dX5_back_26 : decode cX5_back 26 = .ok (.getfield 21, 3) := by decide +kernel
theorem dX5_back_29 : decode cX5_back 29 = .ok (.invokevirtual 101, 3) := by decide +kernel
theorem dX5_back_32 : decode cX5_back 32 = .ok (.aload_n 0, 1) := by decide +kernel
theorem dX5_back_33 : decode cX5_back 33 = .ok (.getfield 25, 3) := by decide +kernel
theorem dX5_back_36 : decode cX5_back 36 = .ok (.invokevirtual 174, 3) := by decide +kernel
theorem dX5_back_39 : decode cX5_back 39 = .ok (.ireturn, 1) := by decide +kernel
theorem dX5_count_0 : decode cX5_count 0 = .ok (.iload_n 1, 1) := by decide +kernel
theorem dX5_count_1 : decode cX5_count 1 = .ok (.tableswitch 180 0 11 #[63, 71, 82, 93, 104, 115, 126, 134, 145, 153, 161, 169], 63) := by decide +kernel
theorem dX5_count_64 : decode cX5_count 64 = .ok (.aload_n 0, 1) := by decide +kernel
theorem dX5_count_65 : decode cX5_count 65 = .ok (.getfield 41, 3) := by decide +kernel
theorem dX5_count_68 : decode cX5_count 68 = .ok (.getfield 249, 3) := by decide +kernel
theorem dX5_count_71 : decode cX5_count 71 = .ok (.ireturn, 1) := by decide +kernel
theorem dX5_count_72 : decode cX5_count 72 = .ok (.aload_n 0, 1) := by decide +kernel
theorem dX5_count_73 : decode cX5_count 73 = .ok (.getfield 41, 3) := by decide +kernel
theorem dX5_count_76 : decode cX5_count 76 = .ok (.getfield 105, 3) := by decide +kernel
theorem dX5_count_79 : decode cX5_count 79 = .ok (.invokevirtual 84, 3) := by decide +kernel
theorem dX5_count_82 : decode cX5_count 82 = .ok (.ireturn, 1) := by decide +kernel
theorem dX5_count_83 : decode cX5_count 83 = .ok (.aload_n 0, 1) := by decide +kernel
theorem dX5_count_84 : decode cX5_count 84 = .ok (.getfield 41, 3) := by decide +kernel
theorem dX5_count_87 : decode cX5_count 87 = .ok (.getfield 87, 3) := by decide +kernel
theorem dX5_count_90 : decode cX5_count 90 = .ok (.invokevirtual 84, 3) := by decide +kernel
theorem dX5_count_93 : decode cX5_count 93 = .ok (.ireturn, 1) := by decide +kernel
theorem dX5_count_94 : decode cX5_count 94 = .ok (.aload_n 0, 1) := by decide +kernel
theorem dX5_count_95 : decode cX5_count 95 = .ok (.getfield 41, 3) := by decide +kernel
theorem dX5_count_98 : decode cX5_count 98 = .ok (.getfield 90, 3) := by decide +kernel
theorem dX5_count_101 : decode cX5_count 101 = .ok (.invokevirtual 84, 3) := by decide +kernel
theorem dX5_count_104 : decode cX5_count 104 = .ok (.ireturn, 1) := by decide +kernel
theorem dX5_count_105 : decode cX5_count 105 = .ok (.aload_n 0, 1) := by decide +kernel
theorem dX5_count_106 : decode cX5_count 106 = .ok (.getfield 41, 3) := by decide +kernel
theorem dX5_count_109 : decode cX5_count 109 = .ok (.getfield 252, 3) := by decide +kernel
theorem dX5_count_112 : decode cX5_count 112 = .ok (.invokevirtual 84, 3) := by decide +kernel
theorem dX5_count_115 : decode cX5_count 115 = .ok (.ireturn, 1) := by decide +kernel
theorem dX5_count_116 : decode cX5_count 116 = .ok (.aload_n 0, 1) := by decide +kernel
theorem dX5_count_117 : decode cX5_count 117 = .ok (.getfield 41, 3) := by decide +kernel
theorem dX5_count_120 : decode cX5_count 120 = .ok (.getfield 102, 3) := by decide +kernel
theorem dX5_count_123 : decode cX5_count 123 = .ok (.invokevirtual 84, 3) := by decide +kernel
theorem dX5_count_126 : decode cX5_count 126 = .ok (.ireturn, 1) := by decide +kernel
theorem dX5_count_127 : decode cX5_count 127 = .ok (.aload_n 0, 1) := by decide +kernel
theorem dX5_count_128 : decode cX5_count 128 = .ok (.getfield 31, 3) := by decide +kernel
theorem dX5_count_131 : decode cX5_count 131 = .ok (.getfield 125, 3) := by decide +kernel
theorem dX5_count_134 : decode cX5_count 134 = .ok (.ireturn, 1) := by decide +kernel
theorem dX5_count_135 : decode cX5_count 135 = .ok (.aload_n 0, 1) := by decide +kernel
theorem dX5_count_136 : decode cX5_count 136 = .ok (.getfield 31, 3) := by decide +kernel
theorem dX5_count_139 : decode cX5_count 139 = .ok (.getfield 122, 3) := by decide +kernel
theorem dX5_count_142 : decode cX5_count 142 = .ok (.invokevirtual 84, 3) := by decide +kernel
theorem dX5_count_145 : decode cX5_count 145 = .ok (.ireturn, 1) := by decide +kernel
theorem dX5_count_146 : decode cX5_count 146 = .ok (.aload_n 0, 1) := by decide +kernel
theorem dX5_count_147 : decode cX5_count 147 = .ok (.getfield 31, 3) := by decide +kernel
theorem dX5_count_150 : decode cX5_count 150 = .ok (.getfield 168, 3) := by decide +kernel
theorem dX5_count_153 : decode cX5_count 153 = .ok (.ireturn, 1) := by decide +kernel
theorem dX5_count_154 : decode cX5_count 154 = .ok (.aload_n 0, 1) := by decide +kernel
theorem dX5_count_155 : decode cX5_count 155 = .ok (.getfield 21, 3) := by decide +kernel
theorem dX5_count_158 : decode cX5_count 158 = .ok (.invokevirtual 174, 3) := by decide +kernel
theorem dX5_count_161 : decode cX5_count 161 = .ok (.ireturn, 1) := by decide +kernel
theorem dX5_count_162 : decode cX5_count 162 = .ok (.aload_n 0, 1) := by decide +kernel
theorem dX5_count_163 : decode cX5_count 163 = .ok (.getfield 25, 3) := by decide +kernel
theorem dX5_count_166 : decode cX5_count 166 = .ok (.invokevirtual 174, 3) := by decide +kernel
theorem dX5_count_169 : decode cX5_count 169 = .ok (.ireturn, 1) := by decide +kernel
theorem dX5_count_170 : decode cX5_count 170 = .ok (.aload_n 0, 1) := by decide +kernel
theorem dX5_count_171 : decode cX5_count 171 = .ok (.getfield 10, 3) := by decide +kernel
theorem dX5_count_174 : decode cX5_count 174 = .ok (.getfield 56, 3) := by decide +kernel
theorem dX5_count_177 : decode cX5_count 177 = .ok (.invokevirtual 84, 3) := by decide +kernel
theorem dX5_count_180 : decode cX5_count 180 = .ok (.ireturn, 1) := by decide +kernel
theorem dX5_count_181 : decode cX5_count 181 = .ok (.iconst (-1), 1) := by decide +kernel
theorem dX5_count_182 : decode cX5_count 182 = .ok (.ireturn, 1) := by decide +kernel
theorem dX5_isRule_0 : decode cX5_isRule 0 = .ok (.iload_n 0, 1) := by decide +kernel
theorem dX5_isRule_1 : decode cX5_isRule 1 = .ok (.iconst 1, 1) := by decide +kernel
theorem dX5_isRule_2 : decode cX5_isRule 2 = .ok (.if_icmp .eq 8, 3) := by decide +kernel
theorem dX5_isRule_5 : decode cX5_isRule 5 = .ok (.iload_n 0, 1) := by decide +kernel
theorem dX5_isRule_6 : decode cX5_isRule 6 = .ok (.iconst 2, 1) := by decide +kernel
theorem dX5_isRule_7 : decode cX5_isRule 7 = .ok (.if_icmp .ne 7, 3) := by decide +kernel
theorem dX5_isRule_10 : decode cX5_isRule 10 = .ok (.iconst 1, 1) := by decide +kernel
theorem dX5_isRule_11 : decode cX5_isRule 11 = .ok (.goto 4, 3) := by decide +kernel
theorem dX5_isRule_14 : decode cX5_isRule 14 = .ok (.iconst 0, 1) := by decide +kernel
theorem dX5_isRule_15 : decode cX5_isRule 15 = .ok (.ireturn, 1) := by decide +kernel
theorem dX5_isSo_0 : decode cX5_isSo 0 = .ok (.iload_n 1, 1) := by decide +kernel
theorem dX5_isSo_1 : decode cX5_isSo 1 = .ok (.iload_n 0, 1) := by decide +kernel
theorem dX5_isSo_2 : decode cX5_isSo 2 = .ok (.iconst 1, 1) := by decide +kernel
theorem dX5_isSo_3 : decode cX5_isSo 3 = .ok (.ishr, 1) := by decide +kernel
theorem dX5_isSo_4 : decode cX5_isSo 4 = .ok (.ishr, 1) := by decide +kernel
theorem dX5_isSo_5 : decode cX5_isSo 5 = .ok (.iload_n 0, 1) := by decide +kernel
theorem dX5_isSo_6 : decode cX5_isSo 6 = .ok (.ixor, 1) := by decide +kernel
theorem dX5_isSo_7 : decode cX5_isSo 7 = .ok (.iconst 1, 1) := by decide +kernel
theorem dX5_isSo_8 : decode cX5_isSo 8 = .ok (.iand, 1) := by decide +kernel
theorem dX5_isSo_9 : decode cX5_isSo 9 = .ok (.iconst 1, 1) := by decide +kernel
theorem dX5_isSo_10 : decode cX5_isSo 10 = .ok (.if_icmp .ne 7, 3) := by decide +kernel
theorem dX5_isSo_13 : decode cX5_isSo 13 = .ok (.iconst 1, 1) := by decide +kernel
theorem dX5_isSo_14 : decode cX5_isSo 14 = .ok (.goto 4, 3) := by decide +kernel
theorem dX5_isSo_17 : decode cX5_isSo 17 = .ok (.iconst 0, 1) := by decide +kernel
theorem dX5_isSo_18 : decode cX5_isSo 18 = .ok (.ireturn, 1) := by decide +kernel
theorem dX5_trueSaying_0 : decode cX5_trueSaying 0 = .ok (.iconst 2, 1) := by decide +kernel
theorem dX5_trueSaying_1 : decode cX5_trueSaying 1 = .ok (.iload_n 0, 1) := by decide +kernel
theorem dX5_trueSaying_2 : decode cX5_trueSaying 2 = .ok (.imul, 1) := by decide +kernel
theorem dX5_trueSaying_3 : decode cX5_trueSaying 3 = .ok (.iload_n 1, 1) := by decide +kernel
theorem dX5_trueSaying_4 : decode cX5_trueSaying 4 = .ok (.invokestatic 128, 3) := by decide +kernel
theorem dX5_trueSaying_7 : decode cX5_trueSaying 7 = .ok (.ifCond .eq 9, 3) := by decide +kernel
theorem dX5_trueSaying_10 : decode cX5_trueSaying 10 = .ok (.iconst 2, 1) := by decide +kernel
theorem dX5_trueSaying_11 : decode cX5_trueSaying 11 = .ok (.iload_n 0, 1) := by decide +kernel
theorem dX5_trueSaying_12 : decode cX5_trueSaying 12 = .ok (.imul, 1) := by decide +kernel
theorem dX5_trueSaying_13 : decode cX5_trueSaying 13 = .ok (.goto 8, 3) := by decide +kernel
theorem dX5_trueSaying_16 : decode cX5_trueSaying 16 = .ok (.iconst 2, 1) := by decide +kernel
theorem dX5_trueSaying_17 : decode cX5_trueSaying 17 = .ok (.iload_n 0, 1) := by decide +kernel
theorem dX5_trueSaying_18 : decode cX5_trueSaying 18 = .ok (.imul, 1) := by decide +kernel
theorem dX5_trueSaying_19 : decode cX5_trueSaying 19 = .ok (.iconst 1, 1) := by decide +kernel
theorem dX5_trueSaying_20 : decode cX5_trueSaying 20 = .ok (.iadd, 1) := by decide +kernel
theorem dX5_trueSaying_21 : decode cX5_trueSaying 21 = .ok (.ireturn, 1) := by decide +kernel
theorem dX5_opposite_0 : decode cX5_opposite 0 = .ok (.iload_n 0, 1) := by decide +kernel
theorem dX5_opposite_1 : decode cX5_opposite 1 = .ok (.iconst 1, 1) := by decide +kernel
theorem dX5_opposite_2 : decode cX5_opposite 2 = .ok (.ixor, 1) := by decide +kernel
theorem dX5_opposite_3 : decode cX5_opposite 3 = .ok (.ireturn, 1) := by decide +kernel
theorem dX5_commonDivisor_0 : decode cX5_commonDivisor 0 = .ok (.lload_n 0, 1) := by decide +kernel
theorem dX5_commonDivisor_1 : decode cX5_commonDivisor 1 = .ok (.lstore 4, 2) := by decide +kernel
theorem dX5_commonDivisor_3 : decode cX5_commonDivisor 3 = .ok (.lload_n 2, 1) := by decide +kernel
theorem dX5_commonDivisor_4 : decode cX5_commonDivisor 4 = .ok (.lstore 6, 2) := by decide +kernel
theorem dX5_commonDivisor_6 : decode cX5_commonDivisor 6 = .ok (.iconst 0, 1) := by decide +kernel
theorem dX5_commonDivisor_7 : decode cX5_commonDivisor 7 = .ok (.istore 8, 2) := by decide +kernel
theorem dX5_commonDivisor_9 : decode cX5_commonDivisor 9 = .ok (.iload 8, 2) := by decide +kernel
theorem dX5_commonDivisor_11 : decode cX5_commonDivisor 11 = .ok (.sipush 1000, 3) := by decide +kernel
theorem dX5_commonDivisor_14 : decode cX5_commonDivisor 14 = .ok (.if_icmp .ge 31, 3) := by decide +kernel
theorem dX5_commonDivisor_17 : decode cX5_commonDivisor 17 = .ok (.lload 6, 2) := by decide +kernel
theorem dX5_commonDivisor_19 : decode cX5_commonDivisor 19 = .ok (.lconst 0, 1) := by decide +kernel
theorem dX5_commonDivisor_20 : decode cX5_commonDivisor 20 = .ok (.lcmp, 1) := by decide +kernel
theorem dX5_commonDivisor_21 : decode cX5_commonDivisor 21 = .ok (.ifCond .eq 24, 3) := by decide +kernel
theorem dX5_commonDivisor_24 : decode cX5_commonDivisor 24 = .ok (.lload 4, 2) := by decide +kernel
theorem dX5_commonDivisor_26 : decode cX5_commonDivisor 26 = .ok (.lload 6, 2) := by decide +kernel
theorem dX5_commonDivisor_28 : decode cX5_commonDivisor 28 = .ok (.lrem, 1) := by decide +kernel
theorem dX5_commonDivisor_29 : decode cX5_commonDivisor 29 = .ok (.lstore 9, 2) := by decide +kernel
theorem dX5_commonDivisor_31 : decode cX5_commonDivisor 31 = .ok (.lload 6, 2) := by decide +kernel
theorem dX5_commonDivisor_33 : decode cX5_commonDivisor 33 = .ok (.lstore 4, 2) := by decide +kernel
theorem dX5_commonDivisor_35 : decode cX5_commonDivisor 35 = .ok (.lload 9, 2) := by decide +kernel
theorem dX5_commonDivisor_37 : decode cX5_commonDivisor 37 = .ok (.lstore 6, 2) := by decide +kernel
theorem dX5_commonDivisor_39 : decode cX5_commonDivisor 39 = .ok (.iinc 8 1, 3) := by decide +kernel
theorem dX5_commonDivisor_42 : decode cX5_commonDivisor 42 = .ok (.goto (-33), 3) := by decide +kernel
theorem dX5_commonDivisor_45 : decode cX5_commonDivisor 45 = .ok (.lload 4, 2) := by decide +kernel
theorem dX5_commonDivisor_47 : decode cX5_commonDivisor 47 = .ok (.lreturn, 1) := by decide +kernel
theorem dX5_draw_0 : decode cX5_draw 0 = .ok (.ldc2_w 269, 3) := by decide +kernel
theorem dX5_draw_3 : decode cX5_draw 3 = .ok (.iload_n 0, 1) := by decide +kernel
theorem dX5_draw_4 : decode cX5_draw 4 = .ok (.i2l, 1) := by decide +kernel
theorem dX5_draw_5 : decode cX5_draw 5 = .ok (.lmul, 1) := by decide +kernel
theorem dX5_draw_6 : decode cX5_draw 6 = .ok (.ldc2_w 271, 3) := by decide +kernel
theorem dX5_draw_9 : decode cX5_draw 9 = .ok (.iload_n 1, 1) := by decide +kernel
theorem dX5_draw_10 : decode cX5_draw 10 = .ok (.i2l, 1) := by decide +kernel
theorem dX5_draw_11 : decode cX5_draw 11 = .ok (.lmul, 1) := by decide +kernel
theorem dX5_draw_12 : decode cX5_draw 12 = .ok (.ladd, 1) := by decide +kernel
theorem dX5_draw_13 : decode cX5_draw 13 = .ok (.lconst 1, 1) := by decide +kernel
theorem dX5_draw_14 : decode cX5_draw 14 = .ok (.ladd, 1) := by decide +kernel
theorem dX5_draw_15 : decode cX5_draw 15 = .ok (.lstore_n 2, 1) := by decide +kernel
theorem dX5_draw_16 : decode cX5_draw 16 = .ok (.lload_n 2, 1) := by decide +kernel
theorem dX5_draw_17 : decode cX5_draw 17 = .ok (.lload_n 2, 1) := by decide +kernel
theorem dX5_draw_18 : decode cX5_draw 18 = .ok (.lmul, 1) := by decide +kernel
theorem dX5_draw_19 : decode cX5_draw 19 = .ok (.ldc2_w 273, 3) := by decide +kernel
theorem dX5_draw_22 : decode cX5_draw 22 = .ok (.lrem, 1) := by decide +kernel
theorem dX5_draw_23 : decode cX5_draw 23 = .ok (.l2i, 1) := by decide +kernel
theorem dX5_draw_24 : decode cX5_draw 24 = .ok (.ireturn, 1) := by decide +kernel
theorem dX5_rightFrom_0 : decode cX5_rightFrom 0 = .ok (.aload_n 0, 1) := by decide +kernel
theorem dX5_rightFrom_1 : decode cX5_rightFrom 1 = .ok (.getfield 41, 3) := by decide +kernel
theorem dX5_rightFrom_4 : decode cX5_rightFrom 4 = .ok (.iload_n 1, 1) := by decide +kernel
theorem dX5_rightFrom_5 : decode cX5_rightFrom 5 = .ok (.invokevirtual 184, 3) := by decide +kernel
theorem dX5_rightFrom_8 : decode cX5_rightFrom 8 = .ok (.aload_n 0, 1) := by decide +kernel
theorem dX5_rightFrom_9 : decode cX5_rightFrom 9 = .ok (.getfield 41, 3) := by decide +kernel
theorem dX5_rightFrom_12 : decode cX5_rightFrom 12 = .ok (.aload_n 0, 1) := by decide +kernel
theorem dX5_rightFrom_13 : decode cX5_rightFrom 13 = .ok (.getfield 31, 3) := by decide +kernel
theorem dX5_rightFrom_16 : decode cX5_rightFrom 16 = .ok (.getfield 125, 3) := by decide +kernel
theorem dX5_rightFrom_19 : decode cX5_rightFrom 19 = .ok (.invokevirtual 275, 3) := by decide +kernel
theorem dX5_rightFrom_22 : decode cX5_rightFrom 22 = .ok (.iand, 1) := by decide +kernel
theorem dX5_rightFrom_23 : decode cX5_rightFrom 23 = .ok (.invokestatic 139, 3) := by decide +kernel
theorem dX5_rightFrom_26 : decode cX5_rightFrom 26 = .ok (.ireturn, 1) := by decide +kernel
theorem dX5_wrongFrom_0 : decode cX5_wrongFrom 0 = .ok (.aload_n 0, 1) := by decide +kernel
theorem dX5_wrongFrom_1 : decode cX5_wrongFrom 1 = .ok (.getfield 41, 3) := by decide +kernel
theorem dX5_wrongFrom_4 : decode cX5_wrongFrom 4 = .ok (.iload_n 2, 1) := by decide +kernel
theorem dX5_wrongFrom_5 : decode cX5_wrongFrom 5 = .ok (.invokevirtual 184, 3) := by decide +kernel
theorem dX5_wrongFrom_8 : decode cX5_wrongFrom 8 = .ok (.aload_n 0, 1) := by decide +kernel
theorem dX5_wrongFrom_9 : decode cX5_wrongFrom 9 = .ok (.getfield 41, 3) := by decide +kernel
theorem dX5_wrongFrom_12 : decode cX5_wrongFrom 12 = .ok (.aload_n 1, 1) := by decide +kernel
theorem dX5_wrongFrom_13 : decode cX5_wrongFrom 13 = .ok (.getfield 125, 3) := by decide +kernel
theorem dX5_wrongFrom_16 : decode cX5_wrongFrom 16 = .ok (.invokevirtual 275, 3) := by decide +kernel
theorem dX5_wrongFrom_19 : decode cX5_wrongFrom 19 = .ok (.iconst (-1), 1) := by decide +kernel
theorem dX5_wrongFrom_20 : decode cX5_wrongFrom 20 = .ok (.ixor, 1) := by decide +kernel
theorem dX5_wrongFrom_21 : decode cX5_wrongFrom 21 = .ok (.iand, 1) := by decide +kernel
theorem dX5_wrongFrom_22 : decode cX5_wrongFrom 22 = .ok (.invokestatic 139, 3) := by decide +kernel
theorem dX5_wrongFrom_25 : decode cX5_wrongFrom 25 = .ok (.ireturn, 1) := by decide +kernel
theorem dX5_leastFor_0 : decode cX5_leastFor 0 = .ok (.iconst 0, 1) := by decide +kernel
theorem dX5_leastFor_1 : decode cX5_leastFor 1 = .ok (.istore_n 2, 1) := by decide +kernel
theorem dX5_leastFor_2 : decode cX5_leastFor 2 = .ok (.iload_n 2, 1) := by decide +kernel
theorem dX5_leastFor_3 : decode cX5_leastFor 3 = .ok (.aload_n 0, 1) := by decide +kernel
theorem dX5_leastFor_4 : decode cX5_leastFor 4 = .ok (.getfield 41, 3) := by decide +kernel
theorem dX5_leastFor_7 : decode cX5_leastFor 7 = .ok (.getfield 249, 3) := by decide +kernel
theorem dX5_leastFor_10 : decode cX5_leastFor 10 = .ok (.if_icmp .ge 57, 3) := by decide +kernel
theorem dX5_leastFor_13 : decode cX5_leastFor 13 = .ok (.iconst 0, 1) := by decide +kernel
theorem dX5_leastFor_14 : decode cX5_leastFor 14 = .ok (.istore_n 3, 1) := by decide +kernel
theorem dX5_leastFor_15 : decode cX5_leastFor 15 = .ok (.iload_n 3, 1) := by decide +kernel
theorem dX5_leastFor_16 : decode cX5_leastFor 16 = .ok (.aload_n 0, 1) := by decide +kernel
theorem dX5_leastFor_17 : decode cX5_leastFor 17 = .ok (.getfield 41, 3) := by decide +kernel
theorem dX5_leastFor_20 : decode cX5_leastFor 20 = .ok (.invokevirtual 278, 3) := by decide +kernel
theorem dX5_leastFor_23 : decode cX5_leastFor 23 = .ok (.if_icmp .gt 38, 3) := by decide +kernel
theorem dX5_leastFor_26 : decode cX5_leastFor 26 = .ok (.iload_n 3, 1) := by decide +kernel
theorem dX5_leastFor_27 : decode cX5_leastFor 27 = .ok (.invokestatic 139, 3) := by decide +kernel
theorem dX5_leastFor_30 : decode cX5_leastFor 30 = .ok (.iload_n 2, 1) := by decide +kernel
theorem dX5_leastFor_31 : decode cX5_leastFor 31 = .ok (.if_icmp .ne 24, 3) := by decide +kernel
theorem dX5_leastFor_34 : decode cX5_leastFor 34 = .ok (.aload_n 0, 1) := by decide +kernel
theorem dX5_leastFor_35 : decode cX5_leastFor 35 = .ok (.getfield 41, 3) := by decide +kernel
theorem dX5_leastFor_38 : decode cX5_leastFor 38 = .ok (.iload_n 3, 1) := by decide +kernel
theorem dX5_leastFor_39 : decode cX5_leastFor 39 = .ok (.iload_n 1, 1) := by decide +kernel
theorem dX5_leastFor_40 : decode cX5_leastFor 40 = .ok (.aload_n 0, 1) := by decide +kernel
theorem dX5_leastFor_41 : decode cX5_leastFor 41 = .ok (.getfield 31, 3) := by decide +kernel
theorem dX5_leastFor_44 : decode cX5_leastFor 44 = .ok (.getfield 125, 3) := by decide +kernel
theorem dX5_leastFor_47 : decode cX5_leastFor 47 = .ok (.invokevirtual 281, 3) := by decide +kernel
theorem dX5_leastFor_50 : decode cX5_leastFor 50 = .ok (.ifCond .eq 5, 3) := by decide +kernel
theorem dX5_leastFor_53 : decode cX5_leastFor 53 = .ok (.iload_n 3, 1) := by decide +kernel
theorem dX5_leastFor_54 : decode cX5_leastFor 54 = .ok (.ireturn, 1) := by decide +kernel
theorem dX5_leastFor_55 : decode cX5_leastFor 55 = .ok (.iinc 3 1, 3) := by decide +kernel
theorem dX5_leastFor_58 : decode cX5_leastFor 58 = .ok (.goto (-43), 3) := by decide +kernel
theorem dX5_leastFor_61 : decode cX5_leastFor 61 = .ok (.iinc 2 1, 3) := by decide +kernel
theorem dX5_leastFor_64 : decode cX5_leastFor 64 = .ok (.goto (-62), 3) := by decide +kernel
theorem dX5_leastFor_67 : decode cX5_leastFor 67 = .ok (.aload_n 0, 1) := by decide +kernel
theorem dX5_leastFor_68 : decode cX5_leastFor 68 = .ok (.getfield 41, 3) := by decide +kernel
theorem dX5_leastFor_71 : decode cX5_leastFor 71 = .ok (.invokevirtual 278, 3) := by decide +kernel
theorem dX5_leastFor_74 : decode cX5_leastFor 74 = .ok (.ireturn, 1) := by decide +kernel
theorem dX5_bestLie_0 : decode cX5_bestLie 0 = .ok (.aload_n 0, 1) := by decide +kernel
theorem dX5_bestLie_1 : decode cX5_bestLie 1 = .ok (.getfield 31, 3) := by decide +kernel
theorem dX5_bestLie_4 : decode cX5_bestLie 4 = .ok (.aload_n 0, 1) := by decide +kernel
theorem dX5_bestLie_5 : decode cX5_bestLie 5 = .ok (.getfield 41, 3) := by decide +kernel
theorem dX5_bestLie_8 : decode cX5_bestLie 8 = .ok (.iload_n 2, 1) := by decide +kernel
theorem dX5_bestLie_9 : decode cX5_bestLie 9 = .ok (.invokevirtual 181, 3) := by decide +kernel
theorem dX5_bestLie_12 : decode cX5_bestLie 12 = .ok (.istore_n 3, 1) := by decide +kernel
theorem dX5_bestLie_13 : decode cX5_bestLie 13 = .ok (.aload_n 0, 1) := by decide +kernel
theorem dX5_bestLie_14 : decode cX5_bestLie 14 = .ok (.aload_n 0, 1) := by decide +kernel
theorem dX5_bestLie_15 : decode cX5_bestLie 15 = .ok (.getfield 31, 3) := by decide +kernel
theorem dX5_bestLie_18 : decode cX5_bestLie 18 = .ok (.iload_n 3, 1) := by decide +kernel
theorem dX5_bestLie_19 : decode cX5_bestLie 19 = .ok (.invokevirtual 193, 3) := by decide +kernel
theorem dX5_bestLie_22 : decode cX5_bestLie 22 = .ok (.istore 4, 2) := by decide +kernel
theorem dX5_bestLie_24 : decode cX5_bestLie 24 = .ok (.bipush (-4), 2) := by decide +kernel
theorem dX5_bestLie_26 : decode cX5_bestLie 26 = .ok (.istore 5, 2) := by decide +kernel
theorem dX5_bestLie_28 : decode cX5_bestLie 28 = .ok (.iconst 0, 1) := by decide +kernel
theorem dX5_bestLie_29 : decode cX5_bestLie 29 = .ok (.istore 6, 2) := by decide +kernel
theorem dX5_bestLie_31 : decode cX5_bestLie 31 = .ok (.iload 6, 2) := by decide +kernel
theorem dX5_bestLie_33 : decode cX5_bestLie 33 = .ok (.aload_n 0, 1) := by decide +kernel
theorem dX5_bestLie_34 : decode cX5_bestLie 34 = .ok (.getfield 41, 3) := by decide +kernel
theorem dX5_bestLie_37 : decode cX5_bestLie 37 = .ok (.getfield 249, 3) := by decide +kernel
theorem dX5_bestLie_40 : decode cX5_bestLie 40 = .ok (.if_icmp .ge 52, 3) := by decide +kernel
theorem dX5_bestLie_43 : decode cX5_bestLie 43 = .ok (.iload 6, 2) := by decide +kernel
theorem dX5_bestLie_45 : decode cX5_bestLie 45 = .ok (.aload_n 0, 1) := by decide +kernel
theorem dX5_bestLie_46 : decode cX5_bestLie 46 = .ok (.getfield 31, 3) := by decide +kernel
theorem dX5_bestLie_49 : decode cX5_bestLie 49 = .ok (.getfield 125, 3) := by decide +kernel
theorem dX5_bestLie_52 : decode cX5_bestLie 52 = .ok (.invokestatic 159, 3) := by decide +kernel
theorem dX5_bestLie_55 : decode cX5_bestLie 55 = .ok (.invokestatic 162, 3) := by decide +kernel
theorem dX5_bestLie_58 : decode cX5_bestLie 58 = .ok (.istore 7, 2) := by decide +kernel
theorem dX5_bestLie_60 : decode cX5_bestLie 60 = .ok (.aload_n 0, 1) := by decide +kernel
theorem dX5_bestLie_61 : decode cX5_bestLie 61 = .ok (.iload_n 1, 1) := by decide +kernel
theorem dX5_bestLie_62 : decode cX5_bestLie 62 = .ok (.iload_n 2, 1) := by decide +kernel
theorem dX5_bestLie_63 : decode cX5_bestLie 63 = .ok (.iload 7, 2) := by decide +kernel
theorem dX5_bestLie_65 : decode cX5_bestLie 65 = .ok (.iload_n 3, 1) := by decide +kernel
theorem dX5_bestLie_66 : decode cX5_bestLie 66 = .ok (.invokevirtual 230, 3) := by decide +kernel
theorem dX5_bestLie_69 : decode cX5_bestLie 69 = .ok (.istore 8, 2) := by decide +kernel
theorem dX5_bestLie_71 : decode cX5_bestLie 71 = .ok (.iload 8, 2) := by decide +kernel
theorem dX5_bestLie_73 : decode cX5_bestLie 73 = .ok (.iload 4, 2) := by decide +kernel
theorem dX5_bestLie_75 : decode cX5_bestLie 75 = .ok (.if_icmp .le 11, 3) := by decide +kernel
theorem dX5_bestLie_78 : decode cX5_bestLie 78 = .ok (.iload 8, 2) := by decide +kernel
theorem dX5_bestLie_80 : decode cX5_bestLie 80 = .ok (.istore 4, 2) := by decide +kernel
theorem dX5_bestLie_82 : decode cX5_bestLie 82 = .ok (.iload 7, 2) := by decide +kernel
theorem dX5_bestLie_84 : decode cX5_bestLie 84 = .ok (.istore 5, 2) := by decide +kernel
theorem dX5_bestLie_86 : decode cX5_bestLie 86 = .ok (.iinc 6 1, 3) := by decide +kernel
theorem dX5_bestLie_89 : decode cX5_bestLie 89 = .ok (.goto (-58), 3) := by decide +kernel
theorem dX5_bestLie_92 : decode cX5_bestLie 92 = .ok (.iload 5, 2) := by decide +kernel
theorem dX5_bestLie_94 : decode cX5_bestLie 94 = .ok (.ireturn, 1) := by decide +kernel
theorem dX5_wrongByLie_0 : decode cX5_wrongByLie 0 = .ok (.aload_n 0, 1) := by decide +kernel
theorem dX5_wrongByLie_1 : decode cX5_wrongByLie 1 = .ok (.getfield 31, 3) := by decide +kernel
theorem dX5_wrongByLie_4 : decode cX5_wrongByLie 4 = .ok (.aload_n 0, 1) := by decide +kernel
theorem dX5_wrongByLie_5 : decode cX5_wrongByLie 5 = .ok (.getfield 41, 3) := by decide +kernel
theorem dX5_wrongByLie_8 : decode cX5_wrongByLie 8 = .ok (.iload_n 3, 1) := by decide +kernel
theorem dX5_wrongByLie_9 : decode cX5_wrongByLie 9 = .ok (.iload_n 1, 1) := by decide +kernel
theorem dX5_wrongByLie_10 : decode cX5_wrongByLie 10 = .ok (.invokevirtual 203, 3) := by decide +kernel
theorem dX5_wrongByLie_13 : decode cX5_wrongByLie 13 = .ok (.iload_n 2, 1) := by decide +kernel
theorem dX5_wrongByLie_14 : decode cX5_wrongByLie 14 = .ok (.if_icmp .lt 7, 3) := by decide +kernel
theorem dX5_wrongByLie_17 : decode cX5_wrongByLie 17 = .ok (.iconst 1, 1) := by decide +kernel
theorem dX5_wrongByLie_18 : decode cX5_wrongByLie 18 = .ok (.goto 4, 3) := by decide +kernel
theorem dX5_wrongByLie_21 : decode cX5_wrongByLie 21 = .ok (.iconst 0, 1) := by decide +kernel
theorem dX5_wrongByLie_22 : decode cX5_wrongByLie 22 = .ok (.istore 5, 2) := by decide +kernel
theorem dX5_wrongByLie_24 : decode cX5_wrongByLie 24 = .ok (.aload_n 0, 1) := by decide +kernel
theorem dX5_wrongByLie_25 : decode cX5_wrongByLie 25 = .ok (.aload_n 0, 1) := by decide +kernel
theorem dX5_wrongByLie_26 : decode cX5_wrongByLie 26 = .ok (.getfield 31, 3) := by decide +kernel
theorem dX5_wrongByLie_29 : decode cX5_wrongByLie 29 = .ok (.iload 5, 2) := by decide +kernel
theorem dX5_wrongByLie_31 : decode cX5_wrongByLie 31 = .ok (.ifCond .eq 12, 3) := by decide +kernel
theorem dX5_wrongByLie_34 : decode cX5_wrongByLie 34 = .ok (.iload 4, 2) := by decide +kernel
theorem dX5_wrongByLie_36 : decode cX5_wrongByLie 36 = .ok (.iconst 1, 1) := by decide +kernel
theorem dX5_wrongByLie_37 : decode cX5_wrongByLie 37 = .ok (.iload_n 3, 1) := by decide +kernel
theorem dX5_wrongByLie_38 : decode cX5_wrongByLie 38 = .ok (.ishl, 1) := by decide +kernel
theorem dX5_wrongByLie_39 : decode cX5_wrongByLie 39 = .ok (.ior, 1) := by decide +kernel
theorem dX5_wrongByLie_40 : decode cX5_wrongByLie 40 = .ok (.goto 5, 3) := by decide +kernel
theorem dX5_wrongByLie_43 : decode cX5_wrongByLie 43 = .ok (.iload 4, 2) := by decide +kernel
theorem dX5_wrongByLie_45 : decode cX5_wrongByLie 45 = .ok (.invokevirtual 193, 3) := by decide +kernel
theorem dX5_wrongByLie_48 : decode cX5_wrongByLie 48 = .ok (.ireturn, 1) := by decide +kernel
theorem dX5_standingSets_0 : decode cX5_standingSets 0 = .ok (.iconst 0, 1) := by decide +kernel
theorem dX5_standingSets_1 : decode cX5_standingSets 1 = .ok (.istore_n 2, 1) := by decide +kernel
theorem dX5_standingSets_2 : decode cX5_standingSets 2 = .ok (.iconst 0, 1) := by decide +kernel
theorem dX5_standingSets_3 : decode cX5_standingSets 3 = .ok (.istore_n 3, 1) := by decide +kernel
theorem dX5_standingSets_4 : decode cX5_standingSets 4 = .ok (.iload_n 3, 1) := by decide +kernel
theorem dX5_standingSets_5 : decode cX5_standingSets 5 = .ok (.aload_n 0, 1) := by decide +kernel
theorem dX5_standingSets_6 : decode cX5_standingSets 6 = .ok (.getfield 41, 3) := by decide +kernel
theorem dX5_standingSets_9 : decode cX5_standingSets 9 = .ok (.getfield 102, 3) := by decide +kernel
theorem dX5_standingSets_12 : decode cX5_standingSets 12 = .ok (.invokevirtual 84, 3) := by decide +kernel
theorem dX5_standingSets_15 : decode cX5_standingSets 15 = .ok (.if_icmp .ge 52, 3) := by decide +kernel
theorem dX5_standingSets_18 : decode cX5_standingSets 18 = .ok (.aload_n 0, 1) := by decide +kernel
theorem dX5_standingSets_19 : decode cX5_standingSets 19 = .ok (.getfield 31, 3) := by decide +kernel
theorem dX5_standingSets_22 : decode cX5_standingSets 22 = .ok (.aload_n 0, 1) := by decide +kernel
theorem dX5_standingSets_23 : decode cX5_standingSets 23 = .ok (.getfield 41, 3) := by decide +kernel
theorem dX5_standingSets_26 : decode cX5_standingSets 26 = .ok (.getfield 102, 3) := by decide +kernel
theorem dX5_standingSets_29 : decode cX5_standingSets 29 = .ok (.iload_n 3, 1) := by decide +kernel
theorem dX5_standingSets_30 : decode cX5_standingSets 30 = .ok (.iconst 0, 1) := by decide +kernel
theorem dX5_standingSets_31 : decode cX5_standingSets 31 = .ok (.invokevirtual 111, 3) := by decide +kernel
theorem dX5_standingSets_34 : decode cX5_standingSets 34 = .ok (.invokevirtual 237, 3) := by decide +kernel
theorem dX5_standingSets_37 : decode cX5_standingSets 37 = .ok (.istore 4, 2) := by decide +kernel
theorem dX5_standingSets_39 : decode cX5_standingSets 39 = .ok (.iload 4, 2) := by decide +kernel
theorem dX5_standingSets_41 : decode cX5_standingSets 41 = .ok (.invokestatic 139, 3) := by decide +kernel
theorem dX5_standingSets_44 : decode cX5_standingSets 44 = .ok (.iload_n 1, 1) := by decide +kernel
theorem dX5_standingSets_45 : decode cX5_standingSets 45 = .ok (.if_icmp .ne 16, 3) := by decide +kernel
theorem dX5_standingSets_48 : decode cX5_standingSets 48 = .ok (.aload_n 0, 1) := by decide +kernel
theorem dX5_standingSets_49 : decode cX5_standingSets 49 = .ok (.iload 4, 2) := by decide +kernel
theorem dX5_standingSets_51 : decode cX5_standingSets 51 = .ok (.iload_n 3, 1) := by decide +kernel
theorem dX5_standingSets_52 : decode cX5_standingSets 52 = .ok (.invokevirtual 284, 3) := by decide +kernel
theorem dX5_standingSets_55 : decode cX5_standingSets 55 = .ok (.ifCond .ne 6, 3) := by decide +kernel
theorem dX5_standingSets_58 : decode cX5_standingSets 58 = .ok (.iinc 2 1, 3) := by decide +kernel
theorem dX5_standingSets_61 : decode cX5_standingSets 61 = .ok (.iinc 3 1, 3) := by decide +kernel
theorem dX5_standingSets_64 : decode cX5_standingSets 64 = .ok (.goto (-60), 3) := by decide +kernel
theorem dX5_standingSets_67 : decode cX5_standingSets 67 = .ok (.iload_n 2, 1) := by decide +kernel
theorem dX5_standingSets_68 : decode cX5_standingSets 68 = .ok (.ireturn, 1) := by decide +kernel
theorem dX5_stoodBefore_0 : decode cX5_stoodBefore 0 = .ok (.iconst 0, 1) := by decide +kernel
theorem dX5_stoodBefore_1 : decode cX5_stoodBefore 1 = .ok (.istore_n 3, 1) := by decide +kernel
theorem dX5_stoodBefore_2 : decode cX5_stoodBefore 2 = .ok (.iload_n 3, 1) := by decide +kernel
theorem dX5_stoodBefore_3 : decode cX5_stoodBefore 3 = .ok (.iload_n 2, 1) := by decide +kernel
theorem dX5_stoodBefore_4 : decode cX5_stoodBefore 4 = .ok (.if_icmp .ge 34, 3) := by decide +kernel
theorem dX5_stoodBefore_7 : decode cX5_stoodBefore 7 = .ok (.aload_n 0, 1) := by decide +kernel
theorem dX5_stoodBefore_8 : decode cX5_stoodBefore 8 = .ok (.getfield 31, 3) := by decide +kernel
theorem dX5_stoodBefore_11 : decode cX5_stoodBefore 11 = .ok (.aload_n 0, 1) := by decide +kernel
theorem dX5_stoodBefore_12 : decode cX5_stoodBefore 12 = .ok (.getfield 41, 3) := by decide +kernel
theorem dX5_stoodBefore_15 : decode cX5_stoodBefore 15 = .ok (.getfield 102, 3) := by decide +kernel
theorem dX5_stoodBefore_18 : decode cX5_stoodBefore 18 = .ok (.iload_n 3, 1) := by decide +kernel
theorem dX5_stoodBefore_19 : decode cX5_stoodBefore 19 = .ok (.iconst 0, 1) := by decide +kernel
theorem dX5_stoodBefore_20 : decode cX5_stoodBefore 20 = .ok (.invokevirtual 111, 3) := by decide +kernel
theorem dX5_stoodBefore_23 : decode cX5_stoodBefore 23 = .ok (.invokevirtual 237, 3) := by decide +kernel
theorem dX5_stoodBefore_26 : decode cX5_stoodBefore 26 = .ok (.iload_n 1, 1) := by decide +kernel
theorem dX5_stoodBefore_27 : decode cX5_stoodBefore 27 = .ok (.if_icmp .ne 5, 3) := by decide +kernel
theorem dX5_stoodBefore_30 : decode cX5_stoodBefore 30 = .ok (.iconst 1, 1) := by decide +kernel
theorem dX5_stoodBefore_31 : decode cX5_stoodBefore 31 = .ok (.ireturn, 1) := by decide +kernel
theorem dX5_stoodBefore_32 : decode cX5_stoodBefore 32 = .ok (.iinc 3 1, 3) := by decide +kernel
theorem dX5_stoodBefore_35 : decode cX5_stoodBefore 35 = .ok (.goto (-33), 3) := by decide +kernel
theorem dX5_stoodBefore_38 : decode cX5_stoodBefore 38 = .ok (.iconst 0, 1) := by decide +kernel
theorem dX5_stoodBefore_39 : decode cX5_stoodBefore 39 = .ok (.ireturn, 1) := by decide +kernel
theorem dX6_init_0 : decode cX6_init 0 = .ok (.aload_n 0, 1) := by decide +kernel
theorem dX6_init_1 : decode cX6_init 1 = .ok (.invokespecial 1, 3) := by decide +kernel
theorem dX6_init_4 : decode cX6_init 4 = .ok (.aload_n 0, 1) := by decide +kernel
theorem dX6_init_5 : decode cX6_init 5 = .ok (.sipush 200, 3) := by decide +kernel
theorem dX6_init_8 : decode cX6_init 8 = .ok (.newarray .byte, 2) := by decide +kernel
theorem dX6_init_10 : decode cX6_init 10 = .ok (.putfield 7, 3) := by decide +kernel
theorem dX6_init_13 : decode cX6_init 13 = .ok (.aload_n 0, 1) := by decide +kernel
theorem dX6_init_14 : decode cX6_init 14 = .ok (.bipush 14, 2) := by decide +kernel
theorem dX6_init_16 : decode cX6_init 16 = .ok (.newarray .int, 2) := by decide +kernel
theorem dX6_init_18 : decode cX6_init 18 = .ok (.putfield 13, 3) := by decide +kernel
theorem dX6_init_21 : decode cX6_init 21 = .ok (.aload_n 0, 1) := by decide +kernel
theorem dX6_init_22 : decode cX6_init 22 = .ok (.bipush 40, 2) := by decide +kernel
theorem dX6_init_24 : decode cX6_init 24 = .ok (.newarray .int, 2) := by decide +kernel
theorem dX6_init_26 : decode cX6_init 26 = .ok (.putfield 17, 3) := by decide +kernel
theorem dX6_init_29 : decode cX6_init 29 = .ok (.aload_n 0, 1) := by decide +kernel
theorem dX6_init_30 : decode cX6_init 30 = .ok (.bipush 20, 2) := by decide +kernel
theorem dX6_init_32 : decode cX6_init 32 = .ok (.newarray .int, 2) := by decide +kernel
theorem dX6_init_34 : decode cX6_init 34 = .ok (.putfield 20, 3) := by decide +kernel
theorem dX6_init_37 : decode cX6_init 37 = .ok (.aload_n 0, 1) := by decide +kernel
theorem dX6_init_38 : decode cX6_init 38 = .ok (.bipush 30, 2) := by decide +kernel
theorem dX6_init_40 : decode cX6_init 40 = .ok (.newarray .int, 2) := by decide +kernel
theorem dX6_init_42 : decode cX6_init 42 = .ok (.putfield 23, 3) := by decide +kernel
theorem dX6_init_45 : decode cX6_init 45 = .ok (.aload_n 0, 1) := by decide +kernel
theorem dX6_init_46 : decode cX6_init 46 = .ok (.bipush 36, 2) := by decide +kernel
theorem dX6_init_48 : decode cX6_init 48 = .ok (.newarray .int, 2) := by decide +kernel
theorem dX6_init_50 : decode cX6_init 50 = .ok (.putfield 26, 3) := by decide +kernel
theorem dX6_init_53 : decode cX6_init 53 = .ok (.aload_n 0, 1) := by decide +kernel
theorem dX6_init_54 : decode cX6_init 54 = .ok (.sipush 256, 3) := by decide +kernel
theorem dX6_init_57 : decode cX6_init 57 = .ok (.newarray .boolean, 2) := by decide +kernel
theorem dX6_init_59 : decode cX6_init 59 = .ok (.putfield 29, 3) := by decide +kernel
theorem dX6_init_62 : decode cX6_init 62 = .ok (.aload_n 0, 1) := by decide +kernel
theorem dX6_init_63 : decode cX6_init 63 = .ok (.sipush 672, 3) := by decide +kernel
theorem dX6_init_66 : decode cX6_init 66 = .ok (.newarray .int, 2) := by decide +kernel
theorem dX6_init_68 : decode cX6_init 68 = .ok (.putfield 33, 3) := by decide +kernel
theorem dX6_init_71 : decode cX6_init 71 = .ok (.aload_n 0, 1) := by decide +kernel
theorem dX6_init_72 : decode cX6_init 72 = .ok (.iconst 3, 1) := by decide +kernel
theorem dX6_init_73 : decode cX6_init 73 = .ok (.newarray .int, 2) := by decide +kernel
theorem dX6_init_75 : decode cX6_init 75 = .ok (.putfield 36, 3) := by decide +kernel
theorem dX6_init_78 : decode cX6_init 78 = .ok (.aload_n 0, 1) := by decide +kernel
theorem dX6_init_79 : decode cX6_init 79 = .ok (.bipush 6, 2) := by decide +kernel
theorem dX6_init_81 : decode cX6_init 81 = .ok (.newarray .int, 2) := by decide +kernel
theorem dX6_init_83 : decode cX6_init 83 = .ok (.putfield 39, 3) := by decide +kernel
theorem dX6_init_86 : decode cX6_init 86 = .ok (.aload_n 0, 1) := by decide +kernel
theorem dX6_init_87 : decode cX6_init 87 = .ok (.invokevirtual 42, 3) := by decide +kernel
theorem dX6_init_90 : decode cX6_init 90 = .ok (.aload_n 0, 1) := by decide +kernel
theorem dX6_init_91 : decode cX6_init 91 = .ok (.getfield 13, 3) := by decide +kernel
theorem dX6_init_94 : decode cX6_init 94 = .ok (.bipush 7, 2) := by decide +kernel
theorem dX6_init_96 : decode cX6_init 96 = .ok (.iconst 3, 1) := by decide +kernel
theorem dX6_init_97 : decode cX6_init 97 = .ok (.iastore, 1) := by decide +kernel
theorem dX6_init_98 : decode cX6_init 98 = .ok (.aload_n 0, 1) := by decide +kernel
theorem dX6_init_99 : decode cX6_init 99 = .ok (.getfield 13, 3) := by decide +kernel
theorem dX6_init_102 : decode cX6_init 102 = .ok (.bipush 8, 2) := by decide +kernel
theorem dX6_init_104 : decode cX6_init 104 = .ok (.iconst 2, 1) := by decide +kernel
theorem dX6_init_105 : decode cX6_init 105 = .ok (.iastore, 1) := by decide +kernel
theorem dX6_init_106 : decode cX6_init 106 = .ok (.aload_n 0, 1) := by decide +kernel
theorem dX6_init_107 : decode cX6_init 107 = .ok (.getfield 17, 3) := by decide +kernel
theorem dX6_init_110 : decode cX6_init 110 = .ok (.bipush 20, 2) := by decide +kernel
theorem dX6_init_112 : decode cX6_init 112 = .ok (.iconst 0, 1) := by decide +kernel
theorem dX6_init_113 : decode cX6_init 113 = .ok (.iastore, 1) := by decide +kernel
theorem dX6_init_114 : decode cX6_init 114 = .ok (.aload_n 0, 1) := by decide +kernel
theorem dX6_init_115 : decode cX6_init 115 = .ok (.getfield 17, 3) := by decide +kernel
theorem dX6_init_118 : decode cX6_init 118 = .ok (.bipush 21, 2) := by decide +kernel
theorem dX6_init_120 : decode cX6_init 120 = .ok (.iconst 2, 1) := by decide +kernel
theorem dX6_init_121 : decode cX6_init 121 = .ok (.iastore, 1) := by decide +kernel
theorem dX6_init_122 : decode cX6_init 122 = .ok (.aload_n 0, 1) := by decide +kernel
theorem dX6_init_123 : decode cX6_init 123 = .ok (.getfield 17, 3) := by decide +kernel
theorem dX6_init_126 : decode cX6_init 126 = .ok (.bipush 22, 2) := by decide +kernel
theorem dX6_init_128 : decode cX6_init 128 = .ok (.iconst 4, 1) := by decide +kernel
theorem dX6_init_129 : decode cX6_init 129 = .ok (.iastore, 1) := by decide +kernel
theorem dX6_init_130 : decode cX6_init 130 = .ok (.aload_n 0, 1) := by decide +kernel
theorem dX6_init_131 : decode cX6_init 131 = .ok (.getfield 17, 3) := by decide +kernel
theorem dX6_init_134 : decode cX6_init 134 = .ok (.bipush 23, 2) := by decide +kernel
theorem dX6_init_136 : decode cX6_init 136 = .ok (.iconst 1, 1) := by decide +kernel
theorem dX6_init_137 : decode cX6_init 137 = .ok (.iastore, 1) := by decide +kernel
theorem dX6_init_138 : decode cX6_init 138 = .ok (.aload_n 0, 1) := by decide +kernel
theorem dX6_init_139 : decode cX6_init 139 = .ok (.getfield 13, 3) := by decide +kernel
theorem dX6_init_142 : decode cX6_init 142 = .ok (.bipush 12, 2) := by decide +kernel
theorem dX6_init_144 : decode cX6_init 144 = .ok (.iconst 3, 1) := by decide +kernel
theorem dX6_init_145 : decode cX6_init 145 = .ok (.iastore, 1) := by decide +kernel
theorem dX6_init_146 : decode cX6_init 146 = .ok (.aload_n 0, 1) := by decide +kernel
theorem dX6_init_147 : decode cX6_init 147 = .ok (.getfield 13, 3) := by decide +kernel
theorem dX6_init_150 : decode cX6_init 150 = .ok (.bipush 9, 2) := by decide +kernel
theorem dX6_init_152 : decode cX6_init 152 = .ok (.iconst 2, 1) := by decide +kernel
theorem dX6_init_153 : decode cX6_init 153 = .ok (.iastore, 1) := by decide +kernel
theorem dX6_init_154 : decode cX6_init 154 = .ok (.aload_n 0, 1) := by decide +kernel
theorem dX6_init_155 : decode cX6_init 155 = .ok (.getfield 20, 3) := by decide +kernel
theorem dX6_init_158 : decode cX6_init 158 = .ok (.bipush 10, 2) := by decide +kernel
theorem dX6_init_160 : decode cX6_init 160 = .ok (.bipush 20, 2) := by decide +kernel
theorem dX6_init_162 : decode cX6_init 162 = .ok (.iastore, 1) := by decide +kernel
theorem dX6_init_163 : decode cX6_init 163 = .ok (.aload_n 0, 1) := by decide +kernel
theorem dX6_init_164 : decode cX6_init 164 = .ok (.getfield 20, 3) := by decide +kernel
theorem dX6_init_167 : decode cX6_init 167 = .ok (.bipush 11, 2) := by decide +kernel
theorem dX6_init_169 : decode cX6_init 169 = .ok (.iconst 1, 1) := by decide +kernel
theorem dX6_init_170 : decode cX6_init 170 = .ok (.iastore, 1) := by decide +kernel
theorem dX6_init_171 : decode cX6_init 171 = .ok (.aload_n 0, 1) := by decide +kernel
theorem dX6_init_172 : decode cX6_init 172 = .ok (.getfield 20, 3) := by decide +kernel
theorem dX6_init_175 : decode cX6_init 175 = .ok (.bipush 12, 2) := by decide +kernel
theorem dX6_init_177 : decode cX6_init 177 = .ok (.bipush 9, 2) := by decide +kernel
theorem dX6_init_179 : decode cX6_init 179 = .ok (.iastore, 1) := by decide +kernel
theorem dX6_init_180 : decode cX6_init 180 = .ok (.aload_n 0, 1) := by decide +kernel
theorem dX6_init_181 : decode cX6_init 181 = .ok (.getfield 20, 3) := by decide +kernel
theorem dX6_init_184 : decode cX6_init 184 = .ok (.bipush 13, 2) := by decide +kernel
theorem dX6_init_186 : decode cX6_init 186 = .ok (.iconst 5, 1) := by decide +kernel
theorem dX6_init_187 : decode cX6_init 187 = .ok (.iastore, 1) := by decide +kernel
theorem dX6_init_188 : decode cX6_init 188 = .ok (.aload_n 0, 1) := by decide +kernel
theorem dX6_init_189 : decode cX6_init 189 = .ok (.getfield 13, 3) := by decide +kernel
theorem dX6_init_192 : decode cX6_init 192 = .ok (.bipush 10, 2) := by decide +kernel
theorem dX6_init_194 : decode cX6_init 194 = .ok (.iconst 2, 1) := by decide +kernel
theorem dX6_init_195 : decode cX6_init 195 = .ok (.iastore, 1) := by decide +kernel
theorem dX6_init_196 : decode cX6_init 196 = .ok (.aload_n 0, 1) := by decide +kernel
theorem dX6_init_197 : decode cX6_init 197 = .ok (.getfield 23, 3) := by decide +kernel
theorem dX6_init_200 : decode cX6_init 200 = .ok (.bipush 15, 2) := by decide +kernel
theorem dX6_init_202 : decode cX6_init 202 = .ok (.iconst 3, 1) := by decide +kernel
theorem dX6_init_203 : decode cX6_init 203 = .ok (.iastore, 1) := by decide +kernel
theorem dX6_init_204 : decode cX6_init 204 = .ok (.aload_n 0, 1) := by decide +kernel
theorem dX6_init_205 : decode cX6_init 205 = .ok (.getfield 23, 3) := by decide +kernel
theorem dX6_init_208 : decode cX6_init 208 = .ok (.bipush 16, 2) := by decide +kernel
theorem dX6_init_210 : decode cX6_init 210 = .ok (.iconst 4, 1) := by decide +kernel
theorem dX6_init_211 : decode cX6_init 211 = .ok (.iastore, 1) := by decide +kernel
theorem dX6_init_212 : decode cX6_init 212 = .ok (.aload_n 0, 1) := by decide +kernel
theorem dX6_init_213 : decode cX6_init 213 = .ok (.getfield 23, 3) := by decide +kernel
theorem dX6_init_216 : decode cX6_init 216 = .ok (.bipush 17, 2) := by decide +kernel
theorem dX6_init_218 : decode cX6_init 218 = .ok (.iconst 0, 1) := by decide +kernel
theorem dX6_init_219 : decode cX6_init 219 = .ok (.iastore, 1) := by decide +kernel
theorem dX6_init_220 : decode cX6_init 220 = .ok (.aload_n 0, 1) := by decide +kernel
theorem dX6_init_221 : decode cX6_init 221 = .ok (.getfield 23, 3) := by decide +kernel
theorem dX6_init_224 : decode cX6_init 224 = .ok (.bipush 18, 2) := by decide +kernel
theorem dX6_init_226 : decode cX6_init 226 = .ok (.iconst 2, 1) := by decide +kernel
theorem dX6_init_227 : decode cX6_init 227 = .ok (.iastore, 1) := by decide +kernel
theorem dX6_init_228 : decode cX6_init 228 = .ok (.aload_n 0, 1) := by decide +kernel
theorem dX6_init_229 : decode cX6_init 229 = .ok (.getfield 23, 3) := by decide +kernel
theorem dX6_init_232 : decode cX6_init 232 = .ok (.bipush 19, 2) := by decide +kernel
theorem dX6_init_234 : decode cX6_init 234 = .ok (.iconst 2, 1) := by decide +kernel
theorem dX6_init_235 : decode cX6_init 235 = .ok (.iastore, 1) := by decide +kernel
theorem dX6_init_236 : decode cX6_init 236 = .ok (.aload_n 0, 1) := by decide +kernel
theorem dX6_init_237 : decode cX6_init 237 = .ok (.getfield 23, 3) := by decide +kernel
theorem dX6_init_240 : decode cX6_init 240 = .ok (.bipush 20, 2) := by decide +kernel
theorem dX6_init_242 : decode cX6_init 242 = .ok (.iconst 1, 1) := by decide +kernel
theorem dX6_init_243 : decode cX6_init 243 = .ok (.iastore, 1) := by decide +kernel
theorem dX6_init_244 : decode cX6_init 244 = .ok (.aload_n 0, 1) := by decide +kernel
theorem dX6_init_245 : decode cX6_init 245 = .ok (.invokevirtual 45, 3) := by decide +kernel
theorem dX6_init_248 : decode cX6_init 248 = .ok (.return_, 1) := by decide +kernel
theorem dX6_in_0 : decode cX6_in 0 = .ok (.lload_n 0, 1) := by decide +kernel
theorem dX6_in_1 : decode cX6_in 1 = .ok (.lload_n 2, 1) := by decide +kernel
theorem dX6_in_2 : decode cX6_in 2 = .ok (.lcmp, 1) := by decide +kernel
theorem dX6_in_3 : decode cX6_in 3 = .ok (.ifCond .lt 14, 3) := by decide +kernel
theorem dX6_in_6 : decode cX6_in 6 = .ok (.lload_n 0, 1) := by decide +kernel
theorem dX6_in_7 : decode cX6_in 7 = .ok (.lload 4, 2) := by decide +kernel
theorem dX6_in_9 : decode cX6_in 9 = .ok (.lcmp, 1) := by decide +kernel
theorem dX6_in_10 : decode cX6_in 10 = .ok (.ifCond .gt 7, 3) := by decide +kernel
theorem dX6_in_13 : decode cX6_in 13 = .ok (.iconst 1, 1) := by decide +kernel
theorem dX6_in_14 : decode cX6_in 14 = .ok (.goto 4, 3) := by decide +kernel
theorem dX6_in_17 : decode cX6_in 17 = .ok (.iconst 0, 1) := by decide +kernel
theorem dX6_in_18 : decode cX6_in 18 = .ok (.ireturn, 1) := by decide +kernel
theorem dX6_many_0 : decode cX6_many 0 = .ok (.iconst 0, 1) := by decide +kernel
theorem dX6_many_1 : decode cX6_many 1 = .ok (.istore_n 1, 1) := by decide +kernel
theorem dX6_many_2 : decode cX6_many 2 = .ok (.iconst 0, 1) := by decide +kernel
theorem dX6_many_3 : decode cX6_many 3 = .ok (.istore_n 2, 1) := by decide +kernel
theorem dX6_many_4 : decode cX6_many 4 = .ok (.iload_n 2, 1) := by decide +kernel
theorem dX6_many_5 : decode cX6_many 5 = .ok (.bipush 16, 2) := by decide +kernel
theorem dX6_many_7 : decode cX6_many 7 = .ok (.if_icmp .ge 17, 3) := by decide +kernel
theorem dX6_many_10 : decode cX6_many 10 = .ok (.iload_n 1, 1) := by decide +kernel
theorem dX6_many_11 : decode cX6_many 11 = .ok (.iload_n 0, 1) := by decide +kernel
theorem dX6_many_12 : decode cX6_many 12 = .ok (.iload_n 2, 1) := by decide +kernel
theorem dX6_many_13 : decode cX6_many 13 = .ok (.ishr, 1) := by decide +kernel
theorem dX6_many_14 : decode cX6_many 14 = .ok (.iconst 1, 1) := by decide +kernel
theorem dX6_many_15 : decode cX6_many 15 = .ok (.iand, 1) := by decide +kernel
theorem dX6_many_16 : decode cX6_many 16 = .ok (.iadd, 1) := by decide +kernel
theorem dX6_many_17 : decode cX6_many 17 = .ok (.istore_n 1, 1) := by decide +kernel
theorem dX6_many_18 : decode cX6_many 18 = .ok (.iinc 2 1, 3) := by decide +kernel
theorem dX6_many_21 : decode cX6_many 21 = .ok (.goto (-17), 3) := by decide +kernel
theorem dX6_many_24 : decode cX6_many 24 = .ok (.iload_n 1, 1) := by decide +kernel
theorem dX6_many_25 : decode cX6_many 25 = .ok (.ireturn, 1) := by decide +kernel
theorem dX6_write_0 : decode cX6_write 0 = .ok (.iload_n 1, 1) := by decide +kernel
theorem dX6_write_1 : decode cX6_write 1 = .ok (.i2l, 1) := by decide +kernel
theorem dX6_write_2 : decode cX6_write 2 = .ok (.ldc2_w 48, 3) := by decide +kernel
theorem dX6_write_5 : decode cX6_write 5 = .ok (.ldc2_w 50, 3) := by decide +kernel
theorem dX6_write_8 : decode cX6_write 8 = .ok (.invokestatic 52, 3) := by decide +kernel
theorem dX6_write_11 : decode cX6_write 11 = .ok (.ifCond .ne 5, 3) := by decide +kernel
theorem dX6_write_14 : decode cX6_write 14 = .ok (.iconst (-1), 1) := by decide +kernel
theorem dX6_write_15 : decode cX6_write 15 = .ok (.ireturn, 1) := by decide +kernel
theorem dX6_write_16 : decode cX6_write 16 = .ok (.aload_n 0, 1) := by decide +kernel
theorem dX6_write_17 : decode cX6_write 17 = .ok (.getfield 56, 3) := by decide +kernel
theorem dX6_write_20 : decode cX6_write 20 = .ok (.sipush 200, 3) := by decide +kernel
theorem dX6_write_23 : decode cX6_write 23 = .ok (.if_icmp .ne 6, 3) := by decide +kernel
theorem dX6_write_26 : decode cX6_write 26 = .ok (.bipush (-3), 2) := by decide +kernel
theorem dX6_write_28 : decode cX6_write 28 = .ok (.ireturn, 1) := by decide +kernel
theorem dX6_write_29 : decode cX6_write 29 = .ok (.aload_n 0, 1) := by decide +kernel
theorem dX6_write_30 : decode cX6_write 30 = .ok (.getfield 7, 3) := by decide +kernel
theorem dX6_write_33 : decode cX6_write 33 = .ok (.aload_n 0, 1) := by decide +kernel
theorem dX6_write_34 : decode cX6_write 34 = .ok (.getfield 56, 3) := by decide +kernel
theorem dX6_write_37 : decode cX6_write 37 = .ok (.iload_n 1, 1) := by decide +kernel
theorem dX6_write_38 : decode cX6_write 38 = .ok (.i2b, 1) := by decide +kernel
theorem dX6_write_39 : decode cX6_write 39 = .ok (.bastore, 1) := by decide +kernel
theorem dX6_write_40 : decode cX6_write 40 = .ok (.aload_n 0, 1) := by decide +kernel
theorem dX6_write_41 : decode cX6_write 41 = .ok (.dup, 1) := by decide +kernel
theorem dX6_write_42 : decode cX6_write 42 = .ok (.getfield 56, 3) := by decide +kernel
theorem dX6_write_45 : decode cX6_write 45 = .ok (.iconst 1, 1) := by decide +kernel
theorem dX6_write_46 : decode cX6_write 46 = .ok (.iadd, 1) := by decide +kernel
theorem dX6_write_47 : decode cX6_write 47 = .ok (.putfield 56, 3) := by decide +kernel
theorem dX6_write_50 : decode cX6_write 50 = .ok (.aload_n 0, 1) := by decide +kernel
theorem dX6_write_51 : decode cX6_write 51 = .ok (.getfield 56, 3) := by decide +kernel
theorem dX6_write_54 : decode cX6_write 54 = .ok (.ireturn, 1) := by decide +kernel
theorem dX6_wipe_0 : decode cX6_wipe 0 = .ok (.aload_n 0, 1) := by decide +kernel
theorem dX6_wipe_1 : decode cX6_wipe 1 = .ok (.getfield 56, 3) := by decide +kernel
theorem dX6_wipe_4 : decode cX6_wipe 4 = .ok (.istore_n 1, 1) := by decide +kernel
theorem dX6_wipe_5 : decode cX6_wipe 5 = .ok (.aload_n 0, 1) := by decide +kernel
theorem dX6_wipe_6 : decode cX6_wipe 6 = .ok (.iconst 0, 1) := by decide +kernel
theorem dX6_wipe_7 : decode cX6_wipe 7 = .ok (.putfield 56, 3) := by decide +kernel
theorem dX6_wipe_10 : decode cX6_wipe 10 = .ok (.iload_n 1, 1) := by decide +kernel
theorem dX6_wipe_11 : decode cX6_wipe 11 = .ok (.ireturn, 1) := by decide +kernel
theorem dX6_number_0 : decode cX6_number 0 = .ok (.iconst 0, 1) := by decide +kernel
theorem dX6_number_1 : decode cX6_number 1 = .ok (.istore_n 1, 1) := by decide +kernel
theorem dX6_number_2 : decode cX6_number 2 = .ok (.iconst 0, 1) := by decide +kernel
theorem dX6_number_3 : decode cX6_number 3 = .ok (.istore_n 2, 1) := by decide +kernel
theorem dX6_number_4 : decode cX6_number 4 = .ok (.aload_n 0, 1) := by decide +kernel
theorem dX6_number_5 : decode cX6_number 5 = .ok (.getfield 60, 3) := by decide +kernel
theorem dX6_number_8 : decode cX6_number 8 = .ok (.aload_n 0, 1) := by decide +kernel
theorem dX6_number_9 : decode cX6_number 9 = .ok (.getfield 56, 3) := by decide +kernel
theorem dX6_number_12 : decode cX6_number 12 = .ok (.if_icmp .ge 68, 3) := by decide +kernel
theorem dX6_number_15 : decode cX6_number 15 = .ok (.aload_n 0, 1) := by decide +kernel
theorem dX6_number_16 : decode cX6_number 16 = .ok (.getfield 7, 3) := by decide +kernel
theorem dX6_number_19 : decode cX6_number 19 = .ok (.aload_n 0, 1) := by decide +kernel
theorem dX6_number_20 : decode cX6_number 20 = .ok (.getfield 60, 3) := by decide +kernel
theorem dX6_number_23 : decode cX6_number 23 = .ok (.baload, 1) := by decide +kernel
theorem dX6_number_24 : decode cX6_number 24 = .ok (.i2l, 1) := by decide +kernel
theorem dX6_number_25 : decode cX6_number 25 = .ok (.ldc2_w 63, 3) := by decide +kernel
theorem dX6_number_28 : decode cX6_number 28 = .ok (.ldc2_w 65, 3) := by decide +kernel
theorem dX6_number_31 : decode cX6_number 31 = .ok (.invokestatic 52, 3) := by decide +kernel
theorem dX6_number_34 : decode cX6_number 34 = .ok (.ifCond .eq 46, 3) := by decide +kernel
theorem dX6_number_37 : decode cX6_number 37 = .ok (.iload_n 2, 1) := by decide +kernel
theorem dX6_number_38 : decode cX6_number 38 = .ok (.iconst 2, 1) := by decide +kernel
theorem dX6_number_39 : decode cX6_number 39 = .ok (.if_icmp .ge 23, 3) := by decide +kernel
theorem dX6_number_42 : decode cX6_number 42 = .ok (.bipush 10, 2) := by decide +kernel
theorem dX6_number_44 : decode cX6_number 44 = .ok (.iload_n 1, 1) := by decide +kernel
theorem dX6_number_45 : decode cX6_number 45 = .ok (.imul, 1) := by decide +kernel
theorem dX6_number_46 : decode cX6_number 46 = .ok (.aload_n 0, 1) := by decide +kernel
theorem dX6_number_47 : decode cX6_number 47 = .ok (.getfield 7, 3) := by decide +kernel
theorem dX6_number_50 : decode cX6_number 50 = .ok (.aload_n 0, 1) := by decide +kernel
theorem dX6_number_51 : decode cX6_number 51 = .ok (.getfield 60, 3) := by decide +kernel
theorem dX6_number_54 : decode cX6_number 54 = .ok (.baload, 1) := by decide +kernel
theorem dX6_number_55 : decode cX6_number 55 = .ok (.iadd, 1) := by decide +kernel
theorem dX6_number_56 : decode cX6_number 56 = .ok (.bipush 48, 2) := by decide +kernel
theorem dX6_number_58 : decode cX6_number 58 = .ok (.isub, 1) := by decide +kernel
theorem dX6_number_59 : decode cX6_number 59 = .ok (.goto 4, 3) := by decide +kernel
theorem dX6_number_62 : decode cX6_number 62 = .ok (.iload_n 1, 1) := by decide +kernel
theorem dX6_number_63 : decode cX6_number 63 = .ok (.istore_n 1, 1) := by decide +kernel
theorem dX6_number_64 : decode cX6_number 64 = .ok (.iinc 2 1, 3) := by decide +kernel
theorem dX6_number_67 : decode cX6_number 67 = .ok (.aload_n 0, 1) := by decide +kernel
theorem dX6_number_68 : decode cX6_number 68 = .ok (.dup, 1) := by decide +kernel
theorem dX6_number_69 : decode cX6_number 69 = .ok (.getfield 60, 3) := by decide +kernel
theorem dX6_number_72 : decode cX6_number 72 = .ok (.iconst 1, 1) := by decide +kernel
theorem dX6_number_73 : decode cX6_number 73 = .ok (.iadd, 1) := by decide +kernel
theorem dX6_number_74 : decode cX6_number 74 = .ok (.putfield 60, 3) := by decide +kernel
theorem dX6_number_77 : decode cX6_number 77 = .ok (.goto (-73), 3) := by decide +kernel
theorem dX6_number_80 : decode cX6_number 80 = .ok (.iload_n 2, 1) := by decide +kernel
theorem dX6_number_81 : decode cX6_number 81 = .ok (.i2l, 1) := by decide +kernel
theorem dX6_number_82 : decode cX6_number 82 = .ok (.lconst 1, 1) := by decide +kernel
theorem dX6_number_83 : decode cX6_number 83 = .ok (.ldc2_w 67, 3) := by decide +kernel
theorem dX6_number_86 : decode cX6_number 86 = .ok (.invokestatic 52, 3) := by decide +kernel
theorem dX6_number_89 : decode cX6_number 89 = .ok (.ifCond .eq 7, 3) := by decide +kernel
theorem dX6_number_92 : decode cX6_number 92 = .ok (.iload_n 1, 1) := by decide +kernel
theorem dX6_number_93 : decode cX6_number 93 = .ok (.goto 4, 3) := by decide +kernel
theorem dX6_number_96 : decode cX6_number 96 = .ok (.iconst (-1), 1) := by decide +kernel
theorem dX6_number_97 : decode cX6_number 97 = .ok (.ireturn, 1) := by decide +kernel
theorem dX6_numbers_0 : decode cX6_numbers 0 = .ok (.iload_n 0, 1) := by decide +kernel
theorem dX6_numbers_1 : decode cX6_numbers 1 = .ok (.bipush 115, 2) := by decide +kernel
theorem dX6_numbers_3 : decode cX6_numbers 3 = .ok (.if_icmp .eq 9, 3) := by decide +kernel
theorem dX6_numbers_6 : decode cX6_numbers 6 = .ok (.iload_n 0, 1) := by decide +kernel
theorem dX6_numbers_7 : decode cX6_numbers 7 = .ok (.bipush 98, 2) := by decide +kernel
theorem dX6_numbers_9 : decode cX6_numbers 9 = .ok (.if_icmp .ne 7, 3) := by decide +kernel
theorem dX6_numbers_12 : decode cX6_numbers 12 = .ok (.iconst 3, 1) := by decide +kernel
theorem dX6_numbers_13 : decode cX6_numbers 13 = .ok (.goto 36, 3) := by decide +kernel
theorem dX6_numbers_16 : decode cX6_numbers 16 = .ok (.iload_n 0, 1) := by decide +kernel
theorem dX6_numbers_17 : decode cX6_numbers 17 = .ok (.bipush 105, 2) := by decide +kernel
theorem dX6_numbers_19 : decode cX6_numbers 19 = .ok (.if_icmp .eq 9, 3) := by decide +kernel
theorem dX6_numbers_22 : decode cX6_numbers 22 = .ok (.iload_n 0, 1) := by decide +kernel
theorem dX6_numbers_23 : decode cX6_numbers 23 = .ok (.bipush 112, 2) := by decide +kernel
theorem dX6_numbers_25 : decode cX6_numbers 25 = .ok (.if_icmp .ne 7, 3) := by decide +kernel
theorem dX6_numbers_28 : decode cX6_numbers 28 = .ok (.iconst 2, 1) := by decide +kernel
theorem dX6_numbers_29 : decode cX6_numbers 29 = .ok (.goto 20, 3) := by decide +kernel
theorem dX6_numbers_32 : decode cX6_numbers 32 = .ok (.iload_n 0, 1) := by decide +kernel
theorem dX6_numbers_33 : decode cX6_numbers 33 = .ok (.bipush 102, 2) := by decide +kernel
theorem dX6_numbers_35 : decode cX6_numbers 35 = .ok (.if_icmp .eq 9, 3) := by decide +kernel
theorem dX6_numbers_38 : decode cX6_numbers 38 = .ok (.iload_n 0, 1) := by decide +kernel
theorem dX6_numbers_39 : decode cX6_numbers 39 = .ok (.bipush 100, 2) := by decide +kernel
theorem dX6_numbers_41 : decode cX6_numbers 41 = .ok (.if_icmp .ne 7, 3) := by decide +kernel
theorem dX6_numbers_44 : decode cX6_numbers 44 = .ok (.iconst 1, 1) := by decide +kernel
theorem dX6_numbers_45 : decode cX6_numbers 45 = .ok (.goto 4, 3) := by decide +kernel
theorem dX6_numbers_48 : decode cX6_numbers 48 = .ok (.iconst 0, 1) := by decide +kernel
theorem dX6_numbers_49 : decode cX6_numbers 49 = .ok (.ireturn, 1) := by decide +kernel
theorem dX6_isItem_0 : decode cX6_isItem 0 = .ok (.aload_n 0, 1) := by decide +kernel
theorem dX6_isItem_1 : decode cX6_isItem 1 = .ok (.getfield 7, 3) := by decide +kernel
theorem dX6_isItem_4 : decode cX6_isItem 4 = .ok (.aload_n 0, 1) := by decide +kernel
theorem dX6_isItem_5 : decode cX6_isItem 5 = .ok (.getfield 60, 3) := by decide +kernel
theorem dX6_isItem_8 : decode cX6_isItem 8 = .ok (.baload, 1) := by decide +kernel
theorem dX6_isItem_9 : decode cX6_isItem 9 = .ok (.istore_n 1, 1) := by decide +kernel
theorem dX6_isItem_10 : decode cX6_isItem 10 = .ok (.aload_n 0, 1) := by decide +kernel
theorem dX6_isItem_11 : decode cX6_isItem 11 = .ok (.dup, 1) := by decide +kernel
theorem dX6_isItem_12 : decode cX6_isItem 12 = .ok (.getfield 60, 3) := by decide +kernel
theorem dX6_isItem_15 : decode cX6_isItem 15 = .ok (.iconst 1, 1) := by decide +kernel
theorem dX6_isItem_16 : decode cX6_isItem 16 = .ok (.iadd, 1) := by decide +kernel
theorem dX6_isItem_17 : decode cX6_isItem 17 = .ok (.putfield 60, 3) := by decide +kernel
theorem dX6_isItem_20 : decode cX6_isItem 20 = .ok (.iload_n 1, 1) := by decide +kernel
theorem dX6_isItem_21 : decode cX6_isItem 21 = .ok (.invokestatic 69, 3) := by decide +kernel
theorem dX6_isItem_24 : decode cX6_isItem 24 = .ok (.istore_n 2, 1) := by decide +kernel
theorem dX6_isItem_25 : decode cX6_isItem 25 = .ok (.iload_n 2, 1) := by decide +kernel
theorem dX6_isItem_26 : decode cX6_isItem 26 = .ok (.ifCond .le 7, 3) := by decide +kernel
theorem dX6_isItem_29 : decode cX6_isItem 29 = .ok (.iconst 1, 1) := by decide +kernel
theorem dX6_isItem_30 : decode cX6_isItem 30 = .ok (.goto 4, 3) := by decide +kernel
theorem dX6_isItem_33 : decode cX6_isItem 33 = .ok (.iconst 0, 1) := by decide +kernel
theorem dX6_isItem_34 : decode cX6_isItem 34 = .ok (.istore_n 3, 1) := by decide +kernel
theorem dX6_isItem_35 : decode cX6_isItem 35 = .ok (.iconst 0, 1) := by decide +kernel
theorem dX6_isItem_36 : decode cX6_isItem 36 = .ok (.istore 4, 2) := by decide +kernel
theorem dX6_isItem_38 : decode cX6_isItem 38 = .ok (.iload 4, 2) := by decide +kernel
theorem dX6_isItem_40 : decode cX6_isItem 40 = .ok (.iload_n 2, 1) := by decide +kernel
theorem dX6_isItem_41 : decode cX6_isItem 41 = .ok (.if_icmp .ge 103, 3) := by decide +kernel
theorem dX6_isItem_44 : decode cX6_isItem 44 = .ok (.iload_n 3, 1) := by decide +kernel
theorem dX6_isItem_45 : decode cX6_isItem 45 = .ok (.ifCond .eq 99, 3) := by decide +kernel
theorem dX6_isItem_48 : decode cX6_isItem 48 = .ok (.iload 4, 2) := by decide +kernel
theorem dX6_isItem_50 : decode cX6_isItem 50 = .ok (.ifCond .eq 28, 3) := by decide +kernel
theorem dX6_isItem_53 : decode cX6_isItem 53 = .ok (.aload_n 0, 1) := by decide +kernel
theorem dX6_isItem_54 : decode cX6_isItem 54 = .ok (.getfield 60, 3) := by decide +kernel
theorem dX6_isItem_57 : decode cX6_isItem 57 = .ok (.aload_n 0, 1) := by decide +kernel
theorem dX6_isItem_58 : decode cX6_isItem 58 = .ok (.getfield 56, 3) := by decide +kernel
theorem dX6_isItem_61 : decode cX6_isItem 61 = .ok (.if_icmp .ge 21, 3) := by decide +kernel
theorem dX6_isItem_64 : decode cX6_isItem 64 = .ok (.aload_n 0, 1) := by decide +kernel
theorem dX6_isItem_65 : decode cX6_isItem 65 = .ok (.getfield 7, 3) := by decide +kernel
theorem dX6_isItem_68 : decode cX6_isItem 68 = .ok (.aload_n 0, 1) := by decide +kernel
theorem dX6_isItem_69 : decode cX6_isItem 69 = .ok (.getfield 60, 3) := by decide +kernel
theorem dX6_isItem_72 : decode cX6_isItem 72 = .ok (.baload, 1) := by decide +kernel
theorem dX6_isItem_73 : decode cX6_isItem 73 = .ok (.bipush 44, 2) := by decide +kernel
theorem dX6_isItem_75 : decode cX6_isItem 75 = .ok (.if_icmp .ne 7, 3) := by decide +kernel
theorem dX6_isItem_78 : decode cX6_isItem 78 = .ok (.iconst 1, 1) := by decide +kernel
theorem dX6_isItem_79 : decode cX6_isItem 79 = .ok (.goto 4, 3) := by decide +kernel
theorem dX6_isItem_82 : decode cX6_isItem 82 = .ok (.iconst 0, 1) := by decide +kernel
theorem dX6_isItem_83 : decode cX6_isItem 83 = .ok (.istore_n 3, 1) := by decide +kernel
theorem dX6_isItem_84 : decode cX6_isItem 84 = .ok (.aload_n 0, 1) := by decide +kernel
theorem dX6_isItem_85 : decode cX6_isItem 85 = .ok (.dup, 1) := by decide +kernel
theorem dX6_isItem_86 : decode cX6_isItem 86 = .ok (.getfield 60, 3) := by decide +kernel
theorem dX6_isItem_89 : decode cX6_isItem 89 = .ok (.iload 4, 2) := by decide +kernel
theorem dX6_isItem_91 : decode cX6_isItem 91 = .ok (.ifCond .ne 7, 3) := by decide +kernel
theorem dX6_isItem_94 : decode cX6_isItem 94 = .ok (.iconst 0, 1) := by decide +kernel
theorem dX6_isItem_95 : decode cX6_isItem 95 = .ok (.goto 4, 3) := by decide +kernel
theorem dX6_isItem_98 : decode cX6_isItem 98 = .ok (.iconst 1, 1) := by decide +kernel
theorem dX6_isItem_99 : decode cX6_isItem 99 = .ok (.iadd, 1) := by decide +kernel
theorem dX6_isItem_100 : decode cX6_isItem 100 = .ok (.putfield 60, 3) := by decide +kernel
theorem dX6_isItem_103 : decode cX6_isItem 103 = .ok (.aload_n 0, 1) := by decide +kernel
theorem dX6_isItem_104 : decode cX6_isItem 104 = .ok (.getfield 36, 3) := by decide +kernel
theorem dX6_isItem_107 : decode cX6_isItem 107 = .ok (.iload 4, 2) := by decide +kernel
theorem dX6_isItem_109 : decode cX6_isItem 109 = .ok (.iload_n 3, 1) := by decide +kernel
theorem dX6_isItem_110 : decode cX6_isItem 110 = .ok (.ifCond .eq 10, 3) := by decide +kernel
theorem dX6_isItem_113 : decode cX6_isItem 113 = .ok (.aload_n 0, 1) := by decide +kernel
theorem dX6_isItem_114 : decode cX6_isItem 114 = .ok (.invokevirtual 73, 3) := by decide +kernel
theorem dX6_isItem_117 : decode cX6_isItem 117 = .ok (.goto 4, 3) := by decide +kernel
theorem dX6_isItem_120 : decode cX6_isItem 120 = .ok (.iconst (-1), 1) := by decide +kernel
theorem dX6_isItem_121 : decode cX6_isItem 121 = .ok (.iastore, 1) := by decide +kernel
theorem dX6_isItem_122 : decode cX6_isItem 122 = .ok (.aload_n 0, 1) := by decide +kernel
theorem dX6_isItem_123 : decode cX6_isItem 123 = .ok (.getfield 36, 3) := by decide +kernel
theorem dX6_isItem_126 : decode cX6_isItem 126 = .ok (.iload 4, 2) := by decide +kernel
theorem dX6_isItem_128 : decode cX6_isItem 128 = .ok (.iaload, 1) := by decide +kernel
theorem dX6_isItem_129 : decode cX6_isItem 129 = .ok (.ifCond .lt 7, 3) := by decide +kernel
theorem dX6_isItem_132 : decode cX6_isItem 132 = .ok (.iconst 1, 1) := by decide +kernel
theorem dX6_isItem_133 : decode cX6_isItem 133 = .ok (.goto 4, 3) := by decide +kernel
theorem dX6_isItem_136 : decode cX6_isItem 136 = .ok (.iconst 0, 1) := by decide +kernel
theorem dX6_isItem_137 : decode cX6_isItem 137 = .ok (.istore_n 3, 1) := by decide +kernel
theorem dX6_isItem_138 : decode cX6_isItem 138 = .ok (.iinc 4 1, 3) := by decide +kernel
theorem dX6_isItem_141 : decode cX6_isItem 141 = .ok (.goto (-103), 3) := by decide +kernel
theorem dX6_isItem_144 : decode cX6_isItem 144 = .ok (.iload_n 3, 1) := by decide +kernel
theorem dX6_isItem_145 : decode cX6_isItem 145 = .ok (.ifCond .eq 32, 3) := by decide +kernel
theorem dX6_isItem_148 : decode cX6_isItem 148 = .ok (.aload_n 0, 1) := by decide +kernel
theorem dX6_isItem_149 : decode cX6_isItem 149 = .ok (.getfield 60, 3) := by decide +kernel
theorem dX6_isItem_152 : decode cX6_isItem 152 = .ok (.aload_n 0, 1) := by decide +kernel
theorem dX6_isItem_153 : decode cX6_isItem 153 = .ok (.getfield 56, 3) := by decide +kernel
theorem dX6_isItem_156 : decode cX6_isItem 156 = .ok (.if_icmp .ge 21, 3) := by decide +kernel
theorem dX6_isItem_159 : decode cX6_isItem 159 = .ok (.aload_n 0, 1) := by decide +kernel
theorem dX6_isItem_160 : decode cX6_isItem 160 = .ok (.getfield 7, 3) := by decide +kernel
theorem dX6_isItem_163 : decode cX6_isItem 163 = .ok (.aload_n 0, 1) := by decide +kernel
theorem dX6_isItem_164 : decode cX6_isItem 164 = .ok (.getfield 60, 3) := by decide +kernel
theorem dX6_isItem_167 : decode cX6_isItem 167 = .ok (.baload, 1) := by decide +kernel
theorem dX6_isItem_168 : decode cX6_isItem 168 = .ok (.bipush 59, 2) := by decide +kernel
theorem dX6_isItem_170 : decode cX6_isItem 170 = .ok (.if_icmp .ne 7, 3) := by decide +kernel
theorem dX6_isItem_173 : decode cX6_isItem 173 = .ok (.iconst 1, 1) := by decide +kernel
theorem dX6_isItem_174 : decode cX6_isItem 174 = .ok (.goto 4, 3) := by decide +kernel
theorem dX6_isItem_177 : decode cX6_isItem 177 = .ok (.iconst 0, 1) := by decide +kernel
theorem dX6_isItem_178 : decode cX6_isItem 178 = .ok (.istore_n 3, 1) := by decide +kernel
theorem dX6_isItem_179 : decode cX6_isItem 179 = .ok (.aload_n 0, 1) := by decide +kernel
theorem dX6_isItem_180 : decode cX6_isItem 180 = .ok (.dup, 1) := by decide +kernel
theorem dX6_isItem_181 : decode cX6_isItem 181 = .ok (.getfield 60, 3) := by decide +kernel
theorem dX6_isItem_184 : decode cX6_isItem 184 = .ok (.iconst 1, 1) := by decide +kernel
theorem dX6_isItem_185 : decode cX6_isItem 185 = .ok (.iadd, 1) := by decide +kernel
theorem dX6_isItem_186 : decode cX6_isItem 186 = .ok (.putfield 60, 3) := by decide +kernel
theorem dX6_isItem_189 : decode cX6_isItem 189 = .ok (.iload_n 3, 1) := by decide +kernel
theorem dX6_isItem_190 : decode cX6_isItem 190 = .ok (.ifCond .eq 15, 3) := by decide +kernel
theorem dX6_isItem_193 : decode cX6_isItem 193 = .ok (.aload_n 0, 1) := by decide +kernel
theorem dX6_isItem_194 : decode cX6_isItem 194 = .ok (.iload_n 1, 1) := by decide +kernel
theorem dX6_isItem_195 : decode cX6_isItem 195 = .ok (.invokevirtual 77, 3) := by decide +kernel
theorem dX6_isItem_198 : decode cX6_isItem 198 = .ok (.ifCond .eq 7, 3) := by decide +kernel
theorem dX6_isItem_201 : decode cX6_isItem 201 = .ok (.iconst 1, 1) := by decide +kernel
theorem dX6_isItem_202 : decode cX6_isItem 202 = .ok (.goto 4, 3) := by decide +kernel
theorem dX6_isItem_205 : decode cX6_isItem 205 = .ok (.iconst 0, 1) := by decide +kernel
theorem dX6_isItem_206 : decode cX6_isItem 206 = .ok (.ireturn, 1) := by decide +kernel
theorem dX6_isGood_0 : decode cX6_isGood 0 = .ok (.aload_n 0, 1) := by decide +kernel
theorem dX6_isGood_1 : decode cX6_isGood 1 = .ok (.getfield 36, 3) := by decide +kernel
theorem dX6_isGood_4 : decode cX6_isGood 4 = .ok (.iconst 0, 1) := by decide +kernel
theorem dX6_isGood_5 : decode cX6_isGood 5 = .ok (.iaload, 1) := by decide +kernel
theorem dX6_isGood_6 : decode cX6_isGood 6 = .ok (.istore_n 2, 1) := by decide +kernel
theorem dX6_isGood_7 : decode cX6_isGood 7 = .ok (.aload_n 0, 1) := by decide +kernel
theorem dX6_isGood_8 : decode cX6_isGood 8 = .ok (.getfield 36, 3) := by decide +kernel
theorem dX6_isGood_11 : decode cX6_isGood 11 = .ok (.iconst 1, 1) := by decide +kernel
theorem dX6_isGood_12 : decode cX6_isGood 12 = .ok (.iaload, 1) := by decide +kernel
theorem dX6_isGood_13 : decode cX6_isGood 13 = .ok (.istore_n 3, 1) := by decide +kernel
theorem dX6_isGood_14 : decode cX6_isGood 14 = .ok (.aload_n 0, 1) := by decide +kernel
theorem dX6_isGood_15 : decode cX6_isGood 15 = .ok (.getfield 36, 3) := by decide +kernel
theorem dX6_isGood_18 : decode cX6_isGood 18 = .ok (.iconst 2, 1) := by decide +kernel
theorem dX6_isGood_19 : decode cX6_isGood 19 = .ok (.iaload, 1) := by decide +kernel
theorem dX6_isGood_20 : decode cX6_isGood 20 = .ok (.istore 4, 2) := by decide +kernel
theorem dX6_isGood_22 : decode cX6_isGood 22 = .ok (.iload_n 1, 1) := by decide +kernel
theorem dX6_isGood_23 : decode cX6_isGood 23 = .ok (.bipush 102, 2) := by decide +kernel
theorem dX6_isGood_25 : decode cX6_isGood 25 = .ok (.if_icmp .ne 39, 3) := by decide +kernel
theorem dX6_isGood_28 : decode cX6_isGood 28 = .ok (.aload_n 0, 1) := by decide +kernel
theorem dX6_isGood_29 : decode cX6_isGood 29 = .ok (.getfield 13, 3) := by decide +kernel
theorem dX6_isGood_32 : decode cX6_isGood 32 = .ok (.bipush 7, 2) := by decide +kernel
theorem dX6_isGood_34 : decode cX6_isGood 34 = .ok (.iload_n 2, 1) := by decide +kernel
theorem dX6_isGood_35 : decode cX6_isGood 35 = .ok (.iastore, 1) := by decide +kernel
theorem dX6_isGood_36 : decode cX6_isGood 36 = .ok (.iload_n 2, 1) := by decide +kernel
theorem dX6_isGood_37 : decode cX6_isGood 37 = .ok (.i2l, 1) := by decide +kernel
theorem dX6_isGood_38 : decode cX6_isGood 38 = .ok (.lconst 1, 1) := by decide +kernel
theorem dX6_isGood_39 : decode cX6_isGood 39 = .ok (.ldc2_w 81, 3) := by decide +kernel
theorem dX6_isGood_42 : decode cX6_isGood 42 = .ok (.invokestatic 52, 3) := by decide +kernel
theorem dX6_isGood_45 : decode cX6_isGood 45 = .ok (.ifCond .eq 17, 3) := by decide +kernel
theorem dX6_isGood_48 : decode cX6_isGood 48 = .ok (.aload_n 0, 1) := by decide +kernel
theorem dX6_isGood_49 : decode cX6_isGood 49 = .ok (.getfield 13, 3) := by decide +kernel
theorem dX6_isGood_52 : decode cX6_isGood 52 = .ok (.bipush 13, 2) := by decide +kernel
theorem dX6_isGood_54 : decode cX6_isGood 54 = .ok (.iaload, 1) := by decide +kernel
theorem dX6_isGood_55 : decode cX6_isGood 55 = .ok (.ifCond .ne 7, 3) := by decide +kernel
theorem dX6_isGood_58 : decode cX6_isGood 58 = .ok (.iconst 1, 1) := by decide +kernel
theorem dX6_isGood_59 : decode cX6_isGood 59 = .ok (.goto 4, 3) := by decide +kernel
theorem dX6_isGood_62 : decode cX6_isGood 62 = .ok (.iconst 0, 1) := by decide +kernel
theorem dX6_isGood_63 : decode cX6_isGood 63 = .ok (.ireturn, 1) := by decide +kernel
theorem dX6_isGood_64 : decode cX6_isGood 64 = .ok (.aload_n 0, 1) := by decide +kernel
theorem dX6_isGood_65 : decode cX6_isGood 65 = .ok (.getfield 13, 3) := by decide +kernel
theorem dX6_isGood_68 : decode cX6_isGood 68 = .ok (.bipush 13, 2) := by decide +kernel
theorem dX6_isGood_70 : decode cX6_isGood 70 = .ok (.iconst 1, 1) := by decide +kernel
theorem dX6_isGood_71 : decode cX6_isGood 71 = .ok (.iastore, 1) := by decide +kernel
theorem dX6_isGood_72 : decode cX6_isGood 72 = .ok (.iload_n 1, 1) := by decide +kernel
theorem dX6_isGood_73 : decode cX6_isGood 73 = .ok (.lookupswitch 226 #[(100, 93), (105, 43), (112, 138), (115, 173)], 43) := by decide +kernel
theorem dX6_isGood_116 : decode cX6_isGood 116 = .ok (.iload_n 2, 1) := by decide +kernel
theorem dX6_isGood_117 : decode cX6_isGood 117 = .ok (.iconst 2, 1) := by decide +kernel
theorem dX6_isGood_118 : decode cX6_isGood 118 = .ok (.aload_n 0, 1) := by decide +kernel
theorem dX6_isGood_119 : decode cX6_isGood 119 = .ok (.getfield 13, 3) := by decide +kernel
theorem dX6_isGood_122 : decode cX6_isGood 122 = .ok (.bipush 7, 2) := by decide +kernel
theorem dX6_isGood_124 : decode cX6_isGood 124 = .ok (.iaload, 1) := by decide +kernel
theorem dX6_isGood_125 : decode cX6_isGood 125 = .ok (.imul, 1) := by decide +kernel
theorem dX6_isGood_126 : decode cX6_isGood 126 = .ok (.if_icmp .ge 38, 3) := by decide +kernel
theorem dX6_isGood_129 : decode cX6_isGood 129 = .ok (.iload_n 3, 1) := by decide +kernel
theorem dX6_isGood_130 : decode cX6_isGood 130 = .ok (.iconst 2, 1) := by decide +kernel
theorem dX6_isGood_131 : decode cX6_isGood 131 = .ok (.aload_n 0, 1) := by decide +kernel
theorem dX6_isGood_132 : decode cX6_isGood 132 = .ok (.getfield 13, 3) := by decide +kernel
theorem dX6_isGood_135 : decode cX6_isGood 135 = .ok (.bipush 7, 2) := by decide +kernel
theorem dX6_isGood_137 : decode cX6_isGood 137 = .ok (.iaload, 1) := by decide +kernel
theorem dX6_isGood_138 : decode cX6_isGood 138 = .ok (.imul, 1) := by decide +kernel
theorem dX6_isGood_139 : decode cX6_isGood 139 = .ok (.if_icmp .ge 25, 3) := by decide +kernel
theorem dX6_isGood_142 : decode cX6_isGood 142 = .ok (.aload_n 0, 1) := by decide +kernel
theorem dX6_isGood_143 : decode cX6_isGood 143 = .ok (.aload_n 0, 1) := by decide +kernel
theorem dX6_isGood_144 : decode cX6_isGood 144 = .ok (.getfield 17, 3) := by decide +kernel
theorem dX6_isGood_147 : decode cX6_isGood 147 = .ok (.bipush 20, 2) := by decide +kernel
theorem dX6_isGood_149 : decode cX6_isGood 149 = .ok (.iconst 2, 1) := by decide +kernel
theorem dX6_isGood_150 : decode cX6_isGood 150 = .ok (.bipush 8, 2) := by decide +kernel
theorem dX6_isGood_152 : decode cX6_isGood 152 = .ok (.bipush 10, 2) := by decide +kernel
theorem dX6_isGood_154 : decode cX6_isGood 154 = .ok (.invokevirtual 83, 3) := by decide +kernel
theorem dX6_isGood_157 : decode cX6_isGood 157 = .ok (.ifCond .eq 7, 3) := by decide +kernel
theorem dX6_isGood_160 : decode cX6_isGood 160 = .ok (.iconst 1, 1) := by decide +kernel
theorem dX6_isGood_161 : decode cX6_isGood 161 = .ok (.goto 4, 3) := by decide +kernel
theorem dX6_isGood_164 : decode cX6_isGood 164 = .ok (.iconst 0, 1) := by decide +kernel
theorem dX6_isGood_165 : decode cX6_isGood 165 = .ok (.ireturn, 1) := by decide +kernel
theorem dX6_isGood_166 : decode cX6_isGood 166 = .ok (.aload_n 0, 1) := by decide +kernel
theorem dX6_isGood_167 : decode cX6_isGood 167 = .ok (.getfield 13, 3) := by decide +kernel
theorem dX6_isGood_170 : decode cX6_isGood 170 = .ok (.bipush 12, 2) := by decide +kernel
theorem dX6_isGood_172 : decode cX6_isGood 172 = .ok (.dup2, 1) := by decide +kernel
theorem dX6_isGood_173 : decode cX6_isGood 173 = .ok (.iaload, 1) := by decide +kernel
theorem dX6_isGood_174 : decode cX6_isGood 174 = .ok (.iload_n 2, 1) := by decide +kernel
theorem dX6_isGood_175 : decode cX6_isGood 175 = .ok (.aload_n 0, 1) := by decide +kernel
theorem dX6_isGood_176 : decode cX6_isGood 176 = .ok (.getfield 13, 3) := by decide +kernel
theorem dX6_isGood_179 : decode cX6_isGood 179 = .ok (.bipush 7, 2) := by decide +kernel
theorem dX6_isGood_181 : decode cX6_isGood 181 = .ok (.iaload, 1) := by decide +kernel
theorem dX6_isGood_182 : decode cX6_isGood 182 = .ok (.if_icmp .ge 9, 3) := by decide +kernel
theorem dX6_isGood_185 : decode cX6_isGood 185 = .ok (.iconst 1, 1) := by decide +kernel
theorem dX6_isGood_186 : decode cX6_isGood 186 = .ok (.iload_n 2, 1) := by decide +kernel
theorem dX6_isGood_187 : decode cX6_isGood 187 = .ok (.ishl, 1) := by decide +kernel
theorem dX6_isGood_188 : decode cX6_isGood 188 = .ok (.goto 4, 3) := by decide +kernel
theorem dX6_isGood_191 : decode cX6_isGood 191 = .ok (.iconst 0, 1) := by decide +kernel
theorem dX6_isGood_192 : decode cX6_isGood 192 = .ok (.ior, 1) := by decide +kernel
theorem dX6_isGood_193 : decode cX6_isGood 193 = .ok (.iastore, 1) := by decide +kernel
theorem dX6_isGood_194 : decode cX6_isGood 194 = .ok (.iload_n 2, 1) := by decide +kernel
theorem dX6_isGood_195 : decode cX6_isGood 195 = .ok (.aload_n 0, 1) := by decide +kernel
theorem dX6_isGood_196 : decode cX6_isGood 196 = .ok (.getfield 13, 3) := by decide +kernel
theorem dX6_isGood_199 : decode cX6_isGood 199 = .ok (.bipush 7, 2) := by decide +kernel
theorem dX6_isGood_201 : decode cX6_isGood 201 = .ok (.iaload, 1) := by decide +kernel
theorem dX6_isGood_202 : decode cX6_isGood 202 = .ok (.if_icmp .ge 7, 3) := by decide +kernel
theorem dX6_isGood_205 : decode cX6_isGood 205 = .ok (.iconst 1, 1) := by decide +kernel
theorem dX6_isGood_206 : decode cX6_isGood 206 = .ok (.goto 4, 3) := by decide +kernel
theorem dX6_isGood_209 : decode cX6_isGood 209 = .ok (.iconst 0, 1) := by decide +kernel
theorem dX6_isGood_210 : decode cX6_isGood 210 = .ok (.ireturn, 1) := by decide +kernel
theorem dX6_isGood_211 : decode cX6_isGood 211 = .ok (.iload_n 2, 1) := by decide +kernel
theorem dX6_isGood_212 : decode cX6_isGood 212 = .ok (.bipush 41, 2) := by decide +kernel
theorem dX6_isGood_214 : decode cX6_isGood 214 = .ok (.if_icmp .ge 30, 3) := by decide +kernel
theorem dX6_isGood_217 : decode cX6_isGood 217 = .ok (.iload_n 3, 1) := by decide +kernel
theorem dX6_isGood_218 : decode cX6_isGood 218 = .ok (.bipush 10, 2) := by decide +kernel
theorem dX6_isGood_220 : decode cX6_isGood 220 = .ok (.if_icmp .ge 24, 3) := by decide +kernel
theorem dX6_isGood_223 : decode cX6_isGood 223 = .ok (.aload_n 0, 1) := by decide +kernel
theorem dX6_isGood_224 : decode cX6_isGood 224 = .ok (.aload_n 0, 1) := by decide +kernel
theorem dX6_isGood_225 : decode cX6_isGood 225 = .ok (.getfield 20, 3) := by decide +kernel
theorem dX6_isGood_228 : decode cX6_isGood 228 = .ok (.bipush 10, 2) := by decide +kernel
theorem dX6_isGood_230 : decode cX6_isGood 230 = .ok (.iconst 2, 1) := by decide +kernel
theorem dX6_isGood_231 : decode cX6_isGood 231 = .ok (.bipush 9, 2) := by decide +kernel
theorem dX6_isGood_233 : decode cX6_isGood 233 = .ok (.iconst 5, 1) := by decide +kernel
theorem dX6_isGood_234 : decode cX6_isGood 234 = .ok (.invokevirtual 83, 3) := by decide +kernel
theorem dX6_isGood_237 : decode cX6_isGood 237 = .ok (.ifCond .eq 7, 3) := by decide +kernel
theorem dX6_isGood_240 : decode cX6_isGood 240 = .ok (.iconst 1, 1) := by decide +kernel
theorem dX6_isGood_241 : decode cX6_isGood 241 = .ok (.goto 4, 3) := by decide +kernel
theorem dX6_isGood_244 : decode cX6_isGood 244 = .ok (.iconst 0, 1) := by decide +kernel
theorem dX6_isGood_245 : decode cX6_isGood 245 = .ok (.ireturn, 1) := by decide +kernel
theorem dX6_isGood_246 : decode cX6_isGood 246 = .ok (.iload_n 2, 1) := by decide +kernel
theorem dX6_isGood_247 : decode cX6_isGood 247 = .ok (.i2l, 1) := by decide +kernel
theorem dX6_isGood_248 : decode cX6_isGood 248 = .ok (.lconst 1, 1) := by decide +kernel
theorem dX6_isGood_249 : decode cX6_isGood 249 = .ok (.ldc2_w 87, 3) := by decide +kernel
theorem dX6_isGood_252 : decode cX6_isGood 252 = .ok (.invokestatic 52, 3) := by decide +kernel
theorem dX6_isGood_255 : decode cX6_isGood 255 = .ok (.ifCond .eq 42, 3) := by decide +kernel
theorem dX6_isGood_258 : decode cX6_isGood 258 = .ok (.iload_n 3, 1) := by decide +kernel
theorem dX6_isGood_259 : decode cX6_isGood 259 = .ok (.i2l, 1) := by decide +kernel
theorem dX6_isGood_260 : decode cX6_isGood 260 = .ok (.lconst 1, 1) := by decide +kernel
theorem dX6_isGood_261 : decode cX6_isGood 261 = .ok (.ldc2_w 89, 3) := by decide +kernel
theorem dX6_isGood_264 : decode cX6_isGood 264 = .ok (.invokestatic 52, 3) := by decide +kernel
theorem dX6_isGood_267 : decode cX6_isGood 267 = .ok (.ifCond .eq 30, 3) := by decide +kernel
theorem dX6_isGood_270 : decode cX6_isGood 270 = .ok (.iload 4, 2) := by decide +kernel
theorem dX6_isGood_272 : decode cX6_isGood 272 = .ok (.iconst 4, 1) := by decide +kernel
theorem dX6_isGood_273 : decode cX6_isGood 273 = .ok (.if_icmp .ge 24, 3) := by decide +kernel
theorem dX6_isGood_276 : decode cX6_isGood 276 = .ok (.aload_n 0, 1) := by decide +kernel
theorem dX6_isGood_277 : decode cX6_isGood 277 = .ok (.aload_n 0, 1) := by decide +kernel
theorem dX6_isGood_278 : decode cX6_isGood 278 = .ok (.getfield 23, 3) := by decide +kernel
theorem dX6_isGood_281 : decode cX6_isGood 281 = .ok (.bipush 15, 2) := by decide +kernel
theorem dX6_isGood_283 : decode cX6_isGood 283 = .ok (.iconst 3, 1) := by decide +kernel
theorem dX6_isGood_284 : decode cX6_isGood 284 = .ok (.bipush 10, 2) := by decide +kernel
theorem dX6_isGood_286 : decode cX6_isGood 286 = .ok (.iconst 5, 1) := by decide +kernel
theorem dX6_isGood_287 : decode cX6_isGood 287 = .ok (.invokevirtual 83, 3) := by decide +kernel
theorem dX6_isGood_290 : decode cX6_isGood 290 = .ok (.ifCond .eq 7, 3) := by decide +kernel
theorem dX6_isGood_293 : decode cX6_isGood 293 = .ok (.iconst 1, 1) := by decide +kernel
theorem dX6_isGood_294 : decode cX6_isGood 294 = .ok (.goto 4, 3) := by decide +kernel
theorem dX6_isGood_297 : decode cX6_isGood 297 = .ok (.iconst 0, 1) := by decide +kernel
theorem dX6_isGood_298 : decode cX6_isGood 298 = .ok (.ireturn, 1) := by decide +kernel
theorem dX6_isGood_299 : decode cX6_isGood 299 = .ok (.iload_n 2, 1) := by decide +kernel
theorem dX6_isGood_300 : decode cX6_isGood 300 = .ok (.aload_n 0, 1) := by decide +kernel
theorem dX6_isGood_301 : decode cX6_isGood 301 = .ok (.getfield 13, 3) := by decide +kernel
theorem dX6_isGood_304 : decode cX6_isGood 304 = .ok (.bipush 9, 2) := by decide +kernel
theorem dX6_isGood_306 : decode cX6_isGood 306 = .ok (.iaload, 1) := by decide +kernel
theorem dX6_isGood_307 : decode cX6_isGood 307 = .ok (.if_icmp .ge 37, 3) := by decide +kernel
theorem dX6_isGood_310 : decode cX6_isGood 310 = .ok (.iload_n 3, 1) := by decide +kernel
theorem dX6_isGood_311 : decode cX6_isGood 311 = .ok (.i2l, 1) := by decide +kernel
theorem dX6_isGood_312 : decode cX6_isGood 312 = .ok (.lconst 1, 1) := by decide +kernel
theorem dX6_isGood_313 : decode cX6_isGood 313 = .ok (.ldc2_w 87, 3) := by decide +kernel
theorem dX6_isGood_316 : decode cX6_isGood 316 = .ok (.invokestatic 52, 3) := by decide +kernel
theorem dX6_isGood_319 : decode cX6_isGood 319 = .ok (.ifCond .eq 25, 3) := by decide +kernel
theorem dX6_isGood_322 : decode cX6_isGood 322 = .ok (.aload_n 0, 1) := by decide +kernel
theorem dX6_isGood_323 : decode cX6_isGood 323 = .ok (.aload_n 0, 1) := by decide +kernel
theorem dX6_isGood_324 : decode cX6_isGood 324 = .ok (.getfield 26, 3) := by decide +kernel
theorem dX6_isGood_327 : decode cX6_isGood 327 = .ok (.bipush 18, 2) := by decide +kernel
theorem dX6_isGood_329 : decode cX6_isGood 329 = .ok (.iconst 3, 1) := by decide +kernel
theorem dX6_isGood_330 : decode cX6_isGood 330 = .ok (.bipush 11, 2) := by decide +kernel
theorem dX6_isGood_332 : decode cX6_isGood 332 = .ok (.bipush 6, 2) := by decide +kernel
theorem dX6_isGood_334 : decode cX6_isGood 334 = .ok (.invokevirtual 83, 3) := by decide +kernel
theorem dX6_isGood_337 : decode cX6_isGood 337 = .ok (.ifCond .eq 7, 3) := by decide +kernel
theorem dX6_isGood_340 : decode cX6_isGood 340 = .ok (.iconst 1, 1) := by decide +kernel
theorem dX6_isGood_341 : decode cX6_isGood 341 = .ok (.goto 4, 3) := by decide +kernel
theorem dX6_isGood_344 : decode cX6_isGood 344 = .ok (.iconst 0, 1) := by decide +kernel
theorem dX6_isGood_345 : decode cX6_isGood 345 = .ok (.ireturn, 1) := by decide +kernel
theorem dX6_isPut_0 : decode cX6_isPut 0 = .ok (.aload_n 0, 1) := by decide +kernel
theorem dX6_isPut_1 : decode cX6_isPut 1 = .ok (.getfield 13, 3) := by decide +kernel
theorem dX6_isPut_4 : decode cX6_isPut 4 = .ok (.iload 4, 2) := by decide +kernel
theorem dX6_isPut_6 : decode cX6_isPut 6 = .ok (.iaload, 1) := by decide +kernel
theorem dX6_isPut_7 : decode cX6_isPut 7 = .ok (.iload 5, 2) := by decide +kernel
theorem dX6_isPut_9 : decode cX6_isPut 9 = .ok (.if_icmp .ne 5, 3) := by decide +kernel
theorem dX6_isPut_12 : decode cX6_isPut 12 = .ok (.iconst 0, 1) := by decide +kernel
theorem dX6_isPut_13 : decode cX6_isPut 13 = .ok (.ireturn, 1) := by decide +kernel
theorem dX6_isPut_14 : decode cX6_isPut 14 = .ok (.iconst 0, 1) := by decide +kernel
theorem dX6_isPut_15 : decode cX6_isPut 15 = .ok (.istore 6, 2) := by decide +kernel
theorem dX6_isPut_17 : decode cX6_isPut 17 = .ok (.iload 6, 2) := by decide +kernel
theorem dX6_isPut_19 : decode cX6_isPut 19 = .ok (.iload_n 3, 1) := by decide +kernel
theorem dX6_isPut_20 : decode cX6_isPut 20 = .ok (.if_icmp .ge 32, 3) := by decide +kernel
theorem dX6_isPut_23 : decode cX6_isPut 23 = .ok (.aload_n 1, 1) := by decide +kernel
theorem dX6_isPut_24 : decode cX6_isPut 24 = .ok (.iload_n 2, 1) := by decide +kernel
theorem dX6_isPut_25 : decode cX6_isPut 25 = .ok (.iload_n 3, 1) := by decide +kernel
theorem dX6_isPut_26 : decode cX6_isPut 26 = .ok (.aload_n 0, 1) := by decide +kernel
theorem dX6_isPut_27 : decode cX6_isPut 27 = .ok (.getfield 13, 3) := by decide +kernel
theorem dX6_isPut_30 : decode cX6_isPut 30 = .ok (.iload 4, 2) := by decide +kernel
theorem dX6_isPut_32 : decode cX6_isPut 32 = .ok (.iaload, 1) := by decide +kernel
theorem dX6_isPut_33 : decode cX6_isPut 33 = .ok (.imul, 1) := by decide +kernel
theorem dX6_isPut_34 : decode cX6_isPut 34 = .ok (.iadd, 1) := by decide +kernel
theorem dX6_isPut_35 : decode cX6_isPut 35 = .ok (.iload 6, 2) := by decide +kernel
theorem dX6_isPut_37 : decode cX6_isPut 37 = .ok (.iadd, 1) := by decide +kernel
theorem dX6_isPut_38 : decode cX6_isPut 38 = .ok (.aload_n 0, 1) := by decide +kernel
theorem dX6_isPut_39 : decode cX6_isPut 39 = .ok (.getfield 36, 3) := by decide +kernel
theorem dX6_isPut_42 : decode cX6_isPut 42 = .ok (.iload 6, 2) := by decide +kernel
theorem dX6_isPut_44 : decode cX6_isPut 44 = .ok (.iaload, 1) := by decide +kernel
theorem dX6_isPut_45 : decode cX6_isPut 45 = .ok (.iastore, 1) := by decide +kernel
theorem dX6_isPut_46 : decode cX6_isPut 46 = .ok (.iinc 6 1, 3) := by decide +kernel
theorem dX6_isPut_49 : decode cX6_isPut 49 = .ok (.goto (-32), 3) := by decide +kernel
theorem dX6_isPut_52 : decode cX6_isPut 52 = .ok (.aload_n 0, 1) := by decide +kernel
theorem dX6_isPut_53 : decode cX6_isPut 53 = .ok (.getfield 13, 3) := by decide +kernel
theorem dX6_isPut_56 : decode cX6_isPut 56 = .ok (.iload 4, 2) := by decide +kernel
theorem dX6_isPut_58 : decode cX6_isPut 58 = .ok (.dup2, 1) := by decide +kernel
theorem dX6_isPut_59 : decode cX6_isPut 59 = .ok (.iaload, 1) := by decide +kernel
theorem dX6_isPut_60 : decode cX6_isPut 60 = .ok (.iconst 1, 1) := by decide +kernel
theorem dX6_isPut_61 : decode cX6_isPut 61 = .ok (.iadd, 1) := by decide +kernel
theorem dX6_isPut_62 : decode cX6_isPut 62 = .ok (.iastore, 1) := by decide +kernel
theorem dX6_isPut_63 : decode cX6_isPut 63 = .ok (.iconst 1, 1) := by decide +kernel
theorem dX6_isPut_64 : decode cX6_isPut 64 = .ok (.ireturn, 1) := by decide +kernel
theorem dX6_begins_0 : decode cX6_begins 0 = .ok (.bipush 7, 2) := by decide +kernel
theorem dX6_begins_2 : decode cX6_begins 2 = .ok (.istore_n 1, 1) := by decide +kernel
theorem dX6_begins_3 : decode cX6_begins 3 = .ok (.iload_n 1, 1) := by decide +kernel
theorem dX6_begins_4 : decode cX6_begins 4 = .ok (.bipush 14, 2) := by decide +kernel
theorem dX6_begins_6 : decode cX6_begins 6 = .ok (.if_icmp .ge 26, 3) := by decide +kernel
theorem dX6_begins_9 : decode cX6_begins 9 = .ok (.aload_n 0, 1) := by decide +kernel
theorem dX6_begins_10 : decode cX6_begins 10 = .ok (.getfield 13, 3) := by decide +kernel
theorem dX6_begins_13 : decode cX6_begins 13 = .ok (.iload_n 1, 1) := by decide +kernel
theorem dX6_begins_14 : decode cX6_begins 14 = .ok (.iload_n 1, 1) := by decide +kernel
theorem dX6_begins_15 : decode cX6_begins 15 = .ok (.bipush 7, 2) := by decide +kernel
theorem dX6_begins_17 : decode cX6_begins 17 = .ok (.if_icmp .ne 7, 3) := by decide +kernel
theorem dX6_begins_20 : decode cX6_begins 20 = .ok (.iconst 4, 1) := by decide +kernel
theorem dX6_begins_21 : decode cX6_begins 21 = .ok (.goto 4, 3) := by decide +kernel
theorem dX6_begins_24 : decode cX6_begins 24 = .ok (.iconst 0, 1) := by decide +kernel
theorem dX6_begins_25 : decode cX6_begins 25 = .ok (.iastore, 1) := by decide +kernel
theorem dX6_begins_26 : decode cX6_begins 26 = .ok (.iinc 1 1, 3) := by decide +kernel
theorem dX6_begins_29 : decode cX6_begins 29 = .ok (.goto (-26), 3) := by decide +kernel
theorem dX6_begins_32 : decode cX6_begins 32 = .ok (.return_, 1) := by decide +kernel
theorem dX6_isSo_0 : decode cX6_isSo 0 = .ok (.iload_n 1, 1) := by decide +kernel
theorem dX6_isSo_1 : decode cX6_isSo 1 = .ok (.iload_n 0, 1) := by decide +kernel
theorem dX6_isSo_2 : decode cX6_isSo 2 = .ok (.iconst 2, 1) := by decide +kernel
theorem dX6_isSo_3 : decode cX6_isSo 3 = .ok (.idiv, 1) := by decide +kernel
theorem dX6_isSo_4 : decode cX6_isSo 4 = .ok (.ishr, 1) := by decide +kernel
theorem dX6_isSo_5 : decode cX6_isSo 5 = .ok (.iconst 1, 1) := by decide +kernel
theorem dX6_isSo_6 : decode cX6_isSo 6 = .ok (.iand, 1) := by decide +kernel
theorem dX6_isSo_7 : decode cX6_isSo 7 = .ok (.iload_n 0, 1) := by decide +kernel
theorem dX6_isSo_8 : decode cX6_isSo 8 = .ok (.iconst 1, 1) := by decide +kernel
theorem dX6_isSo_9 : decode cX6_isSo 9 = .ok (.iand, 1) := by decide +kernel
theorem dX6_isSo_10 : decode cX6_isSo 10 = .ok (.if_icmp .eq 7, 3) := by decide +kernel
theorem dX6_isSo_13 : decode cX6_isSo 13 = .ok (.iconst 1, 1) := by decide +kernel
theorem dX6_isSo_14 : decode cX6_isSo 14 = .ok (.goto 4, 3) := by decide +kernel
theorem dX6_isSo_17 : decode cX6_isSo 17 = .ok (.iconst 0, 1) := by decide +kernel
theorem dX6_isSo_18 : decode cX6_isSo 18 = .ok (.ireturn, 1) := by decide +kernel
theorem dX6_isLawful_0 : decode cX6_isLawful 0 = .ok (.iconst 1, 1) := by decide +kernel
theorem dX6_isLawful_1 : decode cX6_isLawful 1 = .ok (.istore 4, 2) := by decide +kernel
theorem dX6_isLawful_3 : decode cX6_isLawful 3 = .ok (.iconst 0, 1) := by decide +kernel
theorem dX6_isLawful_4 : decode cX6_isLawful 4 = .ok (.istore 5, 2) := by decide +kernel
theorem dX6_isLawful_6 : decode cX6_isLawful 6 = .ok (.iload 5, 2) := by decide +kernel
theorem dX6_isLawful_8 : decode cX6_isLawful 8 = .ok (.iload_n 3, 1) := by decide +kernel
theorem dX6_isLawful_9 : decode cX6_isLawful 9 = .ok (.if_icmp .ge 59, 3) := by decide +kernel
theorem dX6_isLawful_12 : decode cX6_isLawful 12 = .ok (.iload 4, 2) := by decide +kernel
theorem dX6_isLawful_14 : decode cX6_isLawful 14 = .ok (.ifCond .eq 45, 3) := by decide +kernel
theorem dX6_isLawful_17 : decode cX6_isLawful 17 = .ok (.aload_n 0, 1) := by decide +kernel
theorem dX6_isLawful_18 : decode cX6_isLawful 18 = .ok (.getfield 17, 3) := by decide +kernel
theorem dX6_isLawful_21 : decode cX6_isLawful 21 = .ok (.iload_n 2, 1) := by decide +kernel
theorem dX6_isLawful_22 : decode cX6_isLawful 22 = .ok (.iconst 2, 1) := by decide +kernel
theorem dX6_isLawful_23 : decode cX6_isLawful 23 = .ok (.iload 5, 2) := by decide +kernel
theorem dX6_isLawful_25 : decode cX6_isLawful 25 = .ok (.imul, 1) := by decide +kernel
theorem dX6_isLawful_26 : decode cX6_isLawful 26 = .ok (.iadd, 1) := by decide +kernel
theorem dX6_isLawful_27 : decode cX6_isLawful 27 = .ok (.iaload, 1) := by decide +kernel
theorem dX6_isLawful_28 : decode cX6_isLawful 28 = .ok (.iload_n 1, 1) := by decide +kernel
theorem dX6_isLawful_29 : decode cX6_isLawful 29 = .ok (.invokestatic 91, 3) := by decide +kernel
theorem dX6_isLawful_32 : decode cX6_isLawful 32 = .ok (.ifCond .eq 23, 3) := by decide +kernel
theorem dX6_isLawful_35 : decode cX6_isLawful 35 = .ok (.aload_n 0, 1) := by decide +kernel
theorem dX6_isLawful_36 : decode cX6_isLawful 36 = .ok (.getfield 17, 3) := by decide +kernel
theorem dX6_isLawful_39 : decode cX6_isLawful 39 = .ok (.iload_n 2, 1) := by decide +kernel
theorem dX6_isLawful_40 : decode cX6_isLawful 40 = .ok (.iconst 2, 1) := by decide +kernel
theorem dX6_isLawful_41 : decode cX6_isLawful 41 = .ok (.iload 5, 2) := by decide +kernel
theorem dX6_isLawful_43 : decode cX6_isLawful 43 = .ok (.imul, 1) := by decide +kernel
theorem dX6_isLawful_44 : decode cX6_isLawful 44 = .ok (.iadd, 1) := by decide +kernel
theorem dX6_isLawful_45 : decode cX6_isLawful 45 = .ok (.iconst 1, 1) := by decide +kernel
theorem dX6_isLawful_46 : decode cX6_isLawful 46 = .ok (.iadd, 1) := by decide +kernel
theorem dX6_isLawful_47 : decode cX6_isLawful 47 = .ok (.iaload, 1) := by decide +kernel
theorem dX6_isLawful_48 : decode cX6_isLawful 48 = .ok (.iload_n 1, 1) := by decide +kernel
theorem dX6_isLawful_49 : decode cX6_isLawful 49 = .ok (.invokestatic 91, 3) := by decide +kernel
theorem dX6_isLawful_52 : decode cX6_isLawful 52 = .ok (.ifCond .eq 7, 3) := by decide +kernel
theorem dX6_isLawful_55 : decode cX6_isLawful 55 = .ok (.iconst 1, 1) := by decide +kernel
theorem dX6_isLawful_56 : decode cX6_isLawful 56 = .ok (.goto 4, 3) := by decide +kernel
theorem dX6_isLawful_59 : decode cX6_isLawful 59 = .ok (.iconst 0, 1) := by decide +kernel
theorem dX6_isLawful_60 : decode cX6_isLawful 60 = .ok (.istore 4, 2) := by decide +kernel
theorem dX6_isLawful_62 : decode cX6_isLawful 62 = .ok (.iinc 5 1, 3) := by decide +kernel
theorem dX6_isLawful_65 : decode cX6_isLawful 65 = .ok (.goto (-59), 3) := by decide +kernel
theorem dX6_isLawful_68 : decode cX6_isLawful 68 = .ok (.iload 4, 2) := by decide +kernel
theorem dX6_isLawful_70 : decode cX6_isLawful 70 = .ok (.ireturn, 1) := by decide +kernel
theorem dX6_takes_0 : decode cX6_takes 0 = .ok (.iconst 0, 1) := by decide +kernel
theorem dX6_takes_1 : decode cX6_takes 1 = .ok (.istore_n 1, 1) := by decide +kernel
theorem dX6_takes_2 : decode cX6_takes 2 = .ok (.iload_n 1, 1) := by decide +kernel
theorem dX6_takes_3 : decode cX6_takes 3 = .ok (.bipush 7, 2) := by decide +kernel
theorem dX6_takes_5 : decode cX6_takes 5 = .ok (.if_icmp .ge 24, 3) := by decide +kernel
theorem dX6_takes_8 : decode cX6_takes 8 = .ok (.aload_n 0, 1) := by decide +kernel
theorem dX6_takes_9 : decode cX6_takes 9 = .ok (.getfield 13, 3) := by decide +kernel
theorem dX6_takes_12 : decode cX6_takes 12 = .ok (.iload_n 1, 1) := by decide +kernel
theorem dX6_takes_13 : decode cX6_takes 13 = .ok (.aload_n 0, 1) := by decide +kernel
theorem dX6_takes_14 : decode cX6_takes 14 = .ok (.getfield 13, 3) := by decide +kernel
theorem dX6_takes_17 : decode cX6_takes 17 = .ok (.bipush 7, 2) := by decide +kernel
theorem dX6_takes_19 : decode cX6_takes 19 = .ok (.iload_n 1, 1) := by decide +kernel
theorem dX6_takes_20 : decode cX6_takes 20 = .ok (.iadd, 1) := by decide +kernel
theorem dX6_takes_21 : decode cX6_takes 21 = .ok (.iaload, 1) := by decide +kernel
theorem dX6_takes_22 : decode cX6_takes 22 = .ok (.iastore, 1) := by decide +kernel
theorem dX6_takes_23 : decode cX6_takes 23 = .ok (.iinc 1 1, 3) := by decide +kernel
theorem dX6_takes_26 : decode cX6_takes 26 = .ok (.goto (-24), 3) := by decide +kernel
theorem dX6_takes_29 : decode cX6_takes 29 = .ok (.iconst 0, 1) := by decide +kernel
theorem dX6_takes_30 : decode cX6_takes 30 = .ok (.istore_n 1, 1) := by decide +kernel
theorem dX6_takes_31 : decode cX6_takes 31 = .ok (.iload_n 1, 1) := by decide +kernel
theorem dX6_takes_32 : decode cX6_takes 32 = .ok (.bipush 20, 2) := by decide +kernel
theorem dX6_takes_34 : decode cX6_takes 34 = .ok (.if_icmp .ge 87, 3) := by decide +kernel
theorem dX6_takes_37 : decode cX6_takes 37 = .ok (.aload_n 0, 1) := by decide +kernel
theorem dX6_takes_38 : decode cX6_takes 38 = .ok (.getfield 17, 3) := by decide +kernel
theorem dX6_takes_41 : decode cX6_takes 41 = .ok (.iload_n 1, 1) := by decide +kernel
theorem dX6_takes_42 : decode cX6_takes 42 = .ok (.aload_n 0, 1) := by decide +kernel
theorem dX6_takes_43 : decode cX6_takes 43 = .ok (.getfield 17, 3) := by decide +kernel
theorem dX6_takes_46 : decode cX6_takes 46 = .ok (.bipush 20, 2) := by decide +kernel
theorem dX6_takes_48 : decode cX6_takes 48 = .ok (.iload_n 1, 1) := by decide +kernel
theorem dX6_takes_49 : decode cX6_takes 49 = .ok (.iadd, 1) := by decide +kernel
theorem dX6_takes_50 : decode cX6_takes 50 = .ok (.iaload, 1) := by decide +kernel
theorem dX6_takes_51 : decode cX6_takes 51 = .ok (.iastore, 1) := by decide +kernel
theorem dX6_takes_52 : decode cX6_takes 52 = .ok (.iload_n 1, 1) := by decide +kernel
theorem dX6_takes_53 : decode cX6_takes 53 = .ok (.bipush 18, 2) := by decide +kernel
theorem dX6_takes_55 : decode cX6_takes 55 = .ok (.if_icmp .ge 18, 3) := by decide +kernel
theorem dX6_takes_58 : decode cX6_takes 58 = .ok (.aload_n 0, 1) := by decide +kernel
theorem dX6_takes_59 : decode cX6_takes 59 = .ok (.getfield 26, 3) := by decide +kernel
theorem dX6_takes_62 : decode cX6_takes 62 = .ok (.iload_n 1, 1) := by decide +kernel
theorem dX6_takes_63 : decode cX6_takes 63 = .ok (.aload_n 0, 1) := by decide +kernel
theorem dX6_takes_64 : decode cX6_takes 64 = .ok (.getfield 26, 3) := by decide +kernel
theorem dX6_takes_67 : decode cX6_takes 67 = .ok (.bipush 18, 2) := by decide +kernel
theorem dX6_takes_69 : decode cX6_takes 69 = .ok (.iload_n 1, 1) := by decide +kernel
theorem dX6_takes_70 : decode cX6_takes 70 = .ok (.iadd, 1) := by decide +kernel
theorem dX6_takes_71 : decode cX6_takes 71 = .ok (.iaload, 1) := by decide +kernel
theorem dX6_takes_72 : decode cX6_takes 72 = .ok (.iastore, 1) := by decide +kernel
theorem dX6_takes_73 : decode cX6_takes 73 = .ok (.iload_n 1, 1) := by decide +kernel
theorem dX6_takes_74 : decode cX6_takes 74 = .ok (.bipush 15, 2) := by decide +kernel
theorem dX6_takes_76 : decode cX6_takes 76 = .ok (.if_icmp .ge 18, 3) := by decide +kernel
theorem dX6_takes_79 : decode cX6_takes 79 = .ok (.aload_n 0, 1) := by decide +kernel
theorem dX6_takes_80 : decode cX6_takes 80 = .ok (.getfield 23, 3) := by decide +kernel
theorem dX6_takes_83 : decode cX6_takes 83 = .ok (.iload_n 1, 1) := by decide +kernel
theorem dX6_takes_84 : decode cX6_takes 84 = .ok (.aload_n 0, 1) := by decide +kernel
theorem dX6_takes_85 : decode cX6_takes 85 = .ok (.getfield 23, 3) := by decide +kernel
theorem dX6_takes_88 : decode cX6_takes 88 = .ok (.bipush 15, 2) := by decide +kernel
theorem dX6_takes_90 : decode cX6_takes 90 = .ok (.iload_n 1, 1) := by decide +kernel
theorem dX6_takes_91 : decode cX6_takes 91 = .ok (.iadd, 1) := by decide +kernel
theorem dX6_takes_92 : decode cX6_takes 92 = .ok (.iaload, 1) := by decide +kernel
theorem dX6_takes_93 : decode cX6_takes 93 = .ok (.iastore, 1) := by decide +kernel
theorem dX6_takes_94 : decode cX6_takes 94 = .ok (.iload_n 1, 1) := by decide +kernel
theorem dX6_takes_95 : decode cX6_takes 95 = .ok (.bipush 10, 2) := by decide +kernel
theorem dX6_takes_97 : decode cX6_takes 97 = .ok (.if_icmp .ge 18, 3) := by decide +kernel
theorem dX6_takes_100 : decode cX6_takes 100 = .ok (.aload_n 0, 1) := by decide +kernel
theorem dX6_takes_101 : decode cX6_takes 101 = .ok (.getfield 20, 3) := by decide +kernel
theorem dX6_takes_104 : decode cX6_takes 104 = .ok (.iload_n 1, 1) := by decide +kernel
theorem dX6_takes_105 : decode cX6_takes 105 = .ok (.aload_n 0, 1) := by decide +kernel
theorem dX6_takes_106 : decode cX6_takes 106 = .ok (.getfield 20, 3) := by decide +kernel
theorem dX6_takes_109 : decode cX6_takes 109 = .ok (.bipush 10, 2) := by decide +kernel
theorem dX6_takes_111 : decode cX6_takes 111 = .ok (.iload_n 1, 1) := by decide +kernel
theorem dX6_takes_112 : decode cX6_takes 112 = .ok (.iadd, 1) := by decide +kernel
theorem dX6_takes_113 : decode cX6_takes 113 = .ok (.iaload, 1) := by decide +kernel
theorem dX6_takes_114 : decode cX6_takes 114 = .ok (.iastore, 1) := by decide +kernel
theorem dX6_takes_115 : decode cX6_takes 115 = .ok (.iinc 1 1, 3) := by decide +kernel
theorem dX6_takes_118 : decode cX6_takes 118 = .ok (.goto (-87), 3) := by decide +kernel
theorem dX6_takes_121 : decode cX6_takes 121 = .ok (.aload_n 0, 1) := by decide +kernel
theorem dX6_takes_122 : decode cX6_takes 122 = .ok (.iconst 0, 1) := by decide +kernel
theorem dX6_takes_123 : decode cX6_takes 123 = .ok (.putfield 95, 3) := by decide +kernel
theorem dX6_takes_126 : decode cX6_takes 126 = .ok (.iconst 0, 1) := by decide +kernel
theorem dX6_takes_127 : decode cX6_takes 127 = .ok (.istore_n 1, 1) := by decide +kernel
theorem dX6_takes_128 : decode cX6_takes 128 = .ok (.iload_n 1, 1) := by decide +kernel
theorem dX6_takes_129 : decode cX6_takes 129 = .ok (.sipush 256, 3) := by decide +kernel
theorem dX6_takes_132 : decode cX6_takes 132 = .ok (.if_icmp .ge 70, 3) := by decide +kernel
theorem dX6_takes_135 : decode cX6_takes 135 = .ok (.aload_n 0, 1) := by decide +kernel
theorem dX6_takes_136 : decode cX6_takes 136 = .ok (.getfield 29, 3) := by decide +kernel
theorem dX6_takes_139 : decode cX6_takes 139 = .ok (.iload_n 1, 1) := by decide +kernel
theorem dX6_takes_140 : decode cX6_takes 140 = .ok (.iload_n 1, 1) := by decide +kernel
theorem dX6_takes_141 : decode cX6_takes 141 = .ok (.iconst 1, 1) := by decide +kernel
theorem dX6_takes_142 : decode cX6_takes 142 = .ok (.aload_n 0, 1) := by decide +kernel
theorem dX6_takes_143 : decode cX6_takes 143 = .ok (.getfield 13, 3) := by decide +kernel
theorem dX6_takes_146 : decode cX6_takes 146 = .ok (.iconst 0, 1) := by decide +kernel
theorem dX6_takes_147 : decode cX6_takes 147 = .ok (.iaload, 1) := by decide +kernel
theorem dX6_takes_148 : decode cX6_takes 148 = .ok (.ishl, 1) := by decide +kernel
theorem dX6_takes_149 : decode cX6_takes 149 = .ok (.if_icmp .ge 22, 3) := by decide +kernel
theorem dX6_takes_152 : decode cX6_takes 152 = .ok (.aload_n 0, 1) := by decide +kernel
theorem dX6_takes_153 : decode cX6_takes 153 = .ok (.iload_n 1, 1) := by decide +kernel
theorem dX6_takes_154 : decode cX6_takes 154 = .ok (.iconst 0, 1) := by decide +kernel
theorem dX6_takes_155 : decode cX6_takes 155 = .ok (.aload_n 0, 1) := by decide +kernel
theorem dX6_takes_156 : decode cX6_takes 156 = .ok (.getfield 13, 3) := by decide +kernel
theorem dX6_takes_159 : decode cX6_takes 159 = .ok (.iconst 1, 1) := by decide +kernel
theorem dX6_takes_160 : decode cX6_takes 160 = .ok (.iaload, 1) := by decide +kernel
theorem dX6_takes_161 : decode cX6_takes 161 = .ok (.invokevirtual 98, 3) := by decide +kernel
theorem dX6_takes_164 : decode cX6_takes 164 = .ok (.ifCond .eq 7, 3) := by decide +kernel
theorem dX6_takes_167 : decode cX6_takes 167 = .ok (.iconst 1, 1) := by decide +kernel
theorem dX6_takes_168 : decode cX6_takes 168 = .ok (.goto 4, 3) := by decide +kernel
theorem dX6_takes_171 : decode cX6_takes 171 = .ok (.iconst 0, 1) := by decide +kernel
theorem dX6_takes_172 : decode cX6_takes 172 = .ok (.bastore, 1) := by decide +kernel
theorem dX6_takes_173 : decode cX6_takes 173 = .ok (.aload_n 0, 1) := by decide +kernel
theorem dX6_takes_174 : decode cX6_takes 174 = .ok (.dup, 1) := by decide +kernel
theorem dX6_takes_175 : decode cX6_takes 175 = .ok (.getfield 95, 3) := by decide +kernel
theorem dX6_takes_178 : decode cX6_takes 178 = .ok (.aload_n 0, 1) := by decide +kernel
theorem dX6_takes_179 : decode cX6_takes 179 = .ok (.getfield 29, 3) := by decide +kernel
theorem dX6_takes_182 : decode cX6_takes 182 = .ok (.iload_n 1, 1) := by decide +kernel
theorem dX6_takes_183 : decode cX6_takes 183 = .ok (.baload, 1) := by decide +kernel
theorem dX6_takes_184 : decode cX6_takes 184 = .ok (.ifCond .eq 7, 3) := by decide +kernel
theorem dX6_takes_187 : decode cX6_takes 187 = .ok (.iconst 1, 1) := by decide +kernel
theorem dX6_takes_188 : decode cX6_takes 188 = .ok (.goto 4, 3) := by decide +kernel
theorem dX6_takes_191 : decode cX6_takes 191 = .ok (.iconst 0, 1) := by decide +kernel
theorem dX6_takes_192 : decode cX6_takes 192 = .ok (.iadd, 1) := by decide +kernel
theorem dX6_takes_193 : decode cX6_takes 193 = .ok (.putfield 95, 3) := by decide +kernel
theorem dX6_takes_196 : decode cX6_takes 196 = .ok (.iinc 1 1, 3) := by decide +kernel
theorem dX6_takes_199 : decode cX6_takes 199 = .ok (.goto (-71), 3) := by decide +kernel
theorem dX6_takes_202 : decode cX6_takes 202 = .ok (.iconst 0, 1) := by decide +kernel
theorem dX6_takes_203 : decode cX6_takes 203 = .ok (.istore_n 1, 1) := by decide +kernel
theorem dX6_takes_204 : decode cX6_takes 204 = .ok (.iload_n 1, 1) := by decide +kernel
theorem dX6_takes_205 : decode cX6_takes 205 = .ok (.bipush 56, 2) := by decide +kernel
theorem dX6_takes_207 : decode cX6_takes 207 = .ok (.if_icmp .ge 16, 3) := by decide +kernel
theorem dX6_takes_210 : decode cX6_takes 210 = .ok (.aload_n 0, 1) := by decide +kernel
theorem dX6_takes_211 : decode cX6_takes 211 = .ok (.getfield 33, 3) := by decide +kernel
theorem dX6_takes_214 : decode cX6_takes 214 = .ok (.iload_n 1, 1) := by decide +kernel
theorem dX6_takes_215 : decode cX6_takes 215 = .ok (.iconst 0, 1) := by decide +kernel
theorem dX6_takes_216 : decode cX6_takes 216 = .ok (.iastore, 1) := by decide +kernel
theorem dX6_takes_217 : decode cX6_takes 217 = .ok (.iinc 1 1, 3) := by decide +kernel
theorem dX6_takes_220 : decode cX6_takes 220 = .ok (.goto (-16), 3) := by decide +kernel
theorem dX6_takes_223 : decode cX6_takes 223 = .ok (.aload_n 0, 1) := by decide +kernel
theorem dX6_takes_224 : decode cX6_takes 224 = .ok (.getfield 33, 3) := by decide +kernel
theorem dX6_takes_227 : decode cX6_takes 227 = .ok (.iconst 0, 1) := by decide +kernel
theorem dX6_takes_228 : decode cX6_takes 228 = .ok (.aload_n 0, 1) := by decide +kernel
theorem dX6_takes_229 : decode cX6_takes 229 = .ok (.getfield 13, 3) := by decide +kernel
theorem dX6_takes_232 : decode cX6_takes 232 = .ok (.iconst 5, 1) := by decide +kernel
theorem dX6_takes_233 : decode cX6_takes 233 = .ok (.iaload, 1) := by decide +kernel
theorem dX6_takes_234 : decode cX6_takes 234 = .ok (.iastore, 1) := by decide +kernel
theorem dX6_takes_235 : decode cX6_takes 235 = .ok (.aload_n 0, 1) := by decide +kernel
theorem dX6_takes_236 : decode cX6_takes 236 = .ok (.iconst 0, 1) := by decide +kernel
theorem dX6_takes_237 : decode cX6_takes 237 = .ok (.invokevirtual 102, 3) := by decide +kernel
theorem dX6_takes_240 : decode cX6_takes 240 = .ok (.aload_n 0, 1) := by decide +kernel
theorem dX6_takes_241 : decode cX6_takes 241 = .ok (.iconst 0, 1) := by decide +kernel
theorem dX6_takes_242 : decode cX6_takes 242 = .ok (.putfield 106, 3) := by decide +kernel
theorem dX6_takes_245 : decode cX6_takes 245 = .ok (.aload_n 0, 1) := by decide +kernel
theorem dX6_takes_246 : decode cX6_takes 246 = .ok (.iconst 0, 1) := by decide +kernel
theorem dX6_takes_247 : decode cX6_takes 247 = .ok (.putfield 109, 3) := by decide +kernel
theorem dX6_takes_250 : decode cX6_takes 250 = .ok (.return_, 1) := by decide +kernel
theorem dX6_rests_0 : decode cX6_rests 0 = .ok (.iconst 0, 1) := by decide +kernel
theorem dX6_rests_1 : decode cX6_rests 1 = .ok (.istore_n 2, 1) := by decide +kernel
theorem dX6_rests_2 : decode cX6_rests 2 = .ok (.iload_n 2, 1) := by decide +kernel
theorem dX6_rests_3 : decode cX6_rests 3 = .ok (.aload_n 0, 1) := by decide +kernel
theorem dX6_rests_4 : decode cX6_rests 4 = .ok (.getfield 13, 3) := by decide +kernel
theorem dX6_rests_7 : decode cX6_rests 7 = .ok (.iconst 2, 1) := by decide +kernel
theorem dX6_rests_8 : decode cX6_rests 8 = .ok (.iaload, 1) := by decide +kernel
theorem dX6_rests_9 : decode cX6_rests 9 = .ok (.if_icmp .ge 30, 3) := by decide +kernel
theorem dX6_rests_12 : decode cX6_rests 12 = .ok (.aload_n 0, 1) := by decide +kernel
theorem dX6_rests_13 : decode cX6_rests 13 = .ok (.getfield 33, 3) := by decide +kernel
theorem dX6_rests_16 : decode cX6_rests 16 = .ok (.bipush 56, 2) := by decide +kernel
theorem dX6_rests_18 : decode cX6_rests 18 = .ok (.iload_n 1, 1) := by decide +kernel
theorem dX6_rests_19 : decode cX6_rests 19 = .ok (.imul, 1) := by decide +kernel
theorem dX6_rests_20 : decode cX6_rests 20 = .ok (.iconst 3, 1) := by decide +kernel
theorem dX6_rests_21 : decode cX6_rests 21 = .ok (.iadd, 1) := by decide +kernel
theorem dX6_rests_22 : decode cX6_rests 22 = .ok (.iload_n 2, 1) := by decide +kernel
theorem dX6_rests_23 : decode cX6_rests 23 = .ok (.iadd, 1) := by decide +kernel
theorem dX6_rests_24 : decode cX6_rests 24 = .ok (.aload_n 0, 1) := by decide +kernel
theorem dX6_rests_25 : decode cX6_rests 25 = .ok (.getfield 20, 3) := by decide +kernel
theorem dX6_rests_28 : decode cX6_rests 28 = .ok (.iconst 2, 1) := by decide +kernel
theorem dX6_rests_29 : decode cX6_rests 29 = .ok (.iload_n 2, 1) := by decide +kernel
theorem dX6_rests_30 : decode cX6_rests 30 = .ok (.imul, 1) := by decide +kernel
theorem dX6_rests_31 : decode cX6_rests 31 = .ok (.iaload, 1) := by decide +kernel
theorem dX6_rests_32 : decode cX6_rests 32 = .ok (.iastore, 1) := by decide +kernel
theorem dX6_rests_33 : decode cX6_rests 33 = .ok (.iinc 2 1, 3) := by decide +kernel
theorem dX6_rests_36 : decode cX6_rests 36 = .ok (.goto (-34), 3) := by decide +kernel
theorem dX6_rests_39 : decode cX6_rests 39 = .ok (.return_, 1) := by decide +kernel
theorem dX6_fault_0 : decode cX6_fault 0 = .ok (.aload_n 0, 1) := by decide +kernel
theorem dX6_fault_1 : decode cX6_fault 1 = .ok (.iconst 0, 1) := by decide +kernel
theorem dX6_fault_2 : decode cX6_fault 2 = .ok (.putfield 60, 3) := by decide +kernel
theorem dX6_fault_5 : decode cX6_fault 5 = .ok (.aload_n 0, 1) := by decide +kernel
theorem dX6_fault_6 : decode cX6_fault 6 = .ok (.invokevirtual 42, 3) := by decide +kernel
theorem dX6_fault_9 : decode cX6_fault 9 = .ok (.aload_n 0, 1) := by decide +kernel
theorem dX6_fault_10 : decode cX6_fault 10 = .ok (.getfield 60, 3) := by decide +kernel
theorem dX6_fault_13 : decode cX6_fault 13 = .ok (.aload_n 0, 1) := by decide +kernel
theorem dX6_fault_14 : decode cX6_fault 14 = .ok (.getfield 56, 3) := by decide +kernel
theorem dX6_fault_17 : decode cX6_fault 17 = .ok (.if_icmp .ge 20, 3) := by decide +kernel
theorem dX6_fault_20 : decode cX6_fault 20 = .ok (.aload_n 0, 1) := by decide +kernel
theorem dX6_fault_21 : decode cX6_fault 21 = .ok (.getfield 60, 3) := by decide +kernel
theorem dX6_fault_24 : decode cX6_fault 24 = .ok (.istore_n 1, 1) := by decide +kernel
theorem dX6_fault_25 : decode cX6_fault 25 = .ok (.aload_n 0, 1) := by decide +kernel
theorem dX6_fault_26 : decode cX6_fault 26 = .ok (.invokevirtual 112, 3) := by decide +kernel
theorem dX6_fault_29 : decode cX6_fault 29 = .ok (.ifCond .ne 5, 3) := by decide +kernel
theorem dX6_fault_32 : decode cX6_fault 32 = .ok (.iload_n 1, 1) := by decide +kernel
theorem dX6_fault_33 : decode cX6_fault 33 = .ok (.ireturn, 1) := by decide +kernel
theorem dX6_fault_34 : decode cX6_fault 34 = .ok (.goto (-25), 3) := by decide +kernel
theorem dX6_fault_37 : decode cX6_fault 37 = .ok (.bipush (-4), 2) := by decide +kernel
theorem dX6_fault_39 : decode cX6_fault 39 = .ok (.ireturn, 1) := by decide +kernel
theorem dX6_lay_0 : decode cX6_lay 0 = .ok (.aload_n 0, 1) := by decide +kernel
theorem dX6_lay_1 : decode cX6_lay 1 = .ok (.invokevirtual 116, 3) := by decide +kernel
theorem dX6_lay_4 : decode cX6_lay 4 = .ok (.bipush (-4), 2) := by decide +kernel
theorem dX6_lay_6 : decode cX6_lay 6 = .ok (.if_icmp .ne 46, 3) := by decide +kernel
theorem dX6_lay_9 : decode cX6_lay 9 = .ok (.aload_n 0, 1) := by decide +kernel
theorem dX6_lay_10 : decode cX6_lay 10 = .ok (.getfield 13, 3) := by decide +kernel
theorem dX6_lay_13 : decode cX6_lay 13 = .ok (.bipush 9, 2) := by decide +kernel
theorem dX6_lay_15 : decode cX6_lay 15 = .ok (.iaload, 1) := by decide +kernel
theorem dX6_lay_16 : decode cX6_lay 16 = .ok (.ifCond .eq 36, 3) := by decide +kernel
theorem dX6_lay_19 : decode cX6_lay 19 = .ok (.aload_n 0, 1) := by decide +kernel
theorem dX6_lay_20 : decode cX6_lay 20 = .ok (.getfield 13, 3) := by decide +kernel
theorem dX6_lay_23 : decode cX6_lay 23 = .ok (.bipush 10, 2) := by decide +kernel
theorem dX6_lay_25 : decode cX6_lay 25 = .ok (.iaload, 1) := by decide +kernel
theorem dX6_lay_26 : decode cX6_lay 26 = .ok (.ifCond .eq 26, 3) := by decide +kernel
theorem dX6_lay_29 : decode cX6_lay 29 = .ok (.aload_n 0, 1) := by decide +kernel
theorem dX6_lay_30 : decode cX6_lay 30 = .ok (.aload_n 0, 1) := by decide +kernel
theorem dX6_lay_31 : decode cX6_lay 31 = .ok (.getfield 13, 3) := by decide +kernel
theorem dX6_lay_34 : decode cX6_lay 34 = .ok (.bipush 12, 2) := by decide +kernel
theorem dX6_lay_36 : decode cX6_lay 36 = .ok (.iaload, 1) := by decide +kernel
theorem dX6_lay_37 : decode cX6_lay 37 = .ok (.bipush 20, 2) := by decide +kernel
theorem dX6_lay_39 : decode cX6_lay 39 = .ok (.aload_n 0, 1) := by decide +kernel
theorem dX6_lay_40 : decode cX6_lay 40 = .ok (.getfield 13, 3) := by decide +kernel
theorem dX6_lay_43 : decode cX6_lay 43 = .ok (.bipush 8, 2) := by decide +kernel
theorem dX6_lay_45 : decode cX6_lay 45 = .ok (.iaload, 1) := by decide +kernel
theorem dX6_lay_46 : decode cX6_lay 46 = .ok (.invokevirtual 98, 3) := by decide +kernel
theorem dX6_lay_49 : decode cX6_lay 49 = .ok (.ifCond .ne 6, 3) := by decide +kernel
theorem dX6_lay_52 : decode cX6_lay 52 = .ok (.bipush (-2), 2) := by decide +kernel
theorem dX6_lay_54 : decode cX6_lay 54 = .ok (.ireturn, 1) := by decide +kernel
theorem dX6_lay_55 : decode cX6_lay 55 = .ok (.aload_n 0, 1) := by decide +kernel
theorem dX6_lay_56 : decode cX6_lay 56 = .ok (.invokevirtual 45, 3) := by decide +kernel
theorem dX6_lay_59 : decode cX6_lay 59 = .ok (.aload_n 0, 1) := by decide +kernel
theorem dX6_lay_60 : decode cX6_lay 60 = .ok (.getfield 95, 3) := by decide +kernel
theorem dX6_lay_63 : decode cX6_lay 63 = .ok (.ireturn, 1) := by decide +kernel
theorem dX6_isFact_0 : decode cX6_isFact 0 = .ok (.iload_n 1, 1) := by decide +kernel
theorem dX6_isFact_1 : decode cX6_isFact 1 = .ok (.i2l, 1) := by decide +kernel
theorem dX6_isFact_2 : decode cX6_isFact 2 = .ok (.lconst 0, 1) := by decide +kernel
theorem dX6_isFact_3 : decode cX6_isFact 3 = .ok (.aload_n 0, 1) := by decide +kernel
theorem dX6_isFact_4 : decode cX6_isFact 4 = .ok (.getfield 13, 3) := by decide +kernel
theorem dX6_isFact_7 : decode cX6_isFact 7 = .ok (.iconst 0, 1) := by decide +kernel
theorem dX6_isFact_8 : decode cX6_isFact 8 = .ok (.iaload, 1) := by decide +kernel
theorem dX6_isFact_9 : decode cX6_isFact 9 = .ok (.iconst 1, 1) := by decide +kernel
theorem dX6_isFact_10 : decode cX6_isFact 10 = .ok (.isub, 1) := by decide +kernel
theorem dX6_isFact_11 : decode cX6_isFact 11 = .ok (.i2l, 1) := by decide +kernel
theorem dX6_isFact_12 : decode cX6_isFact 12 = .ok (.invokestatic 52, 3) := by decide +kernel
theorem dX6_isFact_15 : decode cX6_isFact 15 = .ok (.ireturn, 1) := by decide +kernel
theorem dX6_isSaying_0 : decode cX6_isSaying 0 = .ok (.iload_n 1, 1) := by decide +kernel
theorem dX6_isSaying_1 : decode cX6_isSaying 1 = .ok (.i2l, 1) := by decide +kernel
theorem dX6_isSaying_2 : decode cX6_isSaying 2 = .ok (.lconst 0, 1) := by decide +kernel
theorem dX6_isSaying_3 : decode cX6_isSaying 3 = .ok (.iconst 2, 1) := by decide +kernel
theorem dX6_isSaying_4 : decode cX6_isSaying 4 = .ok (.aload_n 0, 1) := by decide +kernel
theorem dX6_isSaying_5 : decode cX6_isSaying 5 = .ok (.getfield 13, 3) := by decide +kernel
theorem dX6_isSaying_8 : decode cX6_isSaying 8 = .ok (.iconst 0, 1) := by decide +kernel
theorem dX6_isSaying_9 : decode cX6_isSaying 9 = .ok (.iaload, 1) := by decide +kernel
theorem dX6_isSaying_10 : decode cX6_isSaying 10 = .ok (.imul, 1) := by decide +kernel
theorem dX6_isSaying_11 : decode cX6_isSaying 11 = .ok (.iconst 1, 1) := by decide +kernel
theorem dX6_isSaying_12 : decode cX6_isSaying 12 = .ok (.isub, 1) := by decide +kernel
theorem dX6_isSaying_13 : decode cX6_isSaying 13 = .ok (.i2l, 1) := by decide +kernel
theorem dX6_isSaying_14 : decode cX6_isSaying 14 = .ok (.invokestatic 52, 3) := by decide +kernel
theorem dX6_isSaying_17 : decode cX6_isSaying 17 = .ok (.ireturn, 1) := by decide +kernel
theorem dX6_isPerson_0 : decode cX6_isPerson 0 = .ok (.iload_n 1, 1) := by decide +kernel
theorem dX6_isPerson_1 : decode cX6_isPerson 1 = .ok (.i2l, 1) := by decide +kernel
theorem dX6_isPerson_2 : decode cX6_isPerson 2 = .ok (.lconst 0, 1) := by decide +kernel
theorem dX6_isPerson_3 : decode cX6_isPerson 3 = .ok (.aload_n 0, 1) := by decide +kernel
theorem dX6_isPerson_4 : decode cX6_isPerson 4 = .ok (.getfield 13, 3) := by decide +kernel
theorem dX6_isPerson_7 : decode cX6_isPerson 7 = .ok (.iconst 2, 1) := by decide +kernel
theorem dX6_isPerson_8 : decode cX6_isPerson 8 = .ok (.iaload, 1) := by decide +kernel
theorem dX6_isPerson_9 : decode cX6_isPerson 9 = .ok (.iconst 1, 1) := by decide +kernel
theorem dX6_isPerson_10 : decode cX6_isPerson 10 = .ok (.isub, 1) := by decide +kernel
theorem dX6_isPerson_11 : decode cX6_isPerson 11 = .ok (.i2l, 1) := by decide +kernel
theorem dX6_isPerson_12 : decode cX6_isPerson 12 = .ok (.invokestatic 52, 3) := by decide +kernel
theorem dX6_isPerson_15 : decode cX6_isPerson 15 = .ok (.ireturn, 1) := by decide +kernel
theorem dX6_isStone_0 : decode cX6_isStone 0 = .ok (.iload_n 1, 1) := by decide +kernel
theorem dX6_isStone_1 : decode cX6_isStone 1 = .ok (.i2l, 1) := by decide +kernel
theorem dX6_isStone_2 : decode cX6_isStone 2 = .ok (.lconst 0, 1) := by decide +kernel
theorem dX6_isStone_3 : decode cX6_isStone 3 = .ok (.aload_n 0, 1) := by decide +kernel
theorem dX6_isStone_4 : decode cX6_isStone 4 = .ok (.getfield 13, 3) := by decide +kernel
theorem dX6_isStone_7 : decode cX6_isStone 7 = .ok (.iconst 3, 1) := by decide +kernel
theorem dX6_isStone_8 : decode cX6_isStone 8 = .ok (.iaload, 1) := by decide +kernel
theorem dX6_isStone_9 : decode cX6_isStone 9 = .ok (.iconst 1, 1) := by decide +kernel
theorem dX6_isStone_10 : decode cX6_isStone 10 = .ok (.isub, 1) := by decide +kernel
theorem dX6_isStone_11 : decode cX6_isStone 11 = .ok (.i2l, 1) := by decide +kernel
theorem dX6_isStone_12 : decode cX6_isStone 12 = .ok (.invokestatic 52, 3) := by decide +kernel
theorem dX6_isStone_15 : decode cX6_isStone 15 = .ok (.ireturn, 1) := by decide +kernel
theorem dX6_isMark_0 : decode cX6_isMark 0 = .ok (.iload_n 1, 1) := by decide +kernel
theorem dX6_isMark_1 : decode cX6_isMark 1 = .ok (.i2l, 1) := by decide +kernel
theorem dX6_isMark_2 : decode cX6_isMark 2 = .ok (.lconst 0, 1) := by decide +kernel
theorem dX6_isMark_3 : decode cX6_isMark 3 = .ok (.aload_n 0, 1) := by decide +kernel
theorem dX6_isMark_4 : decode cX6_isMark 4 = .ok (.getfield 33, 3) := by decide +kernel
theorem dX6_isMark_7 : decode cX6_isMark 7 = .ok (.iconst 2, 1) := by decide +kernel
theorem dX6_isMark_8 : decode cX6_isMark 8 = .ok (.iaload, 1) := by decide +kernel
theorem dX6_isMark_9 : decode cX6_isMark 9 = .ok (.iconst 1, 1) := by decide +kernel
theorem dX6_isMark_10 : decode cX6_isMark 10 = .ok (.isub, 1) := by decide +kernel
theorem dX6_isMark_11 : decode cX6_isMark 11 = .ok (.i2l, 1) := by decide +kernel
theorem dX6_isMark_12 : decode cX6_isMark 12 = .ok (.invokestatic 52, 3) := by decide +kernel
theorem dX6_isMark_15 : decode cX6_isMark 15 = .ok (.ireturn, 1) := by decide +kernel
theorem dX6_isSet_0 : decode cX6_isSet 0 = .ok (.iload_n 1, 1) := by decide +kernel
theorem dX6_isSet_1 : decode cX6_isSet 1 = .ok (.i2l, 1) := by decide +kernel
theorem dX6_isSet_2 : decode cX6_isSet 2 = .ok (.lconst 0, 1) := by decide +kernel
theorem dX6_isSet_3 : decode cX6_isSet 3 = .ok (.iconst 1, 1) := by decide +kernel
theorem dX6_isSet_4 : decode cX6_isSet 4 = .ok (.aload_n 0, 1) := by decide +kernel
theorem dX6_isSet_5 : decode cX6_isSet 5 = .ok (.getfield 13, 3) := by decide +kernel
theorem dX6_isSet_8 : decode cX6_isSet 8 = .ok (.iconst 0, 1) := by decide +kernel
theorem dX6_isSet_9 : decode cX6_isSet 9 = .ok (.iaload, 1) := by decide +kernel
theorem dX6_isSet_10 : decode cX6_isSet 10 = .ok (.ishl, 1) := by decide +kernel
theorem dX6_isSet_11 : decode cX6_isSet 11 = .ok (.iconst 1, 1) := by decide +kernel
theorem dX6_isSet_12 : decode cX6_isSet 12 = .ok (.isub, 1) := by decide +kernel
theorem dX6_isSet_13 : decode cX6_isSet 13 = .ok (.i2l, 1) := by decide +kernel
theorem dX6_isSet_14 : decode cX6_isSet 14 = .ok (.invokestatic 52, 3) := by decide +kernel
theorem dX6_isSet_17 : decode cX6_isSet 17 = .ok (.ireturn, 1) := by decide +kernel
theorem dX6_isRule_0 : decode cX6_isRule 0 = .ok (.iload_n 0, 1) := by decide +kernel
theorem dX6_isRule_1 : decode cX6_isRule 1 = .ok (.i2l, 1) := by decide +kernel
theorem dX6_isRule_2 : decode cX6_isRule 2 = .ok (.lconst 1, 1) := by decide +kernel
theorem dX6_isRule_3 : decode cX6_isRule 3 = .ok (.ldc2_w 67, 3) := by decide +kernel
theorem dX6_isRule_6 : decode cX6_isRule 6 = .ok (.invokestatic 52, 3) := by decide +kernel
theorem dX6_isRule_9 : decode cX6_isRule 9 = .ok (.ireturn, 1) := by decide +kernel
theorem dX6_free_0 : decode cX6_free 0 = .ok (.aload_n 0, 1) := by decide +kernel
theorem dX6_free_1 : decode cX6_free 1 = .ok (.getfield 23, 3) := by decide +kernel
theorem dX6_free_4 : decode cX6_free 4 = .ok (.iconst 3, 1) := by decide +kernel
theorem dX6_free_5 : decode cX6_free 5 = .ok (.iload_n 2, 1) := by decide +kernel
theorem dX6_free_6 : decode cX6_free 6 = .ok (.imul, 1) := by decide +kernel
theorem dX6_free_7 : decode cX6_free 7 = .ok (.iaload, 1) := by decide +kernel
theorem dX6_free_8 : decode cX6_free 8 = .ok (.istore_n 3, 1) := by decide +kernel
theorem dX6_free_9 : decode cX6_free 9 = .ok (.iconst 0, 1) := by decide +kernel
theorem dX6_free_10 : decode cX6_free 10 = .ok (.istore 4, 2) := by decide +kernel
theorem dX6_free_12 : decode cX6_free 12 = .ok (.iload 4, 2) := by decide +kernel
theorem dX6_free_14 : decode cX6_free 14 = .ok (.aload_n 0, 1) := by decide +kernel
theorem dX6_free_15 : decode cX6_free 15 = .ok (.getfield 33, 3) := by decide +kernel
theorem dX6_free_18 : decode cX6_free 18 = .ok (.bipush 56, 2) := by decide +kernel
theorem dX6_free_20 : decode cX6_free 20 = .ok (.iload_n 1, 1) := by decide +kernel
theorem dX6_free_21 : decode cX6_free 21 = .ok (.imul, 1) := by decide +kernel
theorem dX6_free_22 : decode cX6_free 22 = .ok (.iconst 2, 1) := by decide +kernel
theorem dX6_free_23 : decode cX6_free 23 = .ok (.iadd, 1) := by decide +kernel
theorem dX6_free_24 : decode cX6_free 24 = .ok (.iaload, 1) := by decide +kernel
theorem dX6_free_25 : decode cX6_free 25 = .ok (.if_icmp .ge 40, 3) := by decide +kernel
theorem dX6_free_28 : decode cX6_free 28 = .ok (.iload_n 3, 1) := by decide +kernel
theorem dX6_free_29 : decode cX6_free 29 = .ok (.aload_n 0, 1) := by decide +kernel
theorem dX6_free_30 : decode cX6_free 30 = .ok (.getfield 33, 3) := by decide +kernel
theorem dX6_free_33 : decode cX6_free 33 = .ok (.bipush 56, 2) := by decide +kernel
theorem dX6_free_35 : decode cX6_free 35 = .ok (.iload_n 1, 1) := by decide +kernel
theorem dX6_free_36 : decode cX6_free 36 = .ok (.imul, 1) := by decide +kernel
theorem dX6_free_37 : decode cX6_free 37 = .ok (.bipush 8, 2) := by decide +kernel
theorem dX6_free_39 : decode cX6_free 39 = .ok (.iadd, 1) := by decide +kernel
theorem dX6_free_40 : decode cX6_free 40 = .ok (.iconst 4, 1) := by decide +kernel
theorem dX6_free_41 : decode cX6_free 41 = .ok (.iload 4, 2) := by decide +kernel
theorem dX6_free_43 : decode cX6_free 43 = .ok (.imul, 1) := by decide +kernel
theorem dX6_free_44 : decode cX6_free 44 = .ok (.iadd, 1) := by decide +kernel
theorem dX6_free_45 : decode cX6_free 45 = .ok (.iconst 1, 1) := by decide +kernel
theorem dX6_free_46 : decode cX6_free 46 = .ok (.iadd, 1) := by decide +kernel
theorem dX6_free_47 : decode cX6_free 47 = .ok (.iaload, 1) := by decide +kernel
theorem dX6_free_48 : decode cX6_free 48 = .ok (.iload_n 2, 1) := by decide +kernel
theorem dX6_free_49 : decode cX6_free 49 = .ok (.if_icmp .ne 7, 3) := by decide +kernel
theorem dX6_free_52 : decode cX6_free 52 = .ok (.iconst 1, 1) := by decide +kernel
theorem dX6_free_53 : decode cX6_free 53 = .ok (.goto 4, 3) := by decide +kernel
theorem dX6_free_56 : decode cX6_free 56 = .ok (.iconst 0, 1) := by decide +kernel
theorem dX6_free_57 : decode cX6_free 57 = .ok (.isub, 1) := by decide +kernel
theorem dX6_free_58 : decode cX6_free 58 = .ok (.istore_n 3, 1) := by decide +kernel
theorem dX6_free_59 : decode cX6_free 59 = .ok (.iinc 4 1, 3) := by decide +kernel
theorem dX6_free_62 : decode cX6_free 62 = .ok (.goto (-50), 3) := by decide +kernel
theorem dX6_free_65 : decode cX6_free 65 = .ok (.iload_n 3, 1) := by decide +kernel
theorem dX6_free_66 : decode cX6_free 66 = .ok (.ireturn, 1) := by decide +kernel
theorem dX6_costs_0 : decode cX6_costs 0 = .ok (.aload_n 0, 1) := by decide +kernel
theorem dX6_costs_1 : decode cX6_costs 1 = .ok (.getfield 23, 3) := by decide +kernel
theorem dX6_costs_4 : decode cX6_costs 4 = .ok (.iconst 3, 1) := by decide +kernel
theorem dX6_costs_5 : decode cX6_costs 5 = .ok (.iload_n 1, 1) := by decide +kernel
theorem dX6_costs_6 : decode cX6_costs 6 = .ok (.imul, 1) := by decide +kernel
theorem dX6_costs_7 : decode cX6_costs 7 = .ok (.iconst 2, 1) := by decide +kernel
theorem dX6_costs_8 : decode cX6_costs 8 = .ok (.iadd, 1) := by decide +kernel
theorem dX6_costs_9 : decode cX6_costs 9 = .ok (.iaload, 1) := by decide +kernel
theorem dX6_costs_10 : decode cX6_costs 10 = .ok (.iconst 2, 1) := by decide +kernel
theorem dX6_costs_11 : decode cX6_costs 11 = .ok (.if_icmp .ne 7, 3) := by decide +kernel
theorem dX6_costs_14 : decode cX6_costs 14 = .ok (.iconst 1, 1) := by decide +kernel
theorem dX6_costs_15 : decode cX6_costs 15 = .ok (.goto 13, 3) := by decide +kernel
theorem dX6_costs_18 : decode cX6_costs 18 = .ok (.aload_n 0, 1) := by decide +kernel
theorem dX6_costs_19 : decode cX6_costs 19 = .ok (.getfield 23, 3) := by decide +kernel
theorem dX6_costs_22 : decode cX6_costs 22 = .ok (.iconst 3, 1) := by decide +kernel
theorem dX6_costs_23 : decode cX6_costs 23 = .ok (.iload_n 1, 1) := by decide +kernel
theorem dX6_costs_24 : decode cX6_costs 24 = .ok (.imul, 1) := by decide +kernel
theorem dX6_costs_25 : decode cX6_costs 25 = .ok (.iconst 1, 1) := by decide +kernel
theorem dX6_costs_26 : decode cX6_costs 26 = .ok (.iadd, 1) := by decide +kernel
theorem dX6_costs_27 : decode cX6_costs 27 = .ok (.iaload, 1) := by decide +kernel
theorem dX6_costs_28 : decode cX6_costs 28 = .ok (.ireturn, 1) := by decide +kernel
theorem dX6_trueOf_0 : decode cX6_trueOf 0 = .ok (.iconst 2, 1) := by decide +kernel
theorem dX6_trueOf_1 : decode cX6_trueOf 1 = .ok (.iload_n 2, 1) := by decide +kernel
theorem dX6_trueOf_2 : decode cX6_trueOf 2 = .ok (.imul, 1) := by decide +kernel
theorem dX6_trueOf_3 : decode cX6_trueOf 3 = .ok (.iconst 1, 1) := by decide +kernel
theorem dX6_trueOf_4 : decode cX6_trueOf 4 = .ok (.iadd, 1) := by decide +kernel
theorem dX6_trueOf_5 : decode cX6_trueOf 5 = .ok (.aload_n 0, 1) := by decide +kernel
theorem dX6_trueOf_6 : decode cX6_trueOf 6 = .ok (.getfield 33, 3) := by decide +kernel
theorem dX6_trueOf_9 : decode cX6_trueOf 9 = .ok (.bipush 56, 2) := by decide +kernel
theorem dX6_trueOf_11 : decode cX6_trueOf 11 = .ok (.iload_n 1, 1) := by decide +kernel
theorem dX6_trueOf_12 : decode cX6_trueOf 12 = .ok (.imul, 1) := by decide +kernel
theorem dX6_trueOf_13 : decode cX6_trueOf 13 = .ok (.iaload, 1) := by decide +kernel
theorem dX6_trueOf_14 : decode cX6_trueOf 14 = .ok (.iload_n 2, 1) := by decide +kernel
theorem dX6_trueOf_15 : decode cX6_trueOf 15 = .ok (.ishr, 1) := by decide +kernel
theorem dX6_trueOf_16 : decode cX6_trueOf 16 = .ok (.iconst 1, 1) := by decide +kernel
theorem dX6_trueOf_17 : decode cX6_trueOf 17 = .ok (.iand, 1) := by decide +kernel
theorem dX6_trueOf_18 : decode cX6_trueOf 18 = .ok (.isub, 1) := by decide +kernel
theorem dX6_trueOf_19 : decode cX6_trueOf 19 = .ok (.ireturn, 1) := by decide +kernel
theorem dX6_law_0 : decode cX6_law 0 = .ok (.iload_n 1, 1) := by decide +kernel
theorem dX6_law_1 : decode cX6_law 1 = .ok (.i2l, 1) := by decide +kernel
theorem dX6_law_2 : decode cX6_law 2 = .ok (.lconst 0, 1) := by decide +kernel
theorem dX6_law_3 : decode cX6_law 3 = .ok (.aload_n 0, 1) := by decide +kernel
theorem dX6_law_4 : decode cX6_law 4 = .ok (.getfield 13, 3) := by decide +kernel
theorem dX6_law_7 : decode cX6_law 7 = .ok (.iconst 1, 1) := by decide +kernel
theorem dX6_law_8 : decode cX6_law 8 = .ok (.iaload, 1) := by decide +kernel
theorem dX6_law_9 : decode cX6_law 9 = .ok (.iconst 1, 1) := by decide +kernel
theorem dX6_law_10 : decode cX6_law 10 = .ok (.isub, 1) := by decide +kernel
theorem dX6_law_11 : decode cX6_law 11 = .ok (.i2l, 1) := by decide +kernel
theorem dX6_law_12 : decode cX6_law 12 = .ok (.invokestatic 52, 3) := by decide +kernel
theorem dX6_law_15 : decode cX6_law 15 = .ok (.ifCond .eq 26, 3) := by decide +kernel
theorem dX6_law_18 : decode cX6_law 18 = .ok (.iload_n 2, 1) := by decide +kernel
theorem dX6_law_19 : decode cX6_law 19 = .ok (.i2l, 1) := by decide +kernel
theorem dX6_law_20 : decode cX6_law 20 = .ok (.lconst 0, 1) := by decide +kernel
theorem dX6_law_21 : decode cX6_law 21 = .ok (.lconst 1, 1) := by decide +kernel
theorem dX6_law_22 : decode cX6_law 22 = .ok (.invokestatic 52, 3) := by decide +kernel
theorem dX6_law_25 : decode cX6_law 25 = .ok (.ifCond .eq 16, 3) := by decide +kernel
theorem dX6_law_28 : decode cX6_law 28 = .ok (.aload_n 0, 1) := by decide +kernel
theorem dX6_law_29 : decode cX6_law 29 = .ok (.getfield 17, 3) := by decide +kernel
theorem dX6_law_32 : decode cX6_law 32 = .ok (.iconst 2, 1) := by decide +kernel
theorem dX6_law_33 : decode cX6_law 33 = .ok (.iload_n 1, 1) := by decide +kernel
theorem dX6_law_34 : decode cX6_law 34 = .ok (.imul, 1) := by decide +kernel
theorem dX6_law_35 : decode cX6_law 35 = .ok (.iload_n 2, 1) := by decide +kernel
theorem dX6_law_36 : decode cX6_law 36 = .ok (.iadd, 1) := by decide +kernel
theorem dX6_law_37 : decode cX6_law 37 = .ok (.iaload, 1) := by decide +kernel
theorem dX6_law_38 : decode cX6_law 38 = .ok (.goto 4, 3) := by decide +kernel
theorem dX6_law_41 : decode cX6_law 41 = .ok (.iconst (-1), 1) := by decide +kernel
theorem dX6_law_42 : decode cX6_law 42 = .ok (.ireturn, 1) := by decide +kernel
theorem dX6_person_0 : decode cX6_person 0 = .ok (.aload_n 0, 1) := by decide +kernel
theorem dX6_person_1 : decode cX6_person 1 = .ok (.iload_n 1, 1) := by decide +kernel
theorem dX6_person_2 : decode cX6_person 2 = .ok (.invokevirtual 119, 3) := by decide +kernel
theorem dX6_person_5 : decode cX6_person 5 = .ok (.ifCond .eq 15, 3) := by decide +kernel
theorem dX6_person_8 : decode cX6_person 8 = .ok (.iload_n 2, 1) := by decide +kernel
theorem dX6_person_9 : decode cX6_person 9 = .ok (.i2l, 1) := by decide +kernel
theorem dX6_person_10 : decode cX6_person 10 = .ok (.lconst 0, 1) := by decide +kernel
theorem dX6_person_11 : decode cX6_person 11 = .ok (.ldc2_w 67, 3) := by decide +kernel
theorem dX6_person_14 : decode cX6_person 14 = .ok (.invokestatic 52, 3) := by decide +kernel
theorem dX6_person_17 : decode cX6_person 17 = .ok (.ifCond .ne 5, 3) := by decide +kernel
theorem dX6_person_20 : decode cX6_person 20 = .ok (.iconst (-1), 1) := by decide +kernel
theorem dX6_person_21 : decode cX6_person 21 = .ok (.ireturn, 1) := by decide +kernel
theorem dX6_person_22 : decode cX6_person 22 = .ok (.iload_n 2, 1) := by decide +kernel
theorem dX6_person_23 : decode cX6_person 23 = .ok (.iconst 2, 1) := by decide +kernel
theorem dX6_person_24 : decode cX6_person 24 = .ok (.if_icmp .ge 16, 3) := by decide +kernel
theorem dX6_person_27 : decode cX6_person 27 = .ok (.aload_n 0, 1) := by decide +kernel
theorem dX6_person_28 : decode cX6_person 28 = .ok (.getfield 20, 3) := by decide +kernel
theorem dX6_person_31 : decode cX6_person 31 = .ok (.iconst 2, 1) := by decide +kernel
theorem dX6_person_32 : decode cX6_person 32 = .ok (.iload_n 1, 1) := by decide +kernel
theorem dX6_person_33 : decode cX6_person 33 = .ok (.imul, 1) := by decide +kernel
theorem dX6_person_34 : decode cX6_person 34 = .ok (.iload_n 2, 1) := by decide +kernel
theorem dX6_person_35 : decode cX6_person 35 = .ok (.iadd, 1) := by decide +kernel
theorem dX6_person_36 : decode cX6_person 36 = .ok (.iaload, 1) := by decide +kernel
theorem dX6_person_37 : decode cX6_person 37 = .ok (.goto 11, 3) := by decide +kernel
theorem dX6_person_40 : decode cX6_person 40 = .ok (.aload_n 0, 1) := by decide +kernel
theorem dX6_person_41 : decode cX6_person 41 = .ok (.getfield 33, 3) := by decide +kernel
theorem dX6_person_44 : decode cX6_person 44 = .ok (.iconst 3, 1) := by decide +kernel
theorem dX6_person_45 : decode cX6_person 45 = .ok (.iload_n 1, 1) := by decide +kernel
theorem dX6_person_46 : decode cX6_person 46 = .ok (.iadd, 1) := by decide +kernel
theorem dX6_person_47 : decode cX6_person 47 = .ok (.iaload, 1) := by decide +kernel
theorem dX6_person_48 : decode cX6_person 48 = .ok (.ireturn, 1) := by decide +kernel
theorem dX6_stone_0 : decode cX6_stone 0 = .ok (.aload_n 0, 1) := by decide +kernel
theorem dX6_stone_1 : decode cX6_stone 1 = .ok (.iload_n 1, 1) := by decide +kernel
theorem dX6_stone_2 : decode cX6_stone 2 = .ok (.invokevirtual 122, 3) := by decide +kernel
theorem dX6_stone_5 : decode cX6_stone 5 = .ok (.ifCond .eq 15, 3) := by decide +kernel
theorem dX6_stone_8 : decode cX6_stone 8 = .ok (.iload_n 2, 1) := by decide +kernel
theorem dX6_stone_9 : decode cX6_stone 9 = .ok (.i2l, 1) := by decide +kernel
theorem dX6_stone_10 : decode cX6_stone 10 = .ok (.lconst 0, 1) := by decide +kernel
theorem dX6_stone_11 : decode cX6_stone 11 = .ok (.ldc2_w 125, 3) := by decide +kernel
theorem dX6_stone_14 : decode cX6_stone 14 = .ok (.invokestatic 52, 3) := by decide +kernel
theorem dX6_stone_17 : decode cX6_stone 17 = .ok (.ifCond .ne 5, 3) := by decide +kernel
theorem dX6_stone_20 : decode cX6_stone 20 = .ok (.iconst (-1), 1) := by decide +kernel
theorem dX6_stone_21 : decode cX6_stone 21 = .ok (.ireturn, 1) := by decide +kernel
theorem dX6_stone_22 : decode cX6_stone 22 = .ok (.iload_n 2, 1) := by decide +kernel
theorem dX6_stone_23 : decode cX6_stone 23 = .ok (.iconst 3, 1) := by decide +kernel
theorem dX6_stone_24 : decode cX6_stone 24 = .ok (.if_icmp .ge 16, 3) := by decide +kernel
theorem dX6_stone_27 : decode cX6_stone 27 = .ok (.aload_n 0, 1) := by decide +kernel
theorem dX6_stone_28 : decode cX6_stone 28 = .ok (.getfield 23, 3) := by decide +kernel
theorem dX6_stone_31 : decode cX6_stone 31 = .ok (.iconst 3, 1) := by decide +kernel
theorem dX6_stone_32 : decode cX6_stone 32 = .ok (.iload_n 1, 1) := by decide +kernel
theorem dX6_stone_33 : decode cX6_stone 33 = .ok (.imul, 1) := by decide +kernel
theorem dX6_stone_34 : decode cX6_stone 34 = .ok (.iload_n 2, 1) := by decide +kernel
theorem dX6_stone_35 : decode cX6_stone 35 = .ok (.iadd, 1) := by decide +kernel
theorem dX6_stone_36 : decode cX6_stone 36 = .ok (.iaload, 1) := by decide +kernel
theorem dX6_stone_37 : decode cX6_stone 37 = .ok (.goto 9, 3) := by decide +kernel
theorem dX6_stone_40 : decode cX6_stone 40 = .ok (.aload_n 0, 1) := by decide +kernel
theorem dX6_stone_41 : decode cX6_stone 41 = .ok (.iconst 0, 1) := by decide +kernel
theorem dX6_stone_42 : decode cX6_stone 42 = .ok (.iload_n 1, 1) := by decide +kernel
theorem dX6_stone_43 : decode cX6_stone 43 = .ok (.invokevirtual 127, 3) := by decide +kernel
theorem dX6_stone_46 : decode cX6_stone 46 = .ok (.ireturn, 1) := by decide +kernel
theorem dX6_mark_0 : decode cX6_mark 0 = .ok (.aload_n 0, 1) := by decide +kernel
theorem dX6_mark_1 : decode cX6_mark 1 = .ok (.iload_n 1, 1) := by decide +kernel
theorem dX6_mark_2 : decode cX6_mark 2 = .ok (.invokevirtual 131, 3) := by decide +kernel
theorem dX6_mark_5 : decode cX6_mark 5 = .ok (.ifCond .eq 15, 3) := by decide +kernel
theorem dX6_mark_8 : decode cX6_mark 8 = .ok (.iload_n 2, 1) := by decide +kernel
theorem dX6_mark_9 : decode cX6_mark 9 = .ok (.i2l, 1) := by decide +kernel
theorem dX6_mark_10 : decode cX6_mark 10 = .ok (.lconst 0, 1) := by decide +kernel
theorem dX6_mark_11 : decode cX6_mark 11 = .ok (.ldc2_w 134, 3) := by decide +kernel
theorem dX6_mark_14 : decode cX6_mark 14 = .ok (.invokestatic 52, 3) := by decide +kernel
theorem dX6_mark_17 : decode cX6_mark 17 = .ok (.ifCond .ne 5, 3) := by decide +kernel
theorem dX6_mark_20 : decode cX6_mark 20 = .ok (.iconst (-1), 1) := by decide +kernel
theorem dX6_mark_21 : decode cX6_mark 21 = .ok (.ireturn, 1) := by decide +kernel
theorem dX6_mark_22 : decode cX6_mark 22 = .ok (.iload_n 2, 1) := by decide +kernel
theorem dX6_mark_23 : decode cX6_mark 23 = .ok (.iconst 4, 1) := by decide +kernel
theorem dX6_mark_24 : decode cX6_mark 24 = .ok (.if_icmp .ge 19, 3) := by decide +kernel
theorem dX6_mark_27 : decode cX6_mark 27 = .ok (.aload_n 0, 1) := by decide +kernel
theorem dX6_mark_28 : decode cX6_mark 28 = .ok (.getfield 33, 3) := by decide +kernel
theorem dX6_mark_31 : decode cX6_mark 31 = .ok (.bipush 8, 2) := by decide +kernel
theorem dX6_mark_33 : decode cX6_mark 33 = .ok (.iconst 4, 1) := by decide +kernel
theorem dX6_mark_34 : decode cX6_mark 34 = .ok (.iload_n 1, 1) := by decide +kernel
theorem dX6_mark_35 : decode cX6_mark 35 = .ok (.imul, 1) := by decide +kernel
theorem dX6_mark_36 : decode cX6_mark 36 = .ok (.iadd, 1) := by decide +kernel
theorem dX6_mark_37 : decode cX6_mark 37 = .ok (.iload_n 2, 1) := by decide +kernel
theorem dX6_mark_38 : decode cX6_mark 38 = .ok (.iadd, 1) := by decide +kernel
theorem dX6_mark_39 : decode cX6_mark 39 = .ok (.iaload, 1) := by decide +kernel
theorem dX6_mark_40 : decode cX6_mark 40 = .ok (.goto 31, 3) := by decide +kernel
theorem dX6_mark_43 : decode cX6_mark 43 = .ok (.aload_n 0, 1) := by decide +kernel
theorem dX6_mark_44 : decode cX6_mark 44 = .ok (.getfield 33, 3) := by decide +kernel
theorem dX6_mark_47 : decode cX6_mark 47 = .ok (.bipush 8, 2) := by decide +kernel
theorem dX6_mark_49 : decode cX6_mark 49 = .ok (.iconst 4, 1) := by decide +kernel
theorem dX6_mark_50 : decode cX6_mark 50 = .ok (.iload_n 1, 1) := by decide +kernel
theorem dX6_mark_51 : decode cX6_mark 51 = .ok (.imul, 1) := by decide +kernel
theorem dX6_mark_52 : decode cX6_mark 52 = .ok (.iadd, 1) := by decide +kernel
theorem dX6_mark_53 : decode cX6_mark 53 = .ok (.iaload, 1) := by decide +kernel
theorem dX6_mark_54 : decode cX6_mark 54 = .ok (.aload_n 0, 1) := by decide +kernel
theorem dX6_mark_55 : decode cX6_mark 55 = .ok (.getfield 33, 3) := by decide +kernel
theorem dX6_mark_58 : decode cX6_mark 58 = .ok (.iconst 0, 1) := by decide +kernel
theorem dX6_mark_59 : decode cX6_mark 59 = .ok (.iaload, 1) := by decide +kernel
theorem dX6_mark_60 : decode cX6_mark 60 = .ok (.invokestatic 91, 3) := by decide +kernel
theorem dX6_mark_63 : decode cX6_mark 63 = .ok (.ifCond .eq 7, 3) := by decide +kernel
theorem dX6_mark_66 : decode cX6_mark 66 = .ok (.iconst 1, 1) := by decide +kernel
theorem dX6_mark_67 : decode cX6_mark 67 = .ok (.goto 4, 3) := by decide +kernel
theorem dX6_mark_70 : decode cX6_mark 70 = .ok (.iconst 0, 1) := by decide +kernel
theorem dX6_mark_71 : decode cX6_mark 71 = .ok (.ireturn, 1) := by decide +kernel
theorem dX6_worldOf_0 : decode cX6_worldOf 0 = .ok (.iload_n 1, 1) := by decide +kernel
theorem dX6_worldOf_1 : decode cX6_worldOf 1 = .ok (.istore_n 2, 1) := by decide +kernel
theorem dX6_worldOf_2 : decode cX6_worldOf 2 = .ok (.iconst 0, 1) := by decide +kernel
theorem dX6_worldOf_3 : decode cX6_worldOf 3 = .ok (.istore_n 3, 1) := by decide +kernel
theorem dX6_worldOf_4 : decode cX6_worldOf 4 = .ok (.iload_n 3, 1) := by decide +kernel
theorem dX6_worldOf_5 : decode cX6_worldOf 5 = .ok (.sipush 256, 3) := by decide +kernel
theorem dX6_worldOf_8 : decode cX6_worldOf 8 = .ok (.if_icmp .ge 27, 3) := by decide +kernel
theorem dX6_worldOf_11 : decode cX6_worldOf 11 = .ok (.aload_n 0, 1) := by decide +kernel
theorem dX6_worldOf_12 : decode cX6_worldOf 12 = .ok (.getfield 29, 3) := by decide +kernel
theorem dX6_worldOf_15 : decode cX6_worldOf 15 = .ok (.iload_n 3, 1) := by decide +kernel
theorem dX6_worldOf_16 : decode cX6_worldOf 16 = .ok (.baload, 1) := by decide +kernel
theorem dX6_worldOf_17 : decode cX6_worldOf 17 = .ok (.ifCond .eq 12, 3) := by decide +kernel
theorem dX6_worldOf_20 : decode cX6_worldOf 20 = .ok (.iload_n 2, 1) := by decide +kernel
theorem dX6_worldOf_21 : decode cX6_worldOf 21 = .ok (.ifCond .ne 5, 3) := by decide +kernel
theorem dX6_worldOf_24 : decode cX6_worldOf 24 = .ok (.iload_n 3, 1) := by decide +kernel
theorem dX6_worldOf_25 : decode cX6_worldOf 25 = .ok (.ireturn, 1) := by decide +kernel
theorem dX6_worldOf_26 : decode cX6_worldOf 26 = .ok (.iinc 2 (-1), 3) := by decide +kernel
theorem dX6_worldOf_29 : decode cX6_worldOf 29 = .ok (.iinc 3 1, 3) := by decide +kernel
theorem dX6_worldOf_32 : decode cX6_worldOf 32 = .ok (.goto (-28), 3) := by decide +kernel
theorem dX6_worldOf_35 : decode cX6_worldOf 35 = .ok (.bipush (-4), 2) := by decide +kernel
theorem dX6_worldOf_37 : decode cX6_worldOf 37 = .ok (.ireturn, 1) := by decide +kernel
theorem dX6_world_0 : decode cX6_world 0 = .ok (.iload_n 1, 1) := by decide +kernel
theorem dX6_world_1 : decode cX6_world 1 = .ok (.ifCond .ge 7, 3) := by decide +kernel
theorem dX6_world_4 : decode cX6_world 4 = .ok (.iconst (-1), 1) := by decide +kernel
theorem dX6_world_5 : decode cX6_world 5 = .ok (.goto 8, 3) := by decide +kernel
theorem dX6_world_8 : decode cX6_world 8 = .ok (.aload_n 0, 1) := by decide +kernel
theorem dX6_world_9 : decode cX6_world 9 = .ok (.iload_n 1, 1) := by decide +kernel
theorem dX6_world_10 : decode cX6_world 10 = .ok (.invokevirtual 136, 3) := by decide +kernel
theorem dX6_world_13 : decode cX6_world 13 = .ok (.ireturn, 1) := by decide +kernel
theorem dX6_copies_0 : decode cX6_copies 0 = .ok (.iconst 0, 1) := by decide +kernel
theorem dX6_copies_1 : decode cX6_copies 1 = .ok (.istore_n 3, 1) := by decide +kernel
theorem dX6_copies_2 : decode cX6_copies 2 = .ok (.iload_n 3, 1) := by decide +kernel
theorem dX6_copies_3 : decode cX6_copies 3 = .ok (.bipush 56, 2) := by decide +kernel
theorem dX6_copies_5 : decode cX6_copies 5 = .ok (.if_icmp .ge 31, 3) := by decide +kernel
theorem dX6_copies_8 : decode cX6_copies 8 = .ok (.aload_n 0, 1) := by decide +kernel
theorem dX6_copies_9 : decode cX6_copies 9 = .ok (.getfield 33, 3) := by decide +kernel
theorem dX6_copies_12 : decode cX6_copies 12 = .ok (.bipush 56, 2) := by decide +kernel
theorem dX6_copies_14 : decode cX6_copies 14 = .ok (.iload_n 2, 1) := by decide +kernel
theorem dX6_copies_15 : decode cX6_copies 15 = .ok (.imul, 1) := by decide +kernel
theorem dX6_copies_16 : decode cX6_copies 16 = .ok (.iload_n 3, 1) := by decide +kernel
theorem dX6_copies_17 : decode cX6_copies 17 = .ok (.iadd, 1) := by decide +kernel
theorem dX6_copies_18 : decode cX6_copies 18 = .ok (.aload_n 0, 1) := by decide +kernel
theorem dX6_copies_19 : decode cX6_copies 19 = .ok (.getfield 33, 3) := by decide +kernel
theorem dX6_copies_22 : decode cX6_copies 22 = .ok (.bipush 56, 2) := by decide +kernel
theorem dX6_copies_24 : decode cX6_copies 24 = .ok (.iload_n 1, 1) := by decide +kernel
theorem dX6_copies_25 : decode cX6_copies 25 = .ok (.imul, 1) := by decide +kernel
theorem dX6_copies_26 : decode cX6_copies 26 = .ok (.iload_n 3, 1) := by decide +kernel
theorem dX6_copies_27 : decode cX6_copies 27 = .ok (.iadd, 1) := by decide +kernel
theorem dX6_copies_28 : decode cX6_copies 28 = .ok (.iaload, 1) := by decide +kernel
theorem dX6_copies_29 : decode cX6_copies 29 = .ok (.iastore, 1) := by decide +kernel
theorem dX6_copies_30 : decode cX6_copies 30 = .ok (.iinc 3 1, 3) := by decide +kernel
theorem dX6_copies_33 : decode cX6_copies 33 = .ok (.goto (-31), 3) := by decide +kernel
theorem dX6_copies_36 : decode cX6_copies 36 = .ok (.return_, 1) := by decide +kernel
theorem dX6_known_0 : decode cX6_known 0 = .ok (.aload_n 0, 1) := by decide +kernel
theorem dX6_known_1 : decode cX6_known 1 = .ok (.getfield 106, 3) := by decide +kernel
theorem dX6_known_4 : decode cX6_known 4 = .ok (.bipush 8, 2) := by decide +kernel
theorem dX6_known_6 : decode cX6_known 6 = .ok (.if_icmp .ne 35, 3) := by decide +kernel
theorem dX6_known_9 : decode cX6_known 9 = .ok (.iconst 3, 1) := by decide +kernel
theorem dX6_known_10 : decode cX6_known 10 = .ok (.istore_n 1, 1) := by decide +kernel
theorem dX6_known_11 : decode cX6_known 11 = .ok (.iload_n 1, 1) := by decide +kernel
theorem dX6_known_12 : decode cX6_known 12 = .ok (.bipush 10, 2) := by decide +kernel
theorem dX6_known_14 : decode cX6_known 14 = .ok (.if_icmp .ge 17, 3) := by decide +kernel
theorem dX6_known_17 : decode cX6_known 17 = .ok (.aload_n 0, 1) := by decide +kernel
theorem dX6_known_18 : decode cX6_known 18 = .ok (.iload_n 1, 1) := by decide +kernel
theorem dX6_known_19 : decode cX6_known 19 = .ok (.iconst 1, 1) := by decide +kernel
theorem dX6_known_20 : decode cX6_known 20 = .ok (.iadd, 1) := by decide +kernel
theorem dX6_known_21 : decode cX6_known 21 = .ok (.iload_n 1, 1) := by decide +kernel
theorem dX6_known_22 : decode cX6_known 22 = .ok (.invokevirtual 139, 3) := by decide +kernel
theorem dX6_known_25 : decode cX6_known 25 = .ok (.iinc 1 1, 3) := by decide +kernel
theorem dX6_known_28 : decode cX6_known 28 = .ok (.goto (-17), 3) := by decide +kernel
theorem dX6_known_31 : decode cX6_known 31 = .ok (.aload_n 0, 1) := by decide +kernel
theorem dX6_known_32 : decode cX6_known 32 = .ok (.dup, 1) := by decide +kernel
theorem dX6_known_33 : decode cX6_known 33 = .ok (.getfield 106, 3) := by decide +kernel
theorem dX6_known_36 : decode cX6_known 36 = .ok (.iconst 1, 1) := by decide +kernel
theorem dX6_known_37 : decode cX6_known 37 = .ok (.isub, 1) := by decide +kernel
theorem dX6_known_38 : decode cX6_known 38 = .ok (.putfield 106, 3) := by decide +kernel
theorem dX6_known_41 : decode cX6_known 41 = .ok (.aload_n 0, 1) := by decide +kernel
theorem dX6_known_42 : decode cX6_known 42 = .ok (.iconst 0, 1) := by decide +kernel
theorem dX6_known_43 : decode cX6_known 43 = .ok (.iconst 3, 1) := by decide +kernel
theorem dX6_known_44 : decode cX6_known 44 = .ok (.aload_n 0, 1) := by decide +kernel
theorem dX6_known_45 : decode cX6_known 45 = .ok (.getfield 106, 3) := by decide +kernel
theorem dX6_known_48 : decode cX6_known 48 = .ok (.iadd, 1) := by decide +kernel
theorem dX6_known_49 : decode cX6_known 49 = .ok (.invokevirtual 139, 3) := by decide +kernel
theorem dX6_known_52 : decode cX6_known 52 = .ok (.aload_n 0, 1) := by decide +kernel
theorem dX6_known_53 : decode cX6_known 53 = .ok (.dup, 1) := by decide +kernel
theorem dX6_known_54 : decode cX6_known 54 = .ok (.getfield 106, 3) := by decide +kernel
theorem dX6_known_57 : decode cX6_known 57 = .ok (.iconst 1, 1) := by decide +kernel
theorem dX6_known_58 : decode cX6_known 58 = .ok (.iadd, 1) := by decide +kernel
theorem dX6_known_59 : decode cX6_known 59 = .ok (.putfield 106, 3) := by decide +kernel
theorem dX6_known_62 : decode cX6_known 62 = .ok (.return_, 1) := by decide +kernel
theorem dX6_deed_0 : decode cX6_deed 0 = .ok (.aload_n 0, 1) := by decide +kernel
theorem dX6_deed_1 : decode cX6_deed 1 = .ok (.iload_n 1, 1) := by decide +kernel
theorem dX6_deed_2 : decode cX6_deed 2 = .ok (.invokevirtual 143, 3) := by decide +kernel
theorem dX6_deed_5 : decode cX6_deed 5 = .ok (.ifCond .ne 5, 3) := by decide +kernel
theorem dX6_deed_8 : decode cX6_deed 8 = .ok (.iconst (-1), 1) := by decide +kernel
theorem dX6_deed_9 : decode cX6_deed 9 = .ok (.ireturn, 1) := by decide +kernel
theorem dX6_deed_10 : decode cX6_deed 10 = .ok (.aload_n 0, 1) := by decide +kernel
theorem dX6_deed_11 : decode cX6_deed 11 = .ok (.getfield 29, 3) := by decide +kernel
theorem dX6_deed_14 : decode cX6_deed 14 = .ok (.iload_n 1, 1) := by decide +kernel
theorem dX6_deed_15 : decode cX6_deed 15 = .ok (.baload, 1) := by decide +kernel
theorem dX6_deed_16 : decode cX6_deed 16 = .ok (.ifCond .ne 6, 3) := by decide +kernel
theorem dX6_deed_19 : decode cX6_deed 19 = .ok (.bipush (-2), 2) := by decide +kernel
theorem dX6_deed_21 : decode cX6_deed 21 = .ok (.ireturn, 1) := by decide +kernel
theorem dX6_deed_22 : decode cX6_deed 22 = .ok (.aload_n 0, 1) := by decide +kernel
theorem dX6_deed_23 : decode cX6_deed 23 = .ok (.invokevirtual 146, 3) := by decide +kernel
theorem dX6_deed_26 : decode cX6_deed 26 = .ok (.aload_n 0, 1) := by decide +kernel
theorem dX6_deed_27 : decode cX6_deed 27 = .ok (.getfield 33, 3) := by decide +kernel
theorem dX6_deed_30 : decode cX6_deed 30 = .ok (.iconst 0, 1) := by decide +kernel
theorem dX6_deed_31 : decode cX6_deed 31 = .ok (.iaload, 1) := by decide +kernel
theorem dX6_deed_32 : decode cX6_deed 32 = .ok (.istore_n 2, 1) := by decide +kernel
theorem dX6_deed_33 : decode cX6_deed 33 = .ok (.aload_n 0, 1) := by decide +kernel
theorem dX6_deed_34 : decode cX6_deed 34 = .ok (.getfield 33, 3) := by decide +kernel
theorem dX6_deed_37 : decode cX6_deed 37 = .ok (.iconst 0, 1) := by decide +kernel
theorem dX6_deed_38 : decode cX6_deed 38 = .ok (.iload_n 1, 1) := by decide +kernel
theorem dX6_deed_39 : decode cX6_deed 39 = .ok (.iastore, 1) := by decide +kernel
theorem dX6_deed_40 : decode cX6_deed 40 = .ok (.iload_n 2, 1) := by decide +kernel
theorem dX6_deed_41 : decode cX6_deed 41 = .ok (.iload_n 1, 1) := by decide +kernel
theorem dX6_deed_42 : decode cX6_deed 42 = .ok (.ixor, 1) := by decide +kernel
theorem dX6_deed_43 : decode cX6_deed 43 = .ok (.invokestatic 149, 3) := by decide +kernel
theorem dX6_deed_46 : decode cX6_deed 46 = .ok (.ireturn, 1) := by decide +kernel
theorem dX6_cuts_0 : decode cX6_cuts 0 = .ok (.aload_n 0, 1) := by decide +kernel
theorem dX6_cuts_1 : decode cX6_cuts 1 = .ok (.getfield 33, 3) := by decide +kernel
theorem dX6_cuts_4 : decode cX6_cuts 4 = .ok (.bipush 56, 2) := by decide +kernel
theorem dX6_cuts_6 : decode cX6_cuts 6 = .ok (.iload_n 1, 1) := by decide +kernel
theorem dX6_cuts_7 : decode cX6_cuts 7 = .ok (.imul, 1) := by decide +kernel
theorem dX6_cuts_8 : decode cX6_cuts 8 = .ok (.iconst 2, 1) := by decide +kernel
theorem dX6_cuts_9 : decode cX6_cuts 9 = .ok (.iadd, 1) := by decide +kernel
theorem dX6_cuts_10 : decode cX6_cuts 10 = .ok (.iaload, 1) := by decide +kernel
theorem dX6_cuts_11 : decode cX6_cuts 11 = .ok (.istore 5, 2) := by decide +kernel
theorem dX6_cuts_13 : decode cX6_cuts 13 = .ok (.aload_n 0, 1) := by decide +kernel
theorem dX6_cuts_14 : decode cX6_cuts 14 = .ok (.getfield 33, 3) := by decide +kernel
theorem dX6_cuts_17 : decode cX6_cuts 17 = .ok (.bipush 56, 2) := by decide +kernel
theorem dX6_cuts_19 : decode cX6_cuts 19 = .ok (.iload_n 1, 1) := by decide +kernel
theorem dX6_cuts_20 : decode cX6_cuts 20 = .ok (.imul, 1) := by decide +kernel
theorem dX6_cuts_21 : decode cX6_cuts 21 = .ok (.bipush 8, 2) := by decide +kernel
theorem dX6_cuts_23 : decode cX6_cuts 23 = .ok (.iadd, 1) := by decide +kernel
theorem dX6_cuts_24 : decode cX6_cuts 24 = .ok (.iconst 4, 1) := by decide +kernel
theorem dX6_cuts_25 : decode cX6_cuts 25 = .ok (.iload 5, 2) := by decide +kernel
theorem dX6_cuts_27 : decode cX6_cuts 27 = .ok (.imul, 1) := by decide +kernel
theorem dX6_cuts_28 : decode cX6_cuts 28 = .ok (.iadd, 1) := by decide +kernel
theorem dX6_cuts_29 : decode cX6_cuts 29 = .ok (.iload_n 2, 1) := by decide +kernel
theorem dX6_cuts_30 : decode cX6_cuts 30 = .ok (.iastore, 1) := by decide +kernel
theorem dX6_cuts_31 : decode cX6_cuts 31 = .ok (.aload_n 0, 1) := by decide +kernel
theorem dX6_cuts_32 : decode cX6_cuts 32 = .ok (.getfield 33, 3) := by decide +kernel
theorem dX6_cuts_35 : decode cX6_cuts 35 = .ok (.bipush 56, 2) := by decide +kernel
theorem dX6_cuts_37 : decode cX6_cuts 37 = .ok (.iload_n 1, 1) := by decide +kernel
theorem dX6_cuts_38 : decode cX6_cuts 38 = .ok (.imul, 1) := by decide +kernel
theorem dX6_cuts_39 : decode cX6_cuts 39 = .ok (.bipush 8, 2) := by decide +kernel
theorem dX6_cuts_41 : decode cX6_cuts 41 = .ok (.iadd, 1) := by decide +kernel
theorem dX6_cuts_42 : decode cX6_cuts 42 = .ok (.iconst 4, 1) := by decide +kernel
theorem dX6_cuts_43 : decode cX6_cuts 43 = .ok (.iload 5, 2) := by decide +kernel
theorem dX6_cuts_45 : decode cX6_cuts 45 = .ok (.imul, 1) := by decide +kernel
theorem dX6_cuts_46 : decode cX6_cuts 46 = .ok (.iadd, 1) := by decide +kernel
theorem dX6_cuts_47 : decode cX6_cuts 47 = .ok (.iconst 1, 1) := by decide +kernel
theorem dX6_cuts_48 : decode cX6_cuts 48 = .ok (.iadd, 1) := by decide +kernel
theorem dX6_cuts_49 : decode cX6_cuts 49 = .ok (.iload_n 3, 1) := by decide +kernel
theorem dX6_cuts_50 : decode cX6_cuts 50 = .ok (.iastore, 1) := by decide +kernel
theorem dX6_cuts_51 : decode cX6_cuts 51 = .ok (.aload_n 0, 1) := by decide +kernel
theorem dX6_cuts_52 : decode cX6_cuts 52 = .ok (.getfield 33, 3) := by decide +kernel
theorem dX6_cuts_55 : decode cX6_cuts 55 = .ok (.bipush 56, 2) := by decide +kernel
theorem dX6_cuts_57 : decode cX6_cuts 57 = .ok (.iload_n 1, 1) := by decide +kernel
theorem dX6_cuts_58 : decode cX6_cuts 58 = .ok (.imul, 1) := by decide +kernel
theorem dX6_cuts_59 : decode cX6_cuts 59 = .ok (.bipush 8, 2) := by decide +kernel
theorem dX6_cuts_61 : decode cX6_cuts 61 = .ok (.iadd, 1) := by decide +kernel
theorem dX6_cuts_62 : decode cX6_cuts 62 = .ok (.iconst 4, 1) := by decide +kernel
theorem dX6_cuts_63 : decode cX6_cuts 63 = .ok (.iload 5, 2) := by decide +kernel
theorem dX6_cuts_65 : decode cX6_cuts 65 = .ok (.imul, 1) := by decide +kernel
theorem dX6_cuts_66 : decode cX6_cuts 66 = .ok (.iadd, 1) := by decide +kernel
theorem dX6_cuts_67 : decode cX6_cuts 67 = .ok (.iconst 2, 1) := by decide +kernel
theorem dX6_cuts_68 : decode cX6_cuts 68 = .ok (.iadd, 1) := by decide +kernel
theorem dX6_cuts_69 : decode cX6_cuts 69 = .ok (.iload 4, 2) := by decide +kernel
theorem dX6_cuts_71 : decode cX6_cuts 71 = .ok (.iastore, 1) := by decide +kernel
theorem dX6_cuts_72 : decode cX6_cuts 72 = .ok (.aload_n 0, 1) := by decide +kernel
theorem dX6_cuts_73 : decode cX6_cuts 73 = .ok (.getfield 33, 3) := by decide +kernel
theorem dX6_cuts_76 : decode cX6_cuts 76 = .ok (.bipush 56, 2) := by decide +kernel
theorem dX6_cuts_78 : decode cX6_cuts 78 = .ok (.iload_n 1, 1) := by decide +kernel
theorem dX6_cuts_79 : decode cX6_cuts 79 = .ok (.imul, 1) := by decide +kernel
theorem dX6_cuts_80 : decode cX6_cuts 80 = .ok (.bipush 8, 2) := by decide +kernel
theorem dX6_cuts_82 : decode cX6_cuts 82 = .ok (.iadd, 1) := by decide +kernel
theorem dX6_cuts_83 : decode cX6_cuts 83 = .ok (.iconst 4, 1) := by decide +kernel
theorem dX6_cuts_84 : decode cX6_cuts 84 = .ok (.iload 5, 2) := by decide +kernel
theorem dX6_cuts_86 : decode cX6_cuts 86 = .ok (.imul, 1) := by decide +kernel
theorem dX6_cuts_87 : decode cX6_cuts 87 = .ok (.iadd, 1) := by decide +kernel
theorem dX6_cuts_88 : decode cX6_cuts 88 = .ok (.iconst 3, 1) := by decide +kernel
theorem dX6_cuts_89 : decode cX6_cuts 89 = .ok (.iadd, 1) := by decide +kernel
theorem dX6_cuts_90 : decode cX6_cuts 90 = .ok (.iconst 0, 1) := by decide +kernel
theorem dX6_cuts_91 : decode cX6_cuts 91 = .ok (.iastore, 1) := by decide +kernel
theorem dX6_cuts_92 : decode cX6_cuts 92 = .ok (.aload_n 0, 1) := by decide +kernel
theorem dX6_cuts_93 : decode cX6_cuts 93 = .ok (.getfield 33, 3) := by decide +kernel
theorem dX6_cuts_96 : decode cX6_cuts 96 = .ok (.bipush 56, 2) := by decide +kernel
theorem dX6_cuts_98 : decode cX6_cuts 98 = .ok (.iload_n 1, 1) := by decide +kernel
theorem dX6_cuts_99 : decode cX6_cuts 99 = .ok (.imul, 1) := by decide +kernel
theorem dX6_cuts_100 : decode cX6_cuts 100 = .ok (.iconst 2, 1) := by decide +kernel
theorem dX6_cuts_101 : decode cX6_cuts 101 = .ok (.iadd, 1) := by decide +kernel
theorem dX6_cuts_102 : decode cX6_cuts 102 = .ok (.dup2, 1) := by decide +kernel
theorem dX6_cuts_103 : decode cX6_cuts 103 = .ok (.iaload, 1) := by decide +kernel
theorem dX6_cuts_104 : decode cX6_cuts 104 = .ok (.iconst 1, 1) := by decide +kernel
theorem dX6_cuts_105 : decode cX6_cuts 105 = .ok (.iadd, 1) := by decide +kernel
theorem dX6_cuts_106 : decode cX6_cuts 106 = .ok (.iastore, 1) := by decide +kernel
theorem dX6_cuts_107 : decode cX6_cuts 107 = .ok (.iload 5, 2) := by decide +kernel
theorem dX6_cuts_109 : decode cX6_cuts 109 = .ok (.ireturn, 1) := by decide +kernel
theorem dX6_goes_0 : decode cX6_goes 0 = .ok (.aload_n 0, 1) := by decide +kernel
theorem dX6_goes_1 : decode cX6_goes 1 = .ok (.getfield 33, 3) := by decide +kernel
theorem dX6_goes_4 : decode cX6_goes 4 = .ok (.bipush 56, 2) := by decide +kernel
theorem dX6_goes_6 : decode cX6_goes 6 = .ok (.iload_n 1, 1) := by decide +kernel
theorem dX6_goes_7 : decode cX6_goes 7 = .ok (.imul, 1) := by decide +kernel
theorem dX6_goes_8 : decode cX6_goes 8 = .ok (.iconst 2, 1) := by decide +kernel
theorem dX6_goes_9 : decode cX6_goes 9 = .ok (.iadd, 1) := by decide +kernel
theorem dX6_goes_10 : decode cX6_goes 10 = .ok (.dup2, 1) := by decide +kernel
theorem dX6_goes_11 : decode cX6_goes 11 = .ok (.iaload, 1) := by decide +kernel
theorem dX6_goes_12 : decode cX6_goes 12 = .ok (.iconst 1, 1) := by decide +kernel
theorem dX6_goes_13 : decode cX6_goes 13 = .ok (.isub, 1) := by decide +kernel
theorem dX6_goes_14 : decode cX6_goes 14 = .ok (.iastore, 1) := by decide +kernel
theorem dX6_goes_15 : decode cX6_goes 15 = .ok (.iconst 4, 1) := by decide +kernel
theorem dX6_goes_16 : decode cX6_goes 16 = .ok (.iload_n 2, 1) := by decide +kernel
theorem dX6_goes_17 : decode cX6_goes 17 = .ok (.imul, 1) := by decide +kernel
theorem dX6_goes_18 : decode cX6_goes 18 = .ok (.istore_n 3, 1) := by decide +kernel
theorem dX6_goes_19 : decode cX6_goes 19 = .ok (.iload_n 3, 1) := by decide +kernel
theorem dX6_goes_20 : decode cX6_goes 20 = .ok (.iconst 4, 1) := by decide +kernel
theorem dX6_goes_21 : decode cX6_goes 21 = .ok (.aload_n 0, 1) := by decide +kernel
theorem dX6_goes_22 : decode cX6_goes 22 = .ok (.getfield 33, 3) := by decide +kernel
theorem dX6_goes_25 : decode cX6_goes 25 = .ok (.bipush 56, 2) := by decide +kernel
theorem dX6_goes_27 : decode cX6_goes 27 = .ok (.iload_n 1, 1) := by decide +kernel
theorem dX6_goes_28 : decode cX6_goes 28 = .ok (.imul, 1) := by decide +kernel
theorem dX6_goes_29 : decode cX6_goes 29 = .ok (.iconst 2, 1) := by decide +kernel
theorem dX6_goes_30 : decode cX6_goes 30 = .ok (.iadd, 1) := by decide +kernel
theorem dX6_goes_31 : decode cX6_goes 31 = .ok (.iaload, 1) := by decide +kernel
theorem dX6_goes_32 : decode cX6_goes 32 = .ok (.imul, 1) := by decide +kernel
theorem dX6_goes_33 : decode cX6_goes 33 = .ok (.if_icmp .ge 39, 3) := by decide +kernel
theorem dX6_goes_36 : decode cX6_goes 36 = .ok (.aload_n 0, 1) := by decide +kernel
theorem dX6_goes_37 : decode cX6_goes 37 = .ok (.getfield 33, 3) := by decide +kernel
theorem dX6_goes_40 : decode cX6_goes 40 = .ok (.bipush 56, 2) := by decide +kernel
theorem dX6_goes_42 : decode cX6_goes 42 = .ok (.iload_n 1, 1) := by decide +kernel
theorem dX6_goes_43 : decode cX6_goes 43 = .ok (.imul, 1) := by decide +kernel
theorem dX6_goes_44 : decode cX6_goes 44 = .ok (.bipush 8, 2) := by decide +kernel
theorem dX6_goes_46 : decode cX6_goes 46 = .ok (.iadd, 1) := by decide +kernel
theorem dX6_goes_47 : decode cX6_goes 47 = .ok (.iload_n 3, 1) := by decide +kernel
theorem dX6_goes_48 : decode cX6_goes 48 = .ok (.iadd, 1) := by decide +kernel
theorem dX6_goes_49 : decode cX6_goes 49 = .ok (.aload_n 0, 1) := by decide +kernel
theorem dX6_goes_50 : decode cX6_goes 50 = .ok (.getfield 33, 3) := by decide +kernel
theorem dX6_goes_53 : decode cX6_goes 53 = .ok (.bipush 56, 2) := by decide +kernel
theorem dX6_goes_55 : decode cX6_goes 55 = .ok (.iload_n 1, 1) := by decide +kernel
theorem dX6_goes_56 : decode cX6_goes 56 = .ok (.imul, 1) := by decide +kernel
theorem dX6_goes_57 : decode cX6_goes 57 = .ok (.bipush 8, 2) := by decide +kernel
theorem dX6_goes_59 : decode cX6_goes 59 = .ok (.iadd, 1) := by decide +kernel
theorem dX6_goes_60 : decode cX6_goes 60 = .ok (.iload_n 3, 1) := by decide +kernel
theorem dX6_goes_61 : decode cX6_goes 61 = .ok (.iadd, 1) := by decide +kernel
theorem dX6_goes_62 : decode cX6_goes 62 = .ok (.iconst 4, 1) := by decide +kernel
theorem dX6_goes_63 : decode cX6_goes 63 = .ok (.iadd, 1) := by decide +kernel
theorem dX6_goes_64 : decode cX6_goes 64 = .ok (.iaload, 1) := by decide +kernel
theorem dX6_goes_65 : decode cX6_goes 65 = .ok (.iastore, 1) := by decide +kernel
theorem dX6_goes_66 : decode cX6_goes 66 = .ok (.iinc 3 1, 3) := by decide +kernel
theorem dX6_goes_69 : decode cX6_goes 69 = .ok (.goto (-50), 3) := by decide +kernel
theorem dX6_goes_72 : decode cX6_goes 72 = .ok (.return_, 1) := by decide +kernel
theorem dX6_carve_0 : decode cX6_carve 0 = .ok (.aload_n 0, 1) := by decide +kernel
theorem dX6_carve_1 : decode cX6_carve 1 = .ok (.iload_n 1, 1) := by decide +kernel
theorem dX6_carve_2 : decode cX6_carve 2 = .ok (.invokevirtual 119, 3) := by decide +kernel
theorem dX6_carve_5 : decode cX6_carve 5 = .ok (.ifCond .eq 19, 3) := by decide +kernel
theorem dX6_carve_8 : decode cX6_carve 8 = .ok (.aload_n 0, 1) := by decide +kernel
theorem dX6_carve_9 : decode cX6_carve 9 = .ok (.iload_n 2, 1) := by decide +kernel
theorem dX6_carve_10 : decode cX6_carve 10 = .ok (.invokevirtual 122, 3) := by decide +kernel
theorem dX6_carve_13 : decode cX6_carve 13 = .ok (.ifCond .eq 11, 3) := by decide +kernel
theorem dX6_carve_16 : decode cX6_carve 16 = .ok (.aload_n 0, 1) := by decide +kernel
theorem dX6_carve_17 : decode cX6_carve 17 = .ok (.iload_n 3, 1) := by decide +kernel
theorem dX6_carve_18 : decode cX6_carve 18 = .ok (.invokevirtual 152, 3) := by decide +kernel
theorem dX6_carve_21 : decode cX6_carve 21 = .ok (.ifCond .ne 5, 3) := by decide +kernel
theorem dX6_carve_24 : decode cX6_carve 24 = .ok (.iconst (-1), 1) := by decide +kernel
theorem dX6_carve_25 : decode cX6_carve 25 = .ok (.ireturn, 1) := by decide +kernel
theorem dX6_carve_26 : decode cX6_carve 26 = .ok (.aload_n 0, 1) := by decide +kernel
theorem dX6_carve_27 : decode cX6_carve 27 = .ok (.getfield 33, 3) := by decide +kernel
theorem dX6_carve_30 : decode cX6_carve 30 = .ok (.iconst 3, 1) := by decide +kernel
theorem dX6_carve_31 : decode cX6_carve 31 = .ok (.iload_n 1, 1) := by decide +kernel
theorem dX6_carve_32 : decode cX6_carve 32 = .ok (.iadd, 1) := by decide +kernel
theorem dX6_carve_33 : decode cX6_carve 33 = .ok (.iaload, 1) := by decide +kernel
theorem dX6_carve_34 : decode cX6_carve 34 = .ok (.aload_n 0, 1) := by decide +kernel
theorem dX6_carve_35 : decode cX6_carve 35 = .ok (.iload_n 2, 1) := by decide +kernel
theorem dX6_carve_36 : decode cX6_carve 36 = .ok (.invokevirtual 155, 3) := by decide +kernel
theorem dX6_carve_39 : decode cX6_carve 39 = .ok (.if_icmp .lt 12, 3) := by decide +kernel
theorem dX6_carve_42 : decode cX6_carve 42 = .ok (.aload_n 0, 1) := by decide +kernel
theorem dX6_carve_43 : decode cX6_carve 43 = .ok (.iconst 0, 1) := by decide +kernel
theorem dX6_carve_44 : decode cX6_carve 44 = .ok (.iload_n 2, 1) := by decide +kernel
theorem dX6_carve_45 : decode cX6_carve 45 = .ok (.invokevirtual 127, 3) := by decide +kernel
theorem dX6_carve_48 : decode cX6_carve 48 = .ok (.ifCond .ne 6, 3) := by decide +kernel
theorem dX6_carve_51 : decode cX6_carve 51 = .ok (.bipush (-2), 2) := by decide +kernel
theorem dX6_carve_53 : decode cX6_carve 53 = .ok (.ireturn, 1) := by decide +kernel
theorem dX6_carve_54 : decode cX6_carve 54 = .ok (.aload_n 0, 1) := by decide +kernel
theorem dX6_carve_55 : decode cX6_carve 55 = .ok (.getfield 33, 3) := by decide +kernel
theorem dX6_carve_58 : decode cX6_carve 58 = .ok (.iconst 2, 1) := by decide +kernel
theorem dX6_carve_59 : decode cX6_carve 59 = .ok (.iaload, 1) := by decide +kernel
theorem dX6_carve_60 : decode cX6_carve 60 = .ok (.bipush 12, 2) := by decide +kernel
theorem dX6_carve_62 : decode cX6_carve 62 = .ok (.if_icmp .ne 6, 3) := by decide +kernel
theorem dX6_carve_65 : decode cX6_carve 65 = .ok (.bipush (-3), 2) := by decide +kernel
theorem dX6_carve_67 : decode cX6_carve 67 = .ok (.ireturn, 1) := by decide +kernel
theorem dX6_carve_68 : decode cX6_carve 68 = .ok (.aload_n 0, 1) := by decide +kernel
theorem dX6_carve_69 : decode cX6_carve 69 = .ok (.invokevirtual 146, 3) := by decide +kernel
theorem dX6_carve_72 : decode cX6_carve 72 = .ok (.aload_n 0, 1) := by decide +kernel
theorem dX6_carve_73 : decode cX6_carve 73 = .ok (.getfield 33, 3) := by decide +kernel
theorem dX6_carve_76 : decode cX6_carve 76 = .ok (.iconst 3, 1) := by decide +kernel
theorem dX6_carve_77 : decode cX6_carve 77 = .ok (.iload_n 1, 1) := by decide +kernel
theorem dX6_carve_78 : decode cX6_carve 78 = .ok (.iadd, 1) := by decide +kernel
theorem dX6_carve_79 : decode cX6_carve 79 = .ok (.dup2, 1) := by decide +kernel
theorem dX6_carve_80 : decode cX6_carve 80 = .ok (.iaload, 1) := by decide +kernel
theorem dX6_carve_81 : decode cX6_carve 81 = .ok (.aload_n 0, 1) := by decide +kernel
theorem dX6_carve_82 : decode cX6_carve 82 = .ok (.iload_n 2, 1) := by decide +kernel
theorem dX6_carve_83 : decode cX6_carve 83 = .ok (.invokevirtual 155, 3) := by decide +kernel
theorem dX6_carve_86 : decode cX6_carve 86 = .ok (.isub, 1) := by decide +kernel
theorem dX6_carve_87 : decode cX6_carve 87 = .ok (.iastore, 1) := by decide +kernel
theorem dX6_carve_88 : decode cX6_carve 88 = .ok (.aload_n 0, 1) := by decide +kernel
theorem dX6_carve_89 : decode cX6_carve 89 = .ok (.iconst 0, 1) := by decide +kernel
theorem dX6_carve_90 : decode cX6_carve 90 = .ok (.iload_n 3, 1) := by decide +kernel
theorem dX6_carve_91 : decode cX6_carve 91 = .ok (.invokevirtual 158, 3) := by decide +kernel
theorem dX6_carve_94 : decode cX6_carve 94 = .ok (.istore 5, 2) := by decide +kernel
theorem dX6_carve_96 : decode cX6_carve 96 = .ok (.aload_n 0, 1) := by decide +kernel
theorem dX6_carve_97 : decode cX6_carve 97 = .ok (.iconst 0, 1) := by decide +kernel
theorem dX6_carve_98 : decode cX6_carve 98 = .ok (.iload 4, 2) := by decide +kernel
theorem dX6_carve_100 : decode cX6_carve 100 = .ok (.ifCond .eq 8, 3) := by decide +kernel
theorem dX6_carve_103 : decode cX6_carve 103 = .ok (.iload 5, 2) := by decide +kernel
theorem dX6_carve_105 : decode cX6_carve 105 = .ok (.goto 7, 3) := by decide +kernel
theorem dX6_carve_108 : decode cX6_carve 108 = .ok (.iload 5, 2) := by decide +kernel
theorem dX6_carve_110 : decode cX6_carve 110 = .ok (.iconst 1, 1) := by decide +kernel
theorem dX6_carve_111 : decode cX6_carve 111 = .ok (.ixor, 1) := by decide +kernel
theorem dX6_carve_112 : decode cX6_carve 112 = .ok (.iload_n 2, 1) := by decide +kernel
theorem dX6_carve_113 : decode cX6_carve 113 = .ok (.iload_n 1, 1) := by decide +kernel
theorem dX6_carve_114 : decode cX6_carve 114 = .ok (.invokevirtual 161, 3) := by decide +kernel
theorem dX6_carve_117 : decode cX6_carve 117 = .ok (.ireturn, 1) := by decide +kernel
theorem dX6_chisel_0 : decode cX6_chisel 0 = .ok (.aload_n 0, 1) := by decide +kernel
theorem dX6_chisel_1 : decode cX6_chisel 1 = .ok (.iload_n 1, 1) := by decide +kernel
theorem dX6_chisel_2 : decode cX6_chisel 2 = .ok (.invokevirtual 119, 3) := by decide +kernel
theorem dX6_chisel_5 : decode cX6_chisel 5 = .ok (.ifCond .eq 11, 3) := by decide +kernel
theorem dX6_chisel_8 : decode cX6_chisel 8 = .ok (.aload_n 0, 1) := by decide +kernel
theorem dX6_chisel_9 : decode cX6_chisel 9 = .ok (.iload_n 2, 1) := by decide +kernel
theorem dX6_chisel_10 : decode cX6_chisel 10 = .ok (.invokevirtual 131, 3) := by decide +kernel
theorem dX6_chisel_13 : decode cX6_chisel 13 = .ok (.ifCond .ne 5, 3) := by decide +kernel
theorem dX6_chisel_16 : decode cX6_chisel 16 = .ok (.iconst (-1), 1) := by decide +kernel
theorem dX6_chisel_17 : decode cX6_chisel 17 = .ok (.ireturn, 1) := by decide +kernel
theorem dX6_chisel_18 : decode cX6_chisel 18 = .ok (.aload_n 0, 1) := by decide +kernel
theorem dX6_chisel_19 : decode cX6_chisel 19 = .ok (.aload_n 0, 1) := by decide +kernel
theorem dX6_chisel_20 : decode cX6_chisel 20 = .ok (.getfield 33, 3) := by decide +kernel
theorem dX6_chisel_23 : decode cX6_chisel 23 = .ok (.bipush 8, 2) := by decide +kernel
theorem dX6_chisel_25 : decode cX6_chisel 25 = .ok (.iconst 4, 1) := by decide +kernel
theorem dX6_chisel_26 : decode cX6_chisel 26 = .ok (.iload_n 2, 1) := by decide +kernel
theorem dX6_chisel_27 : decode cX6_chisel 27 = .ok (.imul, 1) := by decide +kernel
theorem dX6_chisel_28 : decode cX6_chisel 28 = .ok (.iadd, 1) := by decide +kernel
theorem dX6_chisel_29 : decode cX6_chisel 29 = .ok (.iconst 1, 1) := by decide +kernel
theorem dX6_chisel_30 : decode cX6_chisel 30 = .ok (.iadd, 1) := by decide +kernel
theorem dX6_chisel_31 : decode cX6_chisel 31 = .ok (.iaload, 1) := by decide +kernel
theorem dX6_chisel_32 : decode cX6_chisel 32 = .ok (.invokevirtual 155, 3) := by decide +kernel
theorem dX6_chisel_35 : decode cX6_chisel 35 = .ok (.istore_n 3, 1) := by decide +kernel
theorem dX6_chisel_36 : decode cX6_chisel 36 = .ok (.aload_n 0, 1) := by decide +kernel
theorem dX6_chisel_37 : decode cX6_chisel 37 = .ok (.getfield 33, 3) := by decide +kernel
theorem dX6_chisel_40 : decode cX6_chisel 40 = .ok (.iconst 3, 1) := by decide +kernel
theorem dX6_chisel_41 : decode cX6_chisel 41 = .ok (.iload_n 1, 1) := by decide +kernel
theorem dX6_chisel_42 : decode cX6_chisel 42 = .ok (.iadd, 1) := by decide +kernel
theorem dX6_chisel_43 : decode cX6_chisel 43 = .ok (.iaload, 1) := by decide +kernel
theorem dX6_chisel_44 : decode cX6_chisel 44 = .ok (.iload_n 3, 1) := by decide +kernel
theorem dX6_chisel_45 : decode cX6_chisel 45 = .ok (.if_icmp .ge 6, 3) := by decide +kernel
theorem dX6_chisel_48 : decode cX6_chisel 48 = .ok (.bipush (-2), 2) := by decide +kernel
theorem dX6_chisel_50 : decode cX6_chisel 50 = .ok (.ireturn, 1) := by decide +kernel
theorem dX6_chisel_51 : decode cX6_chisel 51 = .ok (.aload_n 0, 1) := by decide +kernel
theorem dX6_chisel_52 : decode cX6_chisel 52 = .ok (.invokevirtual 146, 3) := by decide +kernel
theorem dX6_chisel_55 : decode cX6_chisel 55 = .ok (.aload_n 0, 1) := by decide +kernel
theorem dX6_chisel_56 : decode cX6_chisel 56 = .ok (.getfield 33, 3) := by decide +kernel
theorem dX6_chisel_59 : decode cX6_chisel 59 = .ok (.iconst 3, 1) := by decide +kernel
theorem dX6_chisel_60 : decode cX6_chisel 60 = .ok (.iload_n 1, 1) := by decide +kernel
theorem dX6_chisel_61 : decode cX6_chisel 61 = .ok (.iadd, 1) := by decide +kernel
theorem dX6_chisel_62 : decode cX6_chisel 62 = .ok (.dup2, 1) := by decide +kernel
theorem dX6_chisel_63 : decode cX6_chisel 63 = .ok (.iaload, 1) := by decide +kernel
theorem dX6_chisel_64 : decode cX6_chisel 64 = .ok (.iload_n 3, 1) := by decide +kernel
theorem dX6_chisel_65 : decode cX6_chisel 65 = .ok (.isub, 1) := by decide +kernel
theorem dX6_chisel_66 : decode cX6_chisel 66 = .ok (.iastore, 1) := by decide +kernel
theorem dX6_chisel_67 : decode cX6_chisel 67 = .ok (.aload_n 0, 1) := by decide +kernel
theorem dX6_chisel_68 : decode cX6_chisel 68 = .ok (.iconst 0, 1) := by decide +kernel
theorem dX6_chisel_69 : decode cX6_chisel 69 = .ok (.iload_n 2, 1) := by decide +kernel
theorem dX6_chisel_70 : decode cX6_chisel 70 = .ok (.invokevirtual 165, 3) := by decide +kernel
theorem dX6_chisel_73 : decode cX6_chisel 73 = .ok (.aload_n 0, 1) := by decide +kernel
theorem dX6_chisel_74 : decode cX6_chisel 74 = .ok (.getfield 33, 3) := by decide +kernel
theorem dX6_chisel_77 : decode cX6_chisel 77 = .ok (.iconst 2, 1) := by decide +kernel
theorem dX6_chisel_78 : decode cX6_chisel 78 = .ok (.iaload, 1) := by decide +kernel
theorem dX6_chisel_79 : decode cX6_chisel 79 = .ok (.ireturn, 1) := by decide +kernel
theorem dX6_rings_0 : decode cX6_rings 0 = .ok (.aload_n 0, 1) := by decide +kernel
theorem dX6_rings_1 : decode cX6_rings 1 = .ok (.getfield 33, 3) := by decide +kernel
theorem dX6_rings_4 : decode cX6_rings 4 = .ok (.bipush 56, 2) := by decide +kernel
theorem dX6_rings_6 : decode cX6_rings 6 = .ok (.iload_n 1, 1) := by decide +kernel
theorem dX6_rings_7 : decode cX6_rings 7 = .ok (.imul, 1) := by decide +kernel
theorem dX6_rings_8 : decode cX6_rings 8 = .ok (.iconst 1, 1) := by decide +kernel
theorem dX6_rings_9 : decode cX6_rings 9 = .ok (.iadd, 1) := by decide +kernel
theorem dX6_rings_10 : decode cX6_rings 10 = .ok (.dup2, 1) := by decide +kernel
theorem dX6_rings_11 : decode cX6_rings 11 = .ok (.iaload, 1) := by decide +kernel
theorem dX6_rings_12 : decode cX6_rings 12 = .ok (.iconst 1, 1) := by decide +kernel
theorem dX6_rings_13 : decode cX6_rings 13 = .ok (.iadd, 1) := by decide +kernel
theorem dX6_rings_14 : decode cX6_rings 14 = .ok (.iastore, 1) := by decide +kernel
theorem dX6_rings_15 : decode cX6_rings 15 = .ok (.aload_n 0, 1) := by decide +kernel
theorem dX6_rings_16 : decode cX6_rings 16 = .ok (.iload_n 1, 1) := by decide +kernel
theorem dX6_rings_17 : decode cX6_rings 17 = .ok (.invokevirtual 102, 3) := by decide +kernel
theorem dX6_rings_20 : decode cX6_rings 20 = .ok (.aload_n 0, 1) := by decide +kernel
theorem dX6_rings_21 : decode cX6_rings 21 = .ok (.getfield 33, 3) := by decide +kernel
theorem dX6_rings_24 : decode cX6_rings 24 = .ok (.bipush 56, 2) := by decide +kernel
theorem dX6_rings_26 : decode cX6_rings 26 = .ok (.iload_n 1, 1) := by decide +kernel
theorem dX6_rings_27 : decode cX6_rings 27 = .ok (.imul, 1) := by decide +kernel
theorem dX6_rings_28 : decode cX6_rings 28 = .ok (.iconst 2, 1) := by decide +kernel
theorem dX6_rings_29 : decode cX6_rings 29 = .ok (.iadd, 1) := by decide +kernel
theorem dX6_rings_30 : decode cX6_rings 30 = .ok (.iaload, 1) := by decide +kernel
theorem dX6_rings_31 : decode cX6_rings 31 = .ok (.iconst 1, 1) := by decide +kernel
theorem dX6_rings_32 : decode cX6_rings 32 = .ok (.isub, 1) := by decide +kernel
theorem dX6_rings_33 : decode cX6_rings 33 = .ok (.istore_n 2, 1) := by decide +kernel
theorem dX6_rings_34 : decode cX6_rings 34 = .ok (.iload_n 2, 1) := by decide +kernel
theorem dX6_rings_35 : decode cX6_rings 35 = .ok (.ifCond .lt 120, 3) := by decide +kernel
theorem dX6_rings_38 : decode cX6_rings 38 = .ok (.bipush 56, 2) := by decide +kernel
theorem dX6_rings_40 : decode cX6_rings 40 = .ok (.iload_n 1, 1) := by decide +kernel
theorem dX6_rings_41 : decode cX6_rings 41 = .ok (.imul, 1) := by decide +kernel
theorem dX6_rings_42 : decode cX6_rings 42 = .ok (.bipush 8, 2) := by decide +kernel
theorem dX6_rings_44 : decode cX6_rings 44 = .ok (.iadd, 1) := by decide +kernel
theorem dX6_rings_45 : decode cX6_rings 45 = .ok (.iconst 4, 1) := by decide +kernel
theorem dX6_rings_46 : decode cX6_rings 46 = .ok (.iload_n 2, 1) := by decide +kernel
theorem dX6_rings_47 : decode cX6_rings 47 = .ok (.imul, 1) := by decide +kernel
theorem dX6_rings_48 : decode cX6_rings 48 = .ok (.iadd, 1) := by decide +kernel
theorem dX6_rings_49 : decode cX6_rings 49 = .ok (.istore_n 3, 1) := by decide +kernel
theorem dX6_rings_50 : decode cX6_rings 50 = .ok (.aload_n 0, 1) := by decide +kernel
theorem dX6_rings_51 : decode cX6_rings 51 = .ok (.getfield 33, 3) := by decide +kernel
theorem dX6_rings_54 : decode cX6_rings 54 = .ok (.iload_n 3, 1) := by decide +kernel
theorem dX6_rings_55 : decode cX6_rings 55 = .ok (.iconst 3, 1) := by decide +kernel
theorem dX6_rings_56 : decode cX6_rings 56 = .ok (.iadd, 1) := by decide +kernel
theorem dX6_rings_57 : decode cX6_rings 57 = .ok (.dup2, 1) := by decide +kernel
theorem dX6_rings_58 : decode cX6_rings 58 = .ok (.iaload, 1) := by decide +kernel
theorem dX6_rings_59 : decode cX6_rings 59 = .ok (.iconst 1, 1) := by decide +kernel
theorem dX6_rings_60 : decode cX6_rings 60 = .ok (.iadd, 1) := by decide +kernel
theorem dX6_rings_61 : decode cX6_rings 61 = .ok (.iastore, 1) := by decide +kernel
theorem dX6_rings_62 : decode cX6_rings 62 = .ok (.aload_n 0, 1) := by decide +kernel
theorem dX6_rings_63 : decode cX6_rings 63 = .ok (.getfield 33, 3) := by decide +kernel
theorem dX6_rings_66 : decode cX6_rings 66 = .ok (.iload_n 3, 1) := by decide +kernel
theorem dX6_rings_67 : decode cX6_rings 67 = .ok (.iconst 1, 1) := by decide +kernel
theorem dX6_rings_68 : decode cX6_rings 68 = .ok (.iadd, 1) := by decide +kernel
theorem dX6_rings_69 : decode cX6_rings 69 = .ok (.iaload, 1) := by decide +kernel
theorem dX6_rings_70 : decode cX6_rings 70 = .ok (.istore 4, 2) := by decide +kernel
theorem dX6_rings_72 : decode cX6_rings 72 = .ok (.aload_n 0, 1) := by decide +kernel
theorem dX6_rings_73 : decode cX6_rings 73 = .ok (.getfield 23, 3) := by decide +kernel
theorem dX6_rings_76 : decode cX6_rings 76 = .ok (.iconst 3, 1) := by decide +kernel
theorem dX6_rings_77 : decode cX6_rings 77 = .ok (.iload 4, 2) := by decide +kernel
theorem dX6_rings_79 : decode cX6_rings 79 = .ok (.imul, 1) := by decide +kernel
theorem dX6_rings_80 : decode cX6_rings 80 = .ok (.iconst 2, 1) := by decide +kernel
theorem dX6_rings_81 : decode cX6_rings 81 = .ok (.iadd, 1) := by decide +kernel
theorem dX6_rings_82 : decode cX6_rings 82 = .ok (.iaload, 1) := by decide +kernel
theorem dX6_rings_83 : decode cX6_rings 83 = .ok (.istore 5, 2) := by decide +kernel
theorem dX6_rings_85 : decode cX6_rings 85 = .ok (.iload 5, 2) := by decide +kernel
theorem dX6_rings_87 : decode cX6_rings 87 = .ok (.iconst 1, 1) := by decide +kernel
theorem dX6_rings_88 : decode cX6_rings 88 = .ok (.if_icmp .ne 25, 3) := by decide +kernel
theorem dX6_rings_91 : decode cX6_rings 91 = .ok (.aload_n 0, 1) := by decide +kernel
theorem dX6_rings_92 : decode cX6_rings 92 = .ok (.getfield 33, 3) := by decide +kernel
theorem dX6_rings_95 : decode cX6_rings 95 = .ok (.iload_n 3, 1) := by decide +kernel
theorem dX6_rings_96 : decode cX6_rings 96 = .ok (.iconst 3, 1) := by decide +kernel
theorem dX6_rings_97 : decode cX6_rings 97 = .ok (.iadd, 1) := by decide +kernel
theorem dX6_rings_98 : decode cX6_rings 98 = .ok (.iaload, 1) := by decide +kernel
theorem dX6_rings_99 : decode cX6_rings 99 = .ok (.aload_n 0, 1) := by decide +kernel
theorem dX6_rings_100 : decode cX6_rings 100 = .ok (.getfield 23, 3) := by decide +kernel
theorem dX6_rings_103 : decode cX6_rings 103 = .ok (.iconst 3, 1) := by decide +kernel
theorem dX6_rings_104 : decode cX6_rings 104 = .ok (.iload 4, 2) := by decide +kernel
theorem dX6_rings_106 : decode cX6_rings 106 = .ok (.imul, 1) := by decide +kernel
theorem dX6_rings_107 : decode cX6_rings 107 = .ok (.iconst 1, 1) := by decide +kernel
theorem dX6_rings_108 : decode cX6_rings 108 = .ok (.iadd, 1) := by decide +kernel
theorem dX6_rings_109 : decode cX6_rings 109 = .ok (.iaload, 1) := by decide +kernel
theorem dX6_rings_110 : decode cX6_rings 110 = .ok (.if_icmp .ge 21, 3) := by decide +kernel
theorem dX6_rings_113 : decode cX6_rings 113 = .ok (.iload 5, 2) := by decide +kernel
theorem dX6_rings_115 : decode cX6_rings 115 = .ok (.iconst 2, 1) := by decide +kernel
theorem dX6_rings_116 : decode cX6_rings 116 = .ok (.if_icmp .ne 19, 3) := by decide +kernel
theorem dX6_rings_119 : decode cX6_rings 119 = .ok (.aload_n 0, 1) := by decide +kernel
theorem dX6_rings_120 : decode cX6_rings 120 = .ok (.getfield 33, 3) := by decide +kernel
theorem dX6_rings_123 : decode cX6_rings 123 = .ok (.iload_n 3, 1) := by decide +kernel
theorem dX6_rings_124 : decode cX6_rings 124 = .ok (.iconst 3, 1) := by decide +kernel
theorem dX6_rings_125 : decode cX6_rings 125 = .ok (.iadd, 1) := by decide +kernel
theorem dX6_rings_126 : decode cX6_rings 126 = .ok (.iaload, 1) := by decide +kernel
theorem dX6_rings_127 : decode cX6_rings 127 = .ok (.iconst 2, 1) := by decide +kernel
theorem dX6_rings_128 : decode cX6_rings 128 = .ok (.if_icmp .lt 7, 3) := by decide +kernel
theorem dX6_rings_131 : decode cX6_rings 131 = .ok (.iconst 1, 1) := by decide +kernel
theorem dX6_rings_132 : decode cX6_rings 132 = .ok (.goto 4, 3) := by decide +kernel
theorem dX6_rings_135 : decode cX6_rings 135 = .ok (.iconst 0, 1) := by decide +kernel
theorem dX6_rings_136 : decode cX6_rings 136 = .ok (.istore 6, 2) := by decide +kernel
theorem dX6_rings_138 : decode cX6_rings 138 = .ok (.iload 6, 2) := by decide +kernel
theorem dX6_rings_140 : decode cX6_rings 140 = .ok (.ifCond .eq 9, 3) := by decide +kernel
theorem dX6_rings_143 : decode cX6_rings 143 = .ok (.aload_n 0, 1) := by decide +kernel
theorem dX6_rings_144 : decode cX6_rings 144 = .ok (.iload_n 1, 1) := by decide +kernel
theorem dX6_rings_145 : decode cX6_rings 145 = .ok (.iload_n 2, 1) := by decide +kernel
theorem dX6_rings_146 : decode cX6_rings 146 = .ok (.invokevirtual 165, 3) := by decide +kernel
theorem dX6_rings_149 : decode cX6_rings 149 = .ok (.iinc 2 (-1), 3) := by decide +kernel
theorem dX6_rings_152 : decode cX6_rings 152 = .ok (.goto (-118), 3) := by decide +kernel
theorem dX6_rings_155 : decode cX6_rings 155 = .ok (.return_, 1) := by decide +kernel
theorem dX6_bell_0 : decode cX6_bell 0 = .ok (.aload_n 0, 1) := by decide +kernel
theorem dX6_bell_1 : decode cX6_bell 1 = .ok (.getfield 33, 3) := by decide +kernel
theorem dX6_bell_4 : decode cX6_bell 4 = .ok (.iconst 1, 1) := by decide +kernel
theorem dX6_bell_5 : decode cX6_bell 5 = .ok (.iaload, 1) := by decide +kernel
theorem dX6_bell_6 : decode cX6_bell 6 = .ok (.sipush 999, 3) := by decide +kernel
theorem dX6_bell_9 : decode cX6_bell 9 = .ok (.if_icmp .ne 6, 3) := by decide +kernel
theorem dX6_bell_12 : decode cX6_bell 12 = .ok (.bipush (-2), 2) := by decide +kernel
theorem dX6_bell_14 : decode cX6_bell 14 = .ok (.ireturn, 1) := by decide +kernel
theorem dX6_bell_15 : decode cX6_bell 15 = .ok (.aload_n 0, 1) := by decide +kernel
theorem dX6_bell_16 : decode cX6_bell 16 = .ok (.invokevirtual 146, 3) := by decide +kernel
theorem dX6_bell_19 : decode cX6_bell 19 = .ok (.aload_n 0, 1) := by decide +kernel
theorem dX6_bell_20 : decode cX6_bell 20 = .ok (.iconst 0, 1) := by decide +kernel
theorem dX6_bell_21 : decode cX6_bell 21 = .ok (.invokevirtual 168, 3) := by decide +kernel
theorem dX6_bell_24 : decode cX6_bell 24 = .ok (.aload_n 0, 1) := by decide +kernel
theorem dX6_bell_25 : decode cX6_bell 25 = .ok (.getfield 33, 3) := by decide +kernel
theorem dX6_bell_28 : decode cX6_bell 28 = .ok (.iconst 2, 1) := by decide +kernel
theorem dX6_bell_29 : decode cX6_bell 29 = .ok (.iaload, 1) := by decide +kernel
theorem dX6_bell_30 : decode cX6_bell 30 = .ok (.ireturn, 1) := by decide +kernel
theorem dX6_undo_0 : decode cX6_undo 0 = .ok (.aload_n 0, 1) := by decide +kernel
theorem dX6_undo_1 : decode cX6_undo 1 = .ok (.getfield 106, 3) := by decide +kernel
theorem dX6_undo_4 : decode cX6_undo 4 = .ok (.ifCond .ne 6, 3) := by decide +kernel
theorem dX6_undo_7 : decode cX6_undo 7 = .ok (.bipush (-2), 2) := by decide +kernel
theorem dX6_undo_9 : decode cX6_undo 9 = .ok (.ireturn, 1) := by decide +kernel
theorem dX6_undo_10 : decode cX6_undo 10 = .ok (.aload_n 0, 1) := by decide +kernel
theorem dX6_undo_11 : decode cX6_undo 11 = .ok (.dup, 1) := by decide +kernel
theorem dX6_undo_12 : decode cX6_undo 12 = .ok (.getfield 106, 3) := by decide +kernel
theorem dX6_undo_15 : decode cX6_undo 15 = .ok (.iconst 1, 1) := by decide +kernel
theorem dX6_undo_16 : decode cX6_undo 16 = .ok (.isub, 1) := by decide +kernel
theorem dX6_undo_17 : decode cX6_undo 17 = .ok (.putfield 106, 3) := by decide +kernel
theorem dX6_undo_20 : decode cX6_undo 20 = .ok (.aload_n 0, 1) := by decide +kernel
theorem dX6_undo_21 : decode cX6_undo 21 = .ok (.iconst 3, 1) := by decide +kernel
theorem dX6_undo_22 : decode cX6_undo 22 = .ok (.aload_n 0, 1) := by decide +kernel
theorem dX6_undo_23 : decode cX6_undo 23 = .ok (.getfield 106, 3) := by decide +kernel
theorem dX6_undo_26 : decode cX6_undo 26 = .ok (.iadd, 1) := by decide +kernel
theorem dX6_undo_27 : decode cX6_undo 27 = .ok (.iconst 0, 1) := by decide +kernel
theorem dX6_undo_28 : decode cX6_undo 28 = .ok (.invokevirtual 139, 3) := by decide +kernel
theorem dX6_undo_31 : decode cX6_undo 31 = .ok (.aload_n 0, 1) := by decide +kernel
theorem dX6_undo_32 : decode cX6_undo 32 = .ok (.getfield 106, 3) := by decide +kernel
theorem dX6_undo_35 : decode cX6_undo 35 = .ok (.ireturn, 1) := by decide +kernel
theorem dX6_handsOf_0 : decode cX6_handsOf 0 = .ok (.iload 4, 2) := by decide +kernel
theorem dX6_handsOf_2 : decode cX6_handsOf 2 = .ok (.ifCond .lt 10, 3) := by decide +kernel
theorem dX6_handsOf_5 : decode cX6_handsOf 5 = .ok (.iconst 1, 1) := by decide +kernel
theorem dX6_handsOf_6 : decode cX6_handsOf 6 = .ok (.iload 4, 2) := by decide +kernel
theorem dX6_handsOf_8 : decode cX6_handsOf 8 = .ok (.ishl, 1) := by decide +kernel
theorem dX6_handsOf_9 : decode cX6_handsOf 9 = .ok (.goto 4, 3) := by decide +kernel
theorem dX6_handsOf_12 : decode cX6_handsOf 12 = .ok (.iconst 0, 1) := by decide +kernel
theorem dX6_handsOf_13 : decode cX6_handsOf 13 = .ok (.istore 5, 2) := by decide +kernel
theorem dX6_handsOf_15 : decode cX6_handsOf 15 = .ok (.iconst 0, 1) := by decide +kernel
theorem dX6_handsOf_16 : decode cX6_handsOf 16 = .ok (.istore 6, 2) := by decide +kernel
theorem dX6_handsOf_18 : decode cX6_handsOf 18 = .ok (.iconst 0, 1) := by decide +kernel
theorem dX6_handsOf_19 : decode cX6_handsOf 19 = .ok (.istore 7, 2) := by decide +kernel
theorem dX6_handsOf_21 : decode cX6_handsOf 21 = .ok (.iload 7, 2) := by decide +kernel
theorem dX6_handsOf_23 : decode cX6_handsOf 23 = .ok (.aload_n 0, 1) := by decide +kernel
theorem dX6_handsOf_24 : decode cX6_handsOf 24 = .ok (.getfield 33, 3) := by decide +kernel
theorem dX6_handsOf_27 : decode cX6_handsOf 27 = .ok (.bipush 56, 2) := by decide +kernel
theorem dX6_handsOf_29 : decode cX6_handsOf 29 = .ok (.iload_n 1, 1) := by decide +kernel
theorem dX6_handsOf_30 : decode cX6_handsOf 30 = .ok (.imul, 1) := by decide +kernel
theorem dX6_handsOf_31 : decode cX6_handsOf 31 = .ok (.iconst 2, 1) := by decide +kernel
theorem dX6_handsOf_32 : decode cX6_handsOf 32 = .ok (.iadd, 1) := by decide +kernel
theorem dX6_handsOf_33 : decode cX6_handsOf 33 = .ok (.iaload, 1) := by decide +kernel
theorem dX6_handsOf_34 : decode cX6_handsOf 34 = .ok (.if_icmp .ge 86, 3) := by decide +kernel
theorem dX6_handsOf_37 : decode cX6_handsOf 37 = .ok (.bipush 56, 2) := by decide +kernel
theorem dX6_handsOf_39 : decode cX6_handsOf 39 = .ok (.iload_n 1, 1) := by decide +kernel
theorem dX6_handsOf_40 : decode cX6_handsOf 40 = .ok (.imul, 1) := by decide +kernel
theorem dX6_handsOf_41 : decode cX6_handsOf 41 = .ok (.bipush 8, 2) := by decide +kernel
theorem dX6_handsOf_43 : decode cX6_handsOf 43 = .ok (.iadd, 1) := by decide +kernel
theorem dX6_handsOf_44 : decode cX6_handsOf 44 = .ok (.iconst 4, 1) := by decide +kernel
theorem dX6_handsOf_45 : decode cX6_handsOf 45 = .ok (.iload 7, 2) := by decide +kernel
theorem dX6_handsOf_47 : decode cX6_handsOf 47 = .ok (.imul, 1) := by decide +kernel
theorem dX6_handsOf_48 : decode cX6_handsOf 48 = .ok (.iadd, 1) := by decide +kernel
theorem dX6_handsOf_49 : decode cX6_handsOf 49 = .ok (.istore 8, 2) := by decide +kernel
theorem dX6_handsOf_51 : decode cX6_handsOf 51 = .ok (.aload_n 0, 1) := by decide +kernel
theorem dX6_handsOf_52 : decode cX6_handsOf 52 = .ok (.getfield 33, 3) := by decide +kernel
theorem dX6_handsOf_55 : decode cX6_handsOf 55 = .ok (.iload 8, 2) := by decide +kernel
theorem dX6_handsOf_57 : decode cX6_handsOf 57 = .ok (.iaload, 1) := by decide +kernel
theorem dX6_handsOf_58 : decode cX6_handsOf 58 = .ok (.iload_n 2, 1) := by decide +kernel
theorem dX6_handsOf_59 : decode cX6_handsOf 59 = .ok (.if_icmp .ne 55, 3) := by decide +kernel
theorem dX6_handsOf_62 : decode cX6_handsOf 62 = .ok (.iload 7, 2) := by decide +kernel
theorem dX6_handsOf_64 : decode cX6_handsOf 64 = .ok (.iload_n 3, 1) := by decide +kernel
theorem dX6_handsOf_65 : decode cX6_handsOf 65 = .ok (.if_icmp .eq 49, 3) := by decide +kernel
theorem dX6_handsOf_68 : decode cX6_handsOf 68 = .ok (.iload 5, 2) := by decide +kernel
theorem dX6_handsOf_70 : decode cX6_handsOf 70 = .ok (.iconst 1, 1) := by decide +kernel
theorem dX6_handsOf_71 : decode cX6_handsOf 71 = .ok (.aload_n 0, 1) := by decide +kernel
theorem dX6_handsOf_72 : decode cX6_handsOf 72 = .ok (.getfield 33, 3) := by decide +kernel
theorem dX6_handsOf_75 : decode cX6_handsOf 75 = .ok (.iload 8, 2) := by decide +kernel
theorem dX6_handsOf_77 : decode cX6_handsOf 77 = .ok (.iconst 2, 1) := by decide +kernel
theorem dX6_handsOf_78 : decode cX6_handsOf 78 = .ok (.iadd, 1) := by decide +kernel
theorem dX6_handsOf_79 : decode cX6_handsOf 79 = .ok (.iaload, 1) := by decide +kernel
theorem dX6_handsOf_80 : decode cX6_handsOf 80 = .ok (.ishl, 1) := by decide +kernel
theorem dX6_handsOf_81 : decode cX6_handsOf 81 = .ok (.ior, 1) := by decide +kernel
theorem dX6_handsOf_82 : decode cX6_handsOf 82 = .ok (.istore 5, 2) := by decide +kernel
theorem dX6_handsOf_84 : decode cX6_handsOf 84 = .ok (.aload_n 0, 1) := by decide +kernel
theorem dX6_handsOf_85 : decode cX6_handsOf 85 = .ok (.getfield 23, 3) := by decide +kernel
theorem dX6_handsOf_88 : decode cX6_handsOf 88 = .ok (.iconst 3, 1) := by decide +kernel
theorem dX6_handsOf_89 : decode cX6_handsOf 89 = .ok (.aload_n 0, 1) := by decide +kernel
theorem dX6_handsOf_90 : decode cX6_handsOf 90 = .ok (.getfield 33, 3) := by decide +kernel
theorem dX6_handsOf_93 : decode cX6_handsOf 93 = .ok (.iload 8, 2) := by decide +kernel
theorem dX6_handsOf_95 : decode cX6_handsOf 95 = .ok (.iconst 1, 1) := by decide +kernel
theorem dX6_handsOf_96 : decode cX6_handsOf 96 = .ok (.iadd, 1) := by decide +kernel
theorem dX6_handsOf_97 : decode cX6_handsOf 97 = .ok (.iaload, 1) := by decide +kernel
theorem dX6_handsOf_98 : decode cX6_handsOf 98 = .ok (.imul, 1) := by decide +kernel
theorem dX6_handsOf_99 : decode cX6_handsOf 99 = .ok (.iconst 2, 1) := by decide +kernel
theorem dX6_handsOf_100 : decode cX6_handsOf 100 = .ok (.iadd, 1) := by decide +kernel
theorem dX6_handsOf_101 : decode cX6_handsOf 101 = .ok (.iaload, 1) := by decide +kernel
theorem dX6_handsOf_102 : decode cX6_handsOf 102 = .ok (.iconst 3, 1) := by decide +kernel
theorem dX6_handsOf_103 : decode cX6_handsOf 103 = .ok (.if_icmp .ne 7, 3) := by decide +kernel
theorem dX6_handsOf_106 : decode cX6_handsOf 106 = .ok (.iconst 1, 1) := by decide +kernel
theorem dX6_handsOf_107 : decode cX6_handsOf 107 = .ok (.goto 5, 3) := by decide +kernel
theorem dX6_handsOf_110 : decode cX6_handsOf 110 = .ok (.iload 6, 2) := by decide +kernel
theorem dX6_handsOf_112 : decode cX6_handsOf 112 = .ok (.istore 6, 2) := by decide +kernel
theorem dX6_handsOf_114 : decode cX6_handsOf 114 = .ok (.iinc 7 1, 3) := by decide +kernel
theorem dX6_handsOf_117 : decode cX6_handsOf 117 = .ok (.goto (-96), 3) := by decide +kernel
theorem dX6_handsOf_120 : decode cX6_handsOf 120 = .ok (.iload 5, 2) := by decide +kernel
theorem dX6_handsOf_122 : decode cX6_handsOf 122 = .ok (.invokestatic 149, 3) := by decide +kernel
theorem dX6_handsOf_125 : decode cX6_handsOf 125 = .ok (.iload 6, 2) := by decide +kernel
theorem dX6_handsOf_127 : decode cX6_handsOf 127 = .ok (.iadd, 1) := by decide +kernel
theorem dX6_handsOf_128 : decode cX6_handsOf 128 = .ok (.ireturn, 1) := by decide +kernel
theorem dX6_readBy_0 : decode cX6_readBy 0 = .ok (.iconst 0, 1) := by decide +kernel
theorem dX6_readBy_1 : decode cX6_readBy 1 = .ok (.istore 4, 2) := by decide +kernel
theorem dX6_readBy_3 : decode cX6_readBy 3 = .ok (.iconst 0, 1) := by decide +kernel
theorem dX6_readBy_4 : decode cX6_readBy 4 = .ok (.istore 5, 2) := by decide +kernel
theorem dX6_readBy_6 : decode cX6_readBy 6 = .ok (.iload 5, 2) := by decide +kernel
theorem dX6_readBy_8 : decode cX6_readBy 8 = .ok (.iconst 2, 1) := by decide +kernel
theorem dX6_readBy_9 : decode cX6_readBy 9 = .ok (.aload_n 0, 1) := by decide +kernel
theorem dX6_readBy_10 : decode cX6_readBy 10 = .ok (.getfield 13, 3) := by decide +kernel
theorem dX6_readBy_13 : decode cX6_readBy 13 = .ok (.iconst 0, 1) := by decide +kernel
theorem dX6_readBy_14 : decode cX6_readBy 14 = .ok (.iaload, 1) := by decide +kernel
theorem dX6_readBy_15 : decode cX6_readBy 15 = .ok (.imul, 1) := by decide +kernel
theorem dX6_readBy_16 : decode cX6_readBy 16 = .ok (.if_icmp .ge 35, 3) := by decide +kernel
theorem dX6_readBy_19 : decode cX6_readBy 19 = .ok (.iload 4, 2) := by decide +kernel
theorem dX6_readBy_21 : decode cX6_readBy 21 = .ok (.aload_n 0, 1) := by decide +kernel
theorem dX6_readBy_22 : decode cX6_readBy 22 = .ok (.iload_n 1, 1) := by decide +kernel
theorem dX6_readBy_23 : decode cX6_readBy 23 = .ok (.iload 5, 2) := by decide +kernel
theorem dX6_readBy_25 : decode cX6_readBy 25 = .ok (.iload_n 3, 1) := by decide +kernel
theorem dX6_readBy_26 : decode cX6_readBy 26 = .ok (.iconst (-1), 1) := by decide +kernel
theorem dX6_readBy_27 : decode cX6_readBy 27 = .ok (.invokevirtual 171, 3) := by decide +kernel
theorem dX6_readBy_30 : decode cX6_readBy 30 = .ok (.iload_n 2, 1) := by decide +kernel
theorem dX6_readBy_31 : decode cX6_readBy 31 = .ok (.if_icmp .lt 10, 3) := by decide +kernel
theorem dX6_readBy_34 : decode cX6_readBy 34 = .ok (.iconst 1, 1) := by decide +kernel
theorem dX6_readBy_35 : decode cX6_readBy 35 = .ok (.iload 5, 2) := by decide +kernel
theorem dX6_readBy_37 : decode cX6_readBy 37 = .ok (.ishl, 1) := by decide +kernel
theorem dX6_readBy_38 : decode cX6_readBy 38 = .ok (.goto 4, 3) := by decide +kernel
theorem dX6_readBy_41 : decode cX6_readBy 41 = .ok (.iconst 0, 1) := by decide +kernel
theorem dX6_readBy_42 : decode cX6_readBy 42 = .ok (.ior, 1) := by decide +kernel
theorem dX6_readBy_43 : decode cX6_readBy 43 = .ok (.istore 4, 2) := by decide +kernel
theorem dX6_readBy_45 : decode cX6_readBy 45 = .ok (.iinc 5 1, 3) := by decide +kernel
theorem dX6_readBy_48 : decode cX6_readBy 48 = .ok (.goto (-42), 3) := by decide +kernel
theorem dX6_readBy_51 : decode cX6_readBy 51 = .ok (.iload 4, 2) := by decide +kernel
theorem dX6_readBy_53 : decode cX6_readBy 53 = .ok (.ireturn, 1) := by decide +kernel
theorem dX6_areSo_0 : decode cX6_areSo 0 = .ok (.iconst 1, 1) := by decide +kernel
theorem dX6_areSo_1 : decode cX6_areSo 1 = .ok (.istore_n 2, 1) := by decide +kernel
theorem dX6_areSo_2 : decode cX6_areSo 2 = .ok (.iconst 0, 1) := by decide +kernel
theorem dX6_areSo_3 : decode cX6_areSo 3 = .ok (.istore_n 3, 1) := by decide +kernel
theorem dX6_areSo_4 : decode cX6_areSo 4 = .ok (.iload_n 3, 1) := by decide +kernel
theorem dX6_areSo_5 : decode cX6_areSo 5 = .ok (.bipush 16, 2) := by decide +kernel
theorem dX6_areSo_7 : decode cX6_areSo 7 = .ok (.if_icmp .ge 35, 3) := by decide +kernel
theorem dX6_areSo_10 : decode cX6_areSo 10 = .ok (.iload_n 2, 1) := by decide +kernel
theorem dX6_areSo_11 : decode cX6_areSo 11 = .ok (.ifCond .eq 23, 3) := by decide +kernel
theorem dX6_areSo_14 : decode cX6_areSo 14 = .ok (.iload_n 0, 1) := by decide +kernel
theorem dX6_areSo_15 : decode cX6_areSo 15 = .ok (.iload_n 3, 1) := by decide +kernel
theorem dX6_areSo_16 : decode cX6_areSo 16 = .ok (.ishr, 1) := by decide +kernel
theorem dX6_areSo_17 : decode cX6_areSo 17 = .ok (.iconst 1, 1) := by decide +kernel
theorem dX6_areSo_18 : decode cX6_areSo 18 = .ok (.iand, 1) := by decide +kernel
theorem dX6_areSo_19 : decode cX6_areSo 19 = .ok (.ifCond .eq 11, 3) := by decide +kernel
theorem dX6_areSo_22 : decode cX6_areSo 22 = .ok (.iload_n 3, 1) := by decide +kernel
theorem dX6_areSo_23 : decode cX6_areSo 23 = .ok (.iload_n 1, 1) := by decide +kernel
theorem dX6_areSo_24 : decode cX6_areSo 24 = .ok (.invokestatic 91, 3) := by decide +kernel
theorem dX6_areSo_27 : decode cX6_areSo 27 = .ok (.ifCond .eq 7, 3) := by decide +kernel
theorem dX6_areSo_30 : decode cX6_areSo 30 = .ok (.iconst 1, 1) := by decide +kernel
theorem dX6_areSo_31 : decode cX6_areSo 31 = .ok (.goto 4, 3) := by decide +kernel
theorem dX6_areSo_34 : decode cX6_areSo 34 = .ok (.iconst 0, 1) := by decide +kernel
theorem dX6_areSo_35 : decode cX6_areSo 35 = .ok (.istore_n 2, 1) := by decide +kernel
theorem dX6_areSo_36 : decode cX6_areSo 36 = .ok (.iinc 3 1, 3) := by decide +kernel
theorem dX6_areSo_39 : decode cX6_areSo 39 = .ok (.goto (-35), 3) := by decide +kernel
theorem dX6_areSo_42 : decode cX6_areSo 42 = .ok (.iload_n 2, 1) := by decide +kernel
theorem dX6_areSo_43 : decode cX6_areSo 43 = .ok (.ireturn, 1) := by decide +kernel
theorem dX6_knows_0 : decode cX6_knows 0 = .ok (.aload_n 0, 1) := by decide +kernel
theorem dX6_knows_1 : decode cX6_knows 1 = .ok (.iconst 0, 1) := by decide +kernel
theorem dX6_knows_2 : decode cX6_knows 2 = .ok (.putfield 174, 3) := by decide +kernel
theorem dX6_knows_5 : decode cX6_knows 5 = .ok (.aload_n 0, 1) := by decide +kernel
theorem dX6_knows_6 : decode cX6_knows 6 = .ok (.sipush 255, 3) := by decide +kernel
theorem dX6_knows_9 : decode cX6_knows 9 = .ok (.putfield 178, 3) := by decide +kernel
theorem dX6_knows_12 : decode cX6_knows 12 = .ok (.aload_n 0, 1) := by decide +kernel
theorem dX6_knows_13 : decode cX6_knows 13 = .ok (.sipush 255, 3) := by decide +kernel
theorem dX6_knows_16 : decode cX6_knows 16 = .ok (.putfield 181, 3) := by decide +kernel
theorem dX6_knows_19 : decode cX6_knows 19 = .ok (.iconst 0, 1) := by decide +kernel
theorem dX6_knows_20 : decode cX6_knows 20 = .ok (.istore_n 2, 1) := by decide +kernel
theorem dX6_knows_21 : decode cX6_knows 21 = .ok (.iload_n 2, 1) := by decide +kernel
theorem dX6_knows_22 : decode cX6_knows 22 = .ok (.sipush 256, 3) := by decide +kernel
theorem dX6_knows_25 : decode cX6_knows 25 = .ok (.if_icmp .ge 53, 3) := by decide +kernel
theorem dX6_knows_28 : decode cX6_knows 28 = .ok (.aload_n 0, 1) := by decide +kernel
theorem dX6_knows_29 : decode cX6_knows 29 = .ok (.getfield 29, 3) := by decide +kernel
theorem dX6_knows_32 : decode cX6_knows 32 = .ok (.iload_n 2, 1) := by decide +kernel
theorem dX6_knows_33 : decode cX6_knows 33 = .ok (.baload, 1) := by decide +kernel
theorem dX6_knows_34 : decode cX6_knows 34 = .ok (.ifCond .eq 38, 3) := by decide +kernel
theorem dX6_knows_37 : decode cX6_knows 37 = .ok (.iload_n 1, 1) := by decide +kernel
theorem dX6_knows_38 : decode cX6_knows 38 = .ok (.iload_n 2, 1) := by decide +kernel
theorem dX6_knows_39 : decode cX6_knows 39 = .ok (.invokestatic 184, 3) := by decide +kernel
theorem dX6_knows_42 : decode cX6_knows 42 = .ok (.ifCond .eq 30, 3) := by decide +kernel
theorem dX6_knows_45 : decode cX6_knows 45 = .ok (.aload_n 0, 1) := by decide +kernel
theorem dX6_knows_46 : decode cX6_knows 46 = .ok (.iconst 1, 1) := by decide +kernel
theorem dX6_knows_47 : decode cX6_knows 47 = .ok (.putfield 174, 3) := by decide +kernel
theorem dX6_knows_50 : decode cX6_knows 50 = .ok (.aload_n 0, 1) := by decide +kernel
theorem dX6_knows_51 : decode cX6_knows 51 = .ok (.dup, 1) := by decide +kernel
theorem dX6_knows_52 : decode cX6_knows 52 = .ok (.getfield 178, 3) := by decide +kernel
theorem dX6_knows_55 : decode cX6_knows 55 = .ok (.iload_n 2, 1) := by decide +kernel
theorem dX6_knows_56 : decode cX6_knows 56 = .ok (.iand, 1) := by decide +kernel
theorem dX6_knows_57 : decode cX6_knows 57 = .ok (.putfield 178, 3) := by decide +kernel
theorem dX6_knows_60 : decode cX6_knows 60 = .ok (.aload_n 0, 1) := by decide +kernel
theorem dX6_knows_61 : decode cX6_knows 61 = .ok (.dup, 1) := by decide +kernel
theorem dX6_knows_62 : decode cX6_knows 62 = .ok (.getfield 181, 3) := by decide +kernel
theorem dX6_knows_65 : decode cX6_knows 65 = .ok (.iload_n 2, 1) := by decide +kernel
theorem dX6_knows_66 : decode cX6_knows 66 = .ok (.iconst (-1), 1) := by decide +kernel
theorem dX6_knows_67 : decode cX6_knows 67 = .ok (.ixor, 1) := by decide +kernel
theorem dX6_knows_68 : decode cX6_knows 68 = .ok (.iand, 1) := by decide +kernel
theorem dX6_knows_69 : decode cX6_knows 69 = .ok (.putfield 181, 3) := by decide +kernel
theorem dX6_knows_72 : decode cX6_knows 72 = .ok (.iinc 2 1, 3) := by decide +kernel
theorem dX6_knows_75 : decode cX6_knows 75 = .ok (.goto (-54), 3) := by decide +kernel
theorem dX6_knows_78 : decode cX6_knows 78 = .ok (.aload_n 0, 1) := by decide +kernel
theorem dX6_knows_79 : decode cX6_knows 79 = .ok (.getfield 174, 3) := by decide +kernel
theorem dX6_knows_82 : decode cX6_knows 82 = .ok (.ifCond .eq 16, 3) := by decide +kernel
theorem dX6_knows_85 : decode cX6_knows 85 = .ok (.iconst 1, 1) := by decide +kernel
theorem dX6_knows_86 : decode cX6_knows 86 = .ok (.aload_n 0, 1) := by decide +kernel
theorem dX6_knows_87 : decode cX6_knows 87 = .ok (.getfield 13, 3) := by decide +kernel
theorem dX6_knows_90 : decode cX6_knows 90 = .ok (.iconst 0, 1) := by decide +kernel
theorem dX6_knows_91 : decode cX6_knows 91 = .ok (.iaload, 1) := by decide +kernel
theorem dX6_knows_92 : decode cX6_knows 92 = .ok (.ishl, 1) := by decide +kernel
theorem dX6_knows_93 : decode cX6_knows 93 = .ok (.iconst 1, 1) := by decide +kernel
theorem dX6_knows_94 : decode cX6_knows 94 = .ok (.isub, 1) := by decide +kernel
theorem dX6_knows_95 : decode cX6_knows 95 = .ok (.goto 4, 3) := by decide +kernel
theorem dX6_knows_98 : decode cX6_knows 98 = .ok (.iconst 0, 1) := by decide +kernel
theorem dX6_knows_99 : decode cX6_knows 99 = .ok (.istore_n 2, 1) := by decide +kernel
theorem dX6_knows_100 : decode cX6_knows 100 = .ok (.aload_n 0, 1) := by decide +kernel
theorem dX6_knows_101 : decode cX6_knows 101 = .ok (.dup, 1) := by decide +kernel
theorem dX6_knows_102 : decode cX6_knows 102 = .ok (.getfield 178, 3) := by decide +kernel
theorem dX6_knows_105 : decode cX6_knows 105 = .ok (.iload_n 2, 1) := by decide +kernel
theorem dX6_knows_106 : decode cX6_knows 106 = .ok (.iand, 1) := by decide +kernel
theorem dX6_knows_107 : decode cX6_knows 107 = .ok (.putfield 178, 3) := by decide +kernel
theorem dX6_knows_110 : decode cX6_knows 110 = .ok (.aload_n 0, 1) := by decide +kernel
theorem dX6_knows_111 : decode cX6_knows 111 = .ok (.dup, 1) := by decide +kernel
theorem dX6_knows_112 : decode cX6_knows 112 = .ok (.getfield 181, 3) := by decide +kernel
theorem dX6_knows_115 : decode cX6_knows 115 = .ok (.iload_n 2, 1) := by decide +kernel
theorem dX6_knows_116 : decode cX6_knows 116 = .ok (.iand, 1) := by decide +kernel
theorem dX6_knows_117 : decode cX6_knows 117 = .ok (.putfield 181, 3) := by decide +kernel
theorem dX6_knows_120 : decode cX6_knows 120 = .ok (.return_, 1) := by decide +kernel
theorem dX6_right_0 : decode cX6_right 0 = .ok (.aload_n 0, 1) := by decide +kernel
theorem dX6_right_1 : decode cX6_right 1 = .ok (.getfield 178, 3) := by decide +kernel
theorem dX6_right_4 : decode cX6_right 4 = .ok (.aload_n 0, 1) := by decide +kernel
theorem dX6_right_5 : decode cX6_right 5 = .ok (.getfield 33, 3) := by decide +kernel
theorem dX6_right_8 : decode cX6_right 8 = .ok (.bipush 56, 2) := by decide +kernel
theorem dX6_right_10 : decode cX6_right 10 = .ok (.iload_n 1, 1) := by decide +kernel
theorem dX6_right_11 : decode cX6_right 11 = .ok (.imul, 1) := by decide +kernel
theorem dX6_right_12 : decode cX6_right 12 = .ok (.iaload, 1) := by decide +kernel
theorem dX6_right_13 : decode cX6_right 13 = .ok (.iand, 1) := by decide +kernel
theorem dX6_right_14 : decode cX6_right 14 = .ok (.invokestatic 149, 3) := by decide +kernel
theorem dX6_right_17 : decode cX6_right 17 = .ok (.aload_n 0, 1) := by decide +kernel
theorem dX6_right_18 : decode cX6_right 18 = .ok (.getfield 181, 3) := by decide +kernel
theorem dX6_right_21 : decode cX6_right 21 = .ok (.aload_n 0, 1) := by decide +kernel
theorem dX6_right_22 : decode cX6_right 22 = .ok (.getfield 33, 3) := by decide +kernel
theorem dX6_right_25 : decode cX6_right 25 = .ok (.bipush 56, 2) := by decide +kernel
theorem dX6_right_27 : decode cX6_right 27 = .ok (.iload_n 1, 1) := by decide +kernel
theorem dX6_right_28 : decode cX6_right 28 = .ok (.imul, 1) := by decide +kernel
theorem dX6_right_29 : decode cX6_right 29 = .ok (.iaload, 1) := by decide +kernel
theorem dX6_right_30 : decode cX6_right 30 = .ok (.iconst (-1), 1) := by decide +kernel
theorem dX6_right_31 : decode cX6_right 31 = .ok (.ixor, 1) := by decide +kernel
theorem dX6_right_32 : decode cX6_right 32 = .ok (.iand, 1) := by decide +kernel
theorem dX6_right_33 : decode cX6_right 33 = .ok (.invokestatic 149, 3) := by decide +kernel
theorem dX6_right_36 : decode cX6_right 36 = .ok (.iadd, 1) := by decide +kernel
theorem dX6_right_37 : decode cX6_right 37 = .ok (.ireturn, 1) := by decide +kernel
theorem dX6_wrong_0 : decode cX6_wrong 0 = .ok (.aload_n 0, 1) := by decide +kernel
theorem dX6_wrong_1 : decode cX6_wrong 1 = .ok (.getfield 178, 3) := by decide +kernel
theorem dX6_wrong_4 : decode cX6_wrong 4 = .ok (.aload_n 0, 1) := by decide +kernel
theorem dX6_wrong_5 : decode cX6_wrong 5 = .ok (.getfield 33, 3) := by decide +kernel
theorem dX6_wrong_8 : decode cX6_wrong 8 = .ok (.bipush 56, 2) := by decide +kernel
theorem dX6_wrong_10 : decode cX6_wrong 10 = .ok (.iload_n 1, 1) := by decide +kernel
theorem dX6_wrong_11 : decode cX6_wrong 11 = .ok (.imul, 1) := by decide +kernel
theorem dX6_wrong_12 : decode cX6_wrong 12 = .ok (.iaload, 1) := by decide +kernel
theorem dX6_wrong_13 : decode cX6_wrong 13 = .ok (.iconst (-1), 1) := by decide +kernel
theorem dX6_wrong_14 : decode cX6_wrong 14 = .ok (.ixor, 1) := by decide +kernel
theorem dX6_wrong_15 : decode cX6_wrong 15 = .ok (.iand, 1) := by decide +kernel
theorem dX6_wrong_16 : decode cX6_wrong 16 = .ok (.invokestatic 149, 3) := by decide +kernel
theorem dX6_wrong_19 : decode cX6_wrong 19 = .ok (.aload_n 0, 1) := by decide +kernel
theorem dX6_wrong_20 : decode cX6_wrong 20 = .ok (.getfield 181, 3) := by decide +kernel
theorem dX6_wrong_23 : decode cX6_wrong 23 = .ok (.aload_n 0, 1) := by decide +kernel
theorem dX6_wrong_24 : decode cX6_wrong 24 = .ok (.getfield 33, 3) := by decide +kernel
theorem dX6_wrong_27 : decode cX6_wrong 27 = .ok (.bipush 56, 2) := by decide +kernel
theorem dX6_wrong_29 : decode cX6_wrong 29 = .ok (.iload_n 1, 1) := by decide +kernel
theorem dX6_wrong_30 : decode cX6_wrong 30 = .ok (.imul, 1) := by decide +kernel
theorem dX6_wrong_31 : decode cX6_wrong 31 = .ok (.iaload, 1) := by decide +kernel
theorem dX6_wrong_32 : decode cX6_wrong 32 = .ok (.iand, 1) := by decide +kernel
theorem dX6_wrong_33 : decode cX6_wrong 33 = .ok (.invokestatic 149, 3) := by decide +kernel
theorem dX6_wrong_36 : decode cX6_wrong 36 = .ok (.iadd, 1) := by decide +kernel
theorem dX6_wrong_37 : decode cX6_wrong 37 = .ok (.ireturn, 1) := by decide +kernel
theorem dX6_known__0 : decode cX6_known_ 0 = .ok (.iload_n 1, 1) := by decide +kernel
theorem dX6_known__1 : decode cX6_known_ 1 = .ok (.invokestatic 187, 3) := by decide +kernel
theorem dX6_known__4 : decode cX6_known_ 4 = .ok (.ifCond .eq 15, 3) := by decide +kernel
theorem dX6_known__7 : decode cX6_known_ 7 = .ok (.iload_n 2, 1) := by decide +kernel
theorem dX6_known__8 : decode cX6_known_ 8 = .ok (.i2l, 1) := by decide +kernel
theorem dX6_known__9 : decode cX6_known_ 9 = .ok (.lconst 0, 1) := by decide +kernel
theorem dX6_known__10 : decode cX6_known_ 10 = .ok (.ldc2_w 190, 3) := by decide +kernel
theorem dX6_known__13 : decode cX6_known_ 13 = .ok (.invokestatic 52, 3) := by decide +kernel
theorem dX6_known__16 : decode cX6_known_ 16 = .ok (.ifCond .ne 5, 3) := by decide +kernel
theorem dX6_known__19 : decode cX6_known_ 19 = .ok (.iconst (-1), 1) := by decide +kernel
theorem dX6_known__20 : decode cX6_known_ 20 = .ok (.ireturn, 1) := by decide +kernel
theorem dX6_known__21 : decode cX6_known_ 21 = .ok (.aload_n 0, 1) := by decide +kernel
theorem dX6_known__22 : decode cX6_known_ 22 = .ok (.iconst 0, 1) := by decide +kernel
theorem dX6_known__23 : decode cX6_known_ 23 = .ok (.iload_n 1, 1) := by decide +kernel
theorem dX6_known__24 : decode cX6_known_ 24 = .ok (.iconst (-1), 1) := by decide +kernel
theorem dX6_known__25 : decode cX6_known_ 25 = .ok (.invokevirtual 192, 3) := by decide +kernel
theorem dX6_known__28 : decode cX6_known_ 28 = .ok (.istore_n 3, 1) := by decide +kernel
theorem dX6_known__29 : decode cX6_known_ 29 = .ok (.aload_n 0, 1) := by decide +kernel
theorem dX6_known__30 : decode cX6_known_ 30 = .ok (.iload_n 3, 1) := by decide +kernel
theorem dX6_known__31 : decode cX6_known_ 31 = .ok (.invokevirtual 196, 3) := by decide +kernel
theorem dX6_known__34 : decode cX6_known_ 34 = .ok (.iload_n 2, 1) := by decide +kernel
theorem dX6_known__35 : decode cX6_known_ 35 = .ok (.tableswitch 57 0 4 #[33, 38, 43, 49, 55], 33) := by decide +kernel
theorem dX6_known__68 : decode cX6_known_ 68 = .ok (.aload_n 0, 1) := by decide +kernel
theorem dX6_known__69 : decode cX6_known_ 69 = .ok (.getfield 178, 3) := by decide +kernel
theorem dX6_known__72 : decode cX6_known_ 72 = .ok (.ireturn, 1) := by decide +kernel
theorem dX6_known__73 : decode cX6_known_ 73 = .ok (.aload_n 0, 1) := by decide +kernel
theorem dX6_known__74 : decode cX6_known_ 74 = .ok (.getfield 181, 3) := by decide +kernel
theorem dX6_known__77 : decode cX6_known_ 77 = .ok (.ireturn, 1) := by decide +kernel
theorem dX6_known__78 : decode cX6_known_ 78 = .ok (.aload_n 0, 1) := by decide +kernel
theorem dX6_known__79 : decode cX6_known_ 79 = .ok (.iconst 0, 1) := by decide +kernel
theorem dX6_known__80 : decode cX6_known_ 80 = .ok (.invokevirtual 199, 3) := by decide +kernel
theorem dX6_known__83 : decode cX6_known_ 83 = .ok (.ireturn, 1) := by decide +kernel
theorem dX6_known__84 : decode cX6_known_ 84 = .ok (.aload_n 0, 1) := by decide +kernel
theorem dX6_known__85 : decode cX6_known_ 85 = .ok (.iconst 0, 1) := by decide +kernel
theorem dX6_known__86 : decode cX6_known_ 86 = .ok (.invokevirtual 202, 3) := by decide +kernel
theorem dX6_known__89 : decode cX6_known_ 89 = .ok (.ireturn, 1) := by decide +kernel
theorem dX6_known__90 : decode cX6_known_ 90 = .ok (.iload_n 3, 1) := by decide +kernel
theorem dX6_known__91 : decode cX6_known_ 91 = .ok (.ireturn, 1) := by decide +kernel
theorem dX6_known__92 : decode cX6_known_ 92 = .ok (.aload_n 0, 1) := by decide +kernel
theorem dX6_known__93 : decode cX6_known_ 93 = .ok (.getfield 174, 3) := by decide +kernel
theorem dX6_known__96 : decode cX6_known_ 96 = .ok (.ifCond .eq 7, 3) := by decide +kernel
theorem dX6_known__99 : decode cX6_known_ 99 = .ok (.iconst 0, 1) := by decide +kernel
theorem dX6_known__100 : decode cX6_known_ 100 = .ok (.goto 4, 3) := by decide +kernel
theorem dX6_known__103 : decode cX6_known_ 103 = .ok (.iconst 1, 1) := by decide +kernel
theorem dX6_known__104 : decode cX6_known_ 104 = .ok (.ireturn, 1) := by decide +kernel
theorem dX6_hands_0 : decode cX6_hands 0 = .ok (.aload_n 0, 1) := by decide +kernel
theorem dX6_hands_1 : decode cX6_hands 1 = .ok (.iload_n 1, 1) := by decide +kernel
theorem dX6_hands_2 : decode cX6_hands 2 = .ok (.invokevirtual 205, 3) := by decide +kernel
theorem dX6_hands_5 : decode cX6_hands 5 = .ok (.ifCond .eq 14, 3) := by decide +kernel
theorem dX6_hands_8 : decode cX6_hands 8 = .ok (.aload_n 0, 1) := by decide +kernel
theorem dX6_hands_9 : decode cX6_hands 9 = .ok (.iconst 0, 1) := by decide +kernel
theorem dX6_hands_10 : decode cX6_hands 10 = .ok (.iload_n 1, 1) := by decide +kernel
theorem dX6_hands_11 : decode cX6_hands 11 = .ok (.iconst (-1), 1) := by decide +kernel
theorem dX6_hands_12 : decode cX6_hands 12 = .ok (.iconst (-1), 1) := by decide +kernel
theorem dX6_hands_13 : decode cX6_hands 13 = .ok (.invokevirtual 171, 3) := by decide +kernel
theorem dX6_hands_16 : decode cX6_hands 16 = .ok (.goto 4, 3) := by decide +kernel
theorem dX6_hands_19 : decode cX6_hands 19 = .ok (.iconst (-1), 1) := by decide +kernel
theorem dX6_hands_20 : decode cX6_hands 20 = .ok (.ireturn, 1) := by decide +kernel
theorem dX6_belief_0 : decode cX6_belief 0 = .ok (.aload_n 0, 1) := by decide +kernel
theorem dX6_belief_1 : decode cX6_belief 1 = .ok (.iload_n 1, 1) := by decide +kernel
theorem dX6_belief_2 : decode cX6_belief 2 = .ok (.invokevirtual 152, 3) := by decide +kernel
theorem dX6_belief_5 : decode cX6_belief 5 = .ok (.ifCond .eq 13, 3) := by decide +kernel
theorem dX6_belief_8 : decode cX6_belief 8 = .ok (.iload_n 2, 1) := by decide +kernel
theorem dX6_belief_9 : decode cX6_belief 9 = .ok (.i2l, 1) := by decide +kernel
theorem dX6_belief_10 : decode cX6_belief 10 = .ok (.lconst 0, 1) := by decide +kernel
theorem dX6_belief_11 : decode cX6_belief 11 = .ok (.lconst 1, 1) := by decide +kernel
theorem dX6_belief_12 : decode cX6_belief 12 = .ok (.invokestatic 52, 3) := by decide +kernel
theorem dX6_belief_15 : decode cX6_belief 15 = .ok (.ifCond .ne 7, 3) := by decide +kernel
theorem dX6_belief_18 : decode cX6_belief 18 = .ok (.ldc2_w 208, 3) := by decide +kernel
theorem dX6_belief_21 : decode cX6_belief 21 = .ok (.lreturn, 1) := by decide +kernel
theorem dX6_belief_22 : decode cX6_belief 22 = .ok (.lconst 0, 1) := by decide +kernel
theorem dX6_belief_23 : decode cX6_belief 23 = .ok (.lstore_n 3, 1) := by decide +kernel
theorem dX6_belief_24 : decode cX6_belief 24 = .ok (.lconst 0, 1) := by decide +kernel
theorem dX6_belief_25 : decode cX6_belief 25 = .ok (.lstore 5, 2) := by decide +kernel
theorem dX6_belief_27 : decode cX6_belief 27 = .ok (.iconst 0, 1) := by decide +kernel
theorem dX6_belief_28 : decode cX6_belief 28 = .ok (.istore 7, 2) := by decide +kernel
theorem dX6_belief_30 : decode cX6_belief 30 = .ok (.iload 7, 2) := by decide +kernel
theorem dX6_belief_32 : decode cX6_belief 32 = .ok (.sipush 256, 3) := by decide +kernel
theorem dX6_belief_35 : decode cX6_belief 35 = .ok (.if_icmp .ge 134, 3) := by decide +kernel
theorem dX6_belief_38 : decode cX6_belief 38 = .ok (.aload_n 0, 1) := by decide +kernel
theorem dX6_belief_39 : decode cX6_belief 39 = .ok (.getfield 29, 3) := by decide +kernel
theorem dX6_belief_42 : decode cX6_belief 42 = .ok (.iload 7, 2) := by decide +kernel
theorem dX6_belief_44 : decode cX6_belief 44 = .ok (.baload, 1) := by decide +kernel
theorem dX6_belief_45 : decode cX6_belief 45 = .ok (.ifCond .eq 7, 3) := by decide +kernel
theorem dX6_belief_48 : decode cX6_belief 48 = .ok (.lconst 1, 1) := by decide +kernel
theorem dX6_belief_49 : decode cX6_belief 49 = .ok (.goto 4, 3) := by decide +kernel
theorem dX6_belief_52 : decode cX6_belief 52 = .ok (.lconst 0, 1) := by decide +kernel
theorem dX6_belief_53 : decode cX6_belief 53 = .ok (.lstore 8, 2) := by decide +kernel
theorem dX6_belief_55 : decode cX6_belief 55 = .ok (.iconst 0, 1) := by decide +kernel
theorem dX6_belief_56 : decode cX6_belief 56 = .ok (.istore 10, 2) := by decide +kernel
theorem dX6_belief_58 : decode cX6_belief 58 = .ok (.iload 10, 2) := by decide +kernel
theorem dX6_belief_60 : decode cX6_belief 60 = .ok (.aload_n 0, 1) := by decide +kernel
theorem dX6_belief_61 : decode cX6_belief 61 = .ok (.getfield 33, 3) := by decide +kernel
theorem dX6_belief_64 : decode cX6_belief 64 = .ok (.iconst 2, 1) := by decide +kernel
theorem dX6_belief_65 : decode cX6_belief 65 = .ok (.iaload, 1) := by decide +kernel
theorem dX6_belief_66 : decode cX6_belief 66 = .ok (.if_icmp .ge 71, 3) := by decide +kernel
theorem dX6_belief_69 : decode cX6_belief 69 = .ok (.aload_n 0, 1) := by decide +kernel
theorem dX6_belief_70 : decode cX6_belief 70 = .ok (.getfield 20, 3) := by decide +kernel
theorem dX6_belief_73 : decode cX6_belief 73 = .ok (.iconst 2, 1) := by decide +kernel
theorem dX6_belief_74 : decode cX6_belief 74 = .ok (.aload_n 0, 1) := by decide +kernel
theorem dX6_belief_75 : decode cX6_belief 75 = .ok (.getfield 33, 3) := by decide +kernel
theorem dX6_belief_78 : decode cX6_belief 78 = .ok (.bipush 8, 2) := by decide +kernel
theorem dX6_belief_80 : decode cX6_belief 80 = .ok (.iconst 4, 1) := by decide +kernel
theorem dX6_belief_81 : decode cX6_belief 81 = .ok (.iload 10, 2) := by decide +kernel
theorem dX6_belief_83 : decode cX6_belief 83 = .ok (.imul, 1) := by decide +kernel
theorem dX6_belief_84 : decode cX6_belief 84 = .ok (.iadd, 1) := by decide +kernel
theorem dX6_belief_85 : decode cX6_belief 85 = .ok (.iconst 2, 1) := by decide +kernel
theorem dX6_belief_86 : decode cX6_belief 86 = .ok (.iadd, 1) := by decide +kernel
theorem dX6_belief_87 : decode cX6_belief 87 = .ok (.iaload, 1) := by decide +kernel
theorem dX6_belief_88 : decode cX6_belief 88 = .ok (.imul, 1) := by decide +kernel
theorem dX6_belief_89 : decode cX6_belief 89 = .ok (.iconst 1, 1) := by decide +kernel
theorem dX6_belief_90 : decode cX6_belief 90 = .ok (.iadd, 1) := by decide +kernel
theorem dX6_belief_91 : decode cX6_belief 91 = .ok (.iaload, 1) := by decide +kernel
theorem dX6_belief_92 : decode cX6_belief 92 = .ok (.istore 11, 2) := by decide +kernel
theorem dX6_belief_94 : decode cX6_belief 94 = .ok (.lload 8, 2) := by decide +kernel
theorem dX6_belief_96 : decode cX6_belief 96 = .ok (.aload_n 0, 1) := by decide +kernel
theorem dX6_belief_97 : decode cX6_belief 97 = .ok (.getfield 33, 3) := by decide +kernel
theorem dX6_belief_100 : decode cX6_belief 100 = .ok (.bipush 8, 2) := by decide +kernel
theorem dX6_belief_102 : decode cX6_belief 102 = .ok (.iconst 4, 1) := by decide +kernel
theorem dX6_belief_103 : decode cX6_belief 103 = .ok (.iload 10, 2) := by decide +kernel
theorem dX6_belief_105 : decode cX6_belief 105 = .ok (.imul, 1) := by decide +kernel
theorem dX6_belief_106 : decode cX6_belief 106 = .ok (.iadd, 1) := by decide +kernel
theorem dX6_belief_107 : decode cX6_belief 107 = .ok (.iaload, 1) := by decide +kernel
theorem dX6_belief_108 : decode cX6_belief 108 = .ok (.iload 7, 2) := by decide +kernel
theorem dX6_belief_110 : decode cX6_belief 110 = .ok (.invokestatic 91, 3) := by decide +kernel
theorem dX6_belief_113 : decode cX6_belief 113 = .ok (.ifCond .eq 12, 3) := by decide +kernel
theorem dX6_belief_116 : decode cX6_belief 116 = .ok (.bipush 10, 2) := by decide +kernel
theorem dX6_belief_118 : decode cX6_belief 118 = .ok (.iload 11, 2) := by decide +kernel
theorem dX6_belief_120 : decode cX6_belief 120 = .ok (.isub, 1) := by decide +kernel
theorem dX6_belief_121 : decode cX6_belief 121 = .ok (.i2l, 1) := by decide +kernel
theorem dX6_belief_122 : decode cX6_belief 122 = .ok (.goto 6, 3) := by decide +kernel
theorem dX6_belief_125 : decode cX6_belief 125 = .ok (.iload 11, 2) := by decide +kernel
theorem dX6_belief_127 : decode cX6_belief 127 = .ok (.i2l, 1) := by decide +kernel
theorem dX6_belief_128 : decode cX6_belief 128 = .ok (.lmul, 1) := by decide +kernel
theorem dX6_belief_129 : decode cX6_belief 129 = .ok (.lstore 8, 2) := by decide +kernel
theorem dX6_belief_131 : decode cX6_belief 131 = .ok (.iinc 10 1, 3) := by decide +kernel
theorem dX6_belief_134 : decode cX6_belief 134 = .ok (.goto (-76), 3) := by decide +kernel
theorem dX6_belief_137 : decode cX6_belief 137 = .ok (.lload 5, 2) := by decide +kernel
theorem dX6_belief_139 : decode cX6_belief 139 = .ok (.lload 8, 2) := by decide +kernel
theorem dX6_belief_141 : decode cX6_belief 141 = .ok (.ladd, 1) := by decide +kernel
theorem dX6_belief_142 : decode cX6_belief 142 = .ok (.lstore 5, 2) := by decide +kernel
theorem dX6_belief_144 : decode cX6_belief 144 = .ok (.lload_n 3, 1) := by decide +kernel
theorem dX6_belief_145 : decode cX6_belief 145 = .ok (.iload 7, 2) := by decide +kernel
theorem dX6_belief_147 : decode cX6_belief 147 = .ok (.iload_n 1, 1) := by decide +kernel
theorem dX6_belief_148 : decode cX6_belief 148 = .ok (.ishr, 1) := by decide +kernel
theorem dX6_belief_149 : decode cX6_belief 149 = .ok (.iconst 1, 1) := by decide +kernel
theorem dX6_belief_150 : decode cX6_belief 150 = .ok (.iand, 1) := by decide +kernel
theorem dX6_belief_151 : decode cX6_belief 151 = .ok (.iconst 1, 1) := by decide +kernel
theorem dX6_belief_152 : decode cX6_belief 152 = .ok (.if_icmp .ne 8, 3) := by decide +kernel
theorem dX6_belief_155 : decode cX6_belief 155 = .ok (.lload 8, 2) := by decide +kernel
theorem dX6_belief_157 : decode cX6_belief 157 = .ok (.goto 4, 3) := by decide +kernel
theorem dX6_belief_160 : decode cX6_belief 160 = .ok (.lconst 0, 1) := by decide +kernel
theorem dX6_belief_161 : decode cX6_belief 161 = .ok (.ladd, 1) := by decide +kernel
theorem dX6_belief_162 : decode cX6_belief 162 = .ok (.lstore_n 3, 1) := by decide +kernel
theorem dX6_belief_163 : decode cX6_belief 163 = .ok (.iinc 7 1, 3) := by decide +kernel
theorem dX6_belief_166 : decode cX6_belief 166 = .ok (.goto (-136), 3) := by decide +kernel
theorem dX6_belief_169 : decode cX6_belief 169 = .ok (.lload 5, 2) := by decide +kernel
theorem dX6_belief_171 : decode cX6_belief 171 = .ok (.lconst 0, 1) := by decide +kernel
theorem dX6_belief_172 : decode cX6_belief 172 = .ok (.lcmp, 1) := by decide +kernel
theorem dX6_belief_173 : decode cX6_belief 173 = .ok (.ifCond .ne 7, 3) := by decide +kernel
theorem dX6_belief_176 : decode cX6_belief 176 = .ok (.ldc2_w 210, 3) := by decide +kernel
theorem dX6_belief_179 : decode cX6_belief 179 = .ok (.lreturn, 1) := by decide +kernel
theorem dX6_belief_180 : decode cX6_belief 180 = .ok (.lload_n 3, 1) := by decide +kernel
theorem dX6_belief_181 : decode cX6_belief 181 = .ok (.lstore 7, 2) := by decide +kernel
theorem dX6_belief_183 : decode cX6_belief 183 = .ok (.lload 5, 2) := by decide +kernel
theorem dX6_belief_185 : decode cX6_belief 185 = .ok (.lstore 9, 2) := by decide +kernel
theorem dX6_belief_187 : decode cX6_belief 187 = .ok (.lload 9, 2) := by decide +kernel
theorem dX6_belief_189 : decode cX6_belief 189 = .ok (.lconst 0, 1) := by decide +kernel
theorem dX6_belief_190 : decode cX6_belief 190 = .ok (.lcmp, 1) := by decide +kernel
theorem dX6_belief_191 : decode cX6_belief 191 = .ok (.ifCond .eq 21, 3) := by decide +kernel
theorem dX6_belief_194 : decode cX6_belief 194 = .ok (.lload 7, 2) := by decide +kernel
theorem dX6_belief_196 : decode cX6_belief 196 = .ok (.lload 9, 2) := by decide +kernel
theorem dX6_belief_198 : decode cX6_belief 198 = .ok (.lrem, 1) := by decide +kernel
theorem dX6_belief_199 : decode cX6_belief 199 = .ok (.lstore 11, 2) := by decide +kernel
theorem dX6_belief_201 : decode cX6_belief 201 = .ok (.lload 9, 2) := by decide +kernel
theorem dX6_belief_203 : decode cX6_belief 203 = .ok (.lstore 7, 2) := by decide +kernel
theorem dX6_belief_205 : decode cX6_belief 205 = .ok (.lload 11, 2) := by decide +kernel
theorem dX6_belief_207 : decode cX6_belief 207 = .ok (.lstore 9, 2) := by decide +kernel
theorem dX6_belief_209 : decode cX6_belief 209 = .ok (.goto (-22), 3) := by decide +kernel
theorem dX6_belief_212 : decode cX6_belief 212 = .ok (.iload_n 2, 1) := by decide +kernel
theorem dX6_belief_213 : decode cX6_belief 213 = .ok (.ifCond .ne 10, 3) := by decide +kernel
theorem dX6_belief_216 : decode cX6_belief 216 = .ok (.lload_n 3, 1) := by decide +kernel
theorem dX6_belief_217 : decode cX6_belief 217 = .ok (.lload 7, 2) := by decide +kernel
theorem dX6_belief_219 : decode cX6_belief 219 = .ok (.ldiv, 1) := by decide +kernel
theorem dX6_belief_220 : decode cX6_belief 220 = .ok (.goto 8, 3) := by decide +kernel
theorem dX6_belief_223 : decode cX6_belief 223 = .ok (.lload 5, 2) := by decide +kernel
theorem dX6_belief_225 : decode cX6_belief 225 = .ok (.lload 7, 2) := by decide +kernel
theorem dX6_belief_227 : decode cX6_belief 227 = .ok (.ldiv, 1) := by decide +kernel
theorem dX6_belief_228 : decode cX6_belief 228 = .ok (.lreturn, 1) := by decide +kernel
theorem dX6_sayings_0 : decode cX6_sayings 0 = .ok (.iconst 0, 1) := by decide +kernel
theorem dX6_sayings_1 : decode cX6_sayings 1 = .ok (.istore_n 2, 1) := by decide +kernel
theorem dX6_sayings_2 : decode cX6_sayings 2 = .ok (.iconst 0, 1) := by decide +kernel
theorem dX6_sayings_3 : decode cX6_sayings 3 = .ok (.istore_n 3, 1) := by decide +kernel
theorem dX6_sayings_4 : decode cX6_sayings 4 = .ok (.iload_n 3, 1) := by decide +kernel
theorem dX6_sayings_5 : decode cX6_sayings 5 = .ok (.aload_n 0, 1) := by decide +kernel
theorem dX6_sayings_6 : decode cX6_sayings 6 = .ok (.getfield 13, 3) := by decide +kernel
theorem dX6_sayings_9 : decode cX6_sayings 9 = .ok (.iconst 0, 1) := by decide +kernel
theorem dX6_sayings_10 : decode cX6_sayings 10 = .ok (.iaload, 1) := by decide +kernel
theorem dX6_sayings_11 : decode cX6_sayings 11 = .ok (.if_icmp .ge 33, 3) := by decide +kernel
theorem dX6_sayings_14 : decode cX6_sayings 14 = .ok (.iload_n 2, 1) := by decide +kernel
theorem dX6_sayings_15 : decode cX6_sayings 15 = .ok (.iload_n 1, 1) := by decide +kernel
theorem dX6_sayings_16 : decode cX6_sayings 16 = .ok (.iload_n 3, 1) := by decide +kernel
theorem dX6_sayings_17 : decode cX6_sayings 17 = .ok (.ishr, 1) := by decide +kernel
theorem dX6_sayings_18 : decode cX6_sayings 18 = .ok (.iconst 1, 1) := by decide +kernel
theorem dX6_sayings_19 : decode cX6_sayings 19 = .ok (.iand, 1) := by decide +kernel
theorem dX6_sayings_20 : decode cX6_sayings 20 = .ok (.iconst 1, 1) := by decide +kernel
theorem dX6_sayings_21 : decode cX6_sayings 21 = .ok (.if_icmp .ne 14, 3) := by decide +kernel
theorem dX6_sayings_24 : decode cX6_sayings 24 = .ok (.iconst 1, 1) := by decide +kernel
theorem dX6_sayings_25 : decode cX6_sayings 25 = .ok (.aload_n 0, 1) := by decide +kernel
theorem dX6_sayings_26 : decode cX6_sayings 26 = .ok (.iconst 0, 1) := by decide +kernel
theorem dX6_sayings_27 : decode cX6_sayings 27 = .ok (.iload_n 3, 1) := by decide +kernel
theorem dX6_sayings_28 : decode cX6_sayings 28 = .ok (.invokevirtual 158, 3) := by decide +kernel
theorem dX6_sayings_31 : decode cX6_sayings 31 = .ok (.ishl, 1) := by decide +kernel
theorem dX6_sayings_32 : decode cX6_sayings 32 = .ok (.goto 4, 3) := by decide +kernel
theorem dX6_sayings_35 : decode cX6_sayings 35 = .ok (.iconst 0, 1) := by decide +kernel
theorem dX6_sayings_36 : decode cX6_sayings 36 = .ok (.ior, 1) := by decide +kernel
theorem dX6_sayings_37 : decode cX6_sayings 37 = .ok (.istore_n 2, 1) := by decide +kernel
theorem dX6_sayings_38 : decode cX6_sayings 38 = .ok (.iinc 3 1, 3) := by decide +kernel
theorem dX6_sayings_41 : decode cX6_sayings 41 = .ok (.goto (-37), 3) := by decide +kernel
theorem dX6_sayings_44 : decode cX6_sayings 44 = .ok (.iload_n 2, 1) := by decide +kernel
theorem dX6_sayings_45 : decode cX6_sayings 45 = .ok (.ireturn, 1) := by decide +kernel
theorem dX6_leastOf_0 : decode cX6_leastOf 0 = .ok (.bipush (-4), 2) := by decide +kernel
theorem dX6_leastOf_2 : decode cX6_leastOf 2 = .ok (.istore_n 2, 1) := by decide +kernel
theorem dX6_leastOf_3 : decode cX6_leastOf 3 = .ok (.iconst 0, 1) := by decide +kernel
theorem dX6_leastOf_4 : decode cX6_leastOf 4 = .ok (.istore_n 3, 1) := by decide +kernel
theorem dX6_leastOf_5 : decode cX6_leastOf 5 = .ok (.iload_n 3, 1) := by decide +kernel
theorem dX6_leastOf_6 : decode cX6_leastOf 6 = .ok (.iconst 1, 1) := by decide +kernel
theorem dX6_leastOf_7 : decode cX6_leastOf 7 = .ok (.aload_n 0, 1) := by decide +kernel
theorem dX6_leastOf_8 : decode cX6_leastOf 8 = .ok (.getfield 13, 3) := by decide +kernel
theorem dX6_leastOf_11 : decode cX6_leastOf 11 = .ok (.iconst 0, 1) := by decide +kernel
theorem dX6_leastOf_12 : decode cX6_leastOf 12 = .ok (.iaload, 1) := by decide +kernel
theorem dX6_leastOf_13 : decode cX6_leastOf 13 = .ok (.ishl, 1) := by decide +kernel
theorem dX6_leastOf_14 : decode cX6_leastOf 14 = .ok (.if_icmp .ge 55, 3) := by decide +kernel
theorem dX6_leastOf_17 : decode cX6_leastOf 17 = .ok (.iload_n 2, 1) := by decide +kernel
theorem dX6_leastOf_18 : decode cX6_leastOf 18 = .ok (.ifCond .lt 14, 3) := by decide +kernel
theorem dX6_leastOf_21 : decode cX6_leastOf 21 = .ok (.iload_n 3, 1) := by decide +kernel
theorem dX6_leastOf_22 : decode cX6_leastOf 22 = .ok (.invokestatic 149, 3) := by decide +kernel
theorem dX6_leastOf_25 : decode cX6_leastOf 25 = .ok (.iload_n 2, 1) := by decide +kernel
theorem dX6_leastOf_26 : decode cX6_leastOf 26 = .ok (.invokestatic 149, 3) := by decide +kernel
theorem dX6_leastOf_29 : decode cX6_leastOf 29 = .ok (.if_icmp .ge 34, 3) := by decide +kernel
theorem dX6_leastOf_32 : decode cX6_leastOf 32 = .ok (.aload_n 0, 1) := by decide +kernel
theorem dX6_leastOf_33 : decode cX6_leastOf 33 = .ok (.aload_n 0, 1) := by decide +kernel
theorem dX6_leastOf_34 : decode cX6_leastOf 34 = .ok (.iload_n 3, 1) := by decide +kernel
theorem dX6_leastOf_35 : decode cX6_leastOf 35 = .ok (.invokevirtual 212, 3) := by decide +kernel
theorem dX6_leastOf_38 : decode cX6_leastOf 38 = .ok (.invokevirtual 196, 3) := by decide +kernel
theorem dX6_leastOf_41 : decode cX6_leastOf 41 = .ok (.iload_n 1, 1) := by decide +kernel
theorem dX6_leastOf_42 : decode cX6_leastOf 42 = .ok (.aload_n 0, 1) := by decide +kernel
theorem dX6_leastOf_43 : decode cX6_leastOf 43 = .ok (.getfield 178, 3) := by decide +kernel
theorem dX6_leastOf_46 : decode cX6_leastOf 46 = .ok (.aload_n 0, 1) := by decide +kernel
theorem dX6_leastOf_47 : decode cX6_leastOf 47 = .ok (.getfield 181, 3) := by decide +kernel
theorem dX6_leastOf_50 : decode cX6_leastOf 50 = .ok (.ior, 1) := by decide +kernel
theorem dX6_leastOf_51 : decode cX6_leastOf 51 = .ok (.iconst (-1), 1) := by decide +kernel
theorem dX6_leastOf_52 : decode cX6_leastOf 52 = .ok (.ixor, 1) := by decide +kernel
theorem dX6_leastOf_53 : decode cX6_leastOf 53 = .ok (.iand, 1) := by decide +kernel
theorem dX6_leastOf_54 : decode cX6_leastOf 54 = .ok (.ifCond .ne 7, 3) := by decide +kernel
theorem dX6_leastOf_57 : decode cX6_leastOf 57 = .ok (.iload_n 3, 1) := by decide +kernel
theorem dX6_leastOf_58 : decode cX6_leastOf 58 = .ok (.goto 4, 3) := by decide +kernel
theorem dX6_leastOf_61 : decode cX6_leastOf 61 = .ok (.iload_n 2, 1) := by decide +kernel
theorem dX6_leastOf_62 : decode cX6_leastOf 62 = .ok (.istore_n 2, 1) := by decide +kernel
theorem dX6_leastOf_63 : decode cX6_leastOf 63 = .ok (.iinc 3 1, 3) := by decide +kernel
theorem dX6_leastOf_66 : decode cX6_leastOf 66 = .ok (.goto (-61), 3) := by decide +kernel
theorem dX6_leastOf_69 : decode cX6_leastOf 69 = .ok (.iload_n 2, 1) := by decide +kernel
theorem dX6_leastOf_70 : decode cX6_leastOf 70 = .ok (.ireturn, 1) := by decide +kernel
theorem dX6_least_0 : decode cX6_least 0 = .ok (.aload_n 0, 1) := by decide +kernel
theorem dX6_least_1 : decode cX6_least 1 = .ok (.iload_n 1, 1) := by decide +kernel
theorem dX6_least_2 : decode cX6_least 2 = .ok (.invokevirtual 143, 3) := by decide +kernel
theorem dX6_least_5 : decode cX6_least 5 = .ok (.ifCond .eq 11, 3) := by decide +kernel
theorem dX6_least_8 : decode cX6_least 8 = .ok (.aload_n 0, 1) := by decide +kernel
theorem dX6_least_9 : decode cX6_least 9 = .ok (.iload_n 1, 1) := by decide +kernel
theorem dX6_least_10 : decode cX6_least 10 = .ok (.invokevirtual 215, 3) := by decide +kernel
theorem dX6_least_13 : decode cX6_least 13 = .ok (.goto 4, 3) := by decide +kernel
theorem dX6_least_16 : decode cX6_least 16 = .ok (.iconst (-1), 1) := by decide +kernel
theorem dX6_least_17 : decode cX6_least 17 = .ok (.ireturn, 1) := by decide +kernel
theorem dX6_soonest_0 : decode cX6_soonest 0 = .ok (.aload_n 0, 1) := by decide +kernel
theorem dX6_soonest_1 : decode cX6_soonest 1 = .ok (.iload_n 1, 1) := by decide +kernel
theorem dX6_soonest_2 : decode cX6_soonest 2 = .ok (.invokevirtual 143, 3) := by decide +kernel
theorem dX6_soonest_5 : decode cX6_soonest 5 = .ok (.ifCond .ne 5, 3) := by decide +kernel
theorem dX6_soonest_8 : decode cX6_soonest 8 = .ok (.iconst (-1), 1) := by decide +kernel
theorem dX6_soonest_9 : decode cX6_soonest 9 = .ok (.ireturn, 1) := by decide +kernel
theorem dX6_soonest_10 : decode cX6_soonest 10 = .ok (.aload_n 0, 1) := by decide +kernel
theorem dX6_soonest_11 : decode cX6_soonest 11 = .ok (.iload_n 1, 1) := by decide +kernel
theorem dX6_soonest_12 : decode cX6_soonest 12 = .ok (.invokevirtual 215, 3) := by decide +kernel
theorem dX6_soonest_15 : decode cX6_soonest 15 = .ok (.invokestatic 149, 3) := by decide +kernel
theorem dX6_soonest_18 : decode cX6_soonest 18 = .ok (.istore_n 2, 1) := by decide +kernel
theorem dX6_soonest_19 : decode cX6_soonest 19 = .ok (.iconst 0, 1) := by decide +kernel
theorem dX6_soonest_20 : decode cX6_soonest 20 = .ok (.istore_n 3, 1) := by decide +kernel
theorem dX6_soonest_21 : decode cX6_soonest 21 = .ok (.iconst 1, 1) := by decide +kernel
theorem dX6_soonest_22 : decode cX6_soonest 22 = .ok (.istore 4, 2) := by decide +kernel
theorem dX6_soonest_24 : decode cX6_soonest 24 = .ok (.iload 4, 2) := by decide +kernel
theorem dX6_soonest_26 : decode cX6_soonest 26 = .ok (.bipush 10, 2) := by decide +kernel
theorem dX6_soonest_28 : decode cX6_soonest 28 = .ok (.if_icmp .ge 80, 3) := by decide +kernel
theorem dX6_soonest_31 : decode cX6_soonest 31 = .ok (.iconst 0, 1) := by decide +kernel
theorem dX6_soonest_32 : decode cX6_soonest 32 = .ok (.istore 5, 2) := by decide +kernel
theorem dX6_soonest_34 : decode cX6_soonest 34 = .ok (.iload 5, 2) := by decide +kernel
theorem dX6_soonest_36 : decode cX6_soonest 36 = .ok (.aload_n 0, 1) := by decide +kernel
theorem dX6_soonest_37 : decode cX6_soonest 37 = .ok (.getfield 13, 3) := by decide +kernel
theorem dX6_soonest_40 : decode cX6_soonest 40 = .ok (.iconst 3, 1) := by decide +kernel
theorem dX6_soonest_41 : decode cX6_soonest 41 = .ok (.iaload, 1) := by decide +kernel
theorem dX6_soonest_42 : decode cX6_soonest 42 = .ok (.if_icmp .ge 60, 3) := by decide +kernel
theorem dX6_soonest_45 : decode cX6_soonest 45 = .ok (.aload_n 0, 1) := by decide +kernel
theorem dX6_soonest_46 : decode cX6_soonest 46 = .ok (.iload 5, 2) := by decide +kernel
theorem dX6_soonest_48 : decode cX6_soonest 48 = .ok (.invokevirtual 155, 3) := by decide +kernel
theorem dX6_soonest_51 : decode cX6_soonest 51 = .ok (.iload 4, 2) := by decide +kernel
theorem dX6_soonest_53 : decode cX6_soonest 53 = .ok (.if_icmp .ne 13, 3) := by decide +kernel
theorem dX6_soonest_56 : decode cX6_soonest 56 = .ok (.aload_n 0, 1) := by decide +kernel
theorem dX6_soonest_57 : decode cX6_soonest 57 = .ok (.iconst 0, 1) := by decide +kernel
theorem dX6_soonest_58 : decode cX6_soonest 58 = .ok (.iload 5, 2) := by decide +kernel
theorem dX6_soonest_60 : decode cX6_soonest 60 = .ok (.invokevirtual 127, 3) := by decide +kernel
theorem dX6_soonest_63 : decode cX6_soonest 63 = .ok (.goto 4, 3) := by decide +kernel
theorem dX6_soonest_66 : decode cX6_soonest 66 = .ok (.iconst 0, 1) := by decide +kernel
theorem dX6_soonest_67 : decode cX6_soonest 67 = .ok (.istore 6, 2) := by decide +kernel
theorem dX6_soonest_69 : decode cX6_soonest 69 = .ok (.iload 6, 2) := by decide +kernel
theorem dX6_soonest_71 : decode cX6_soonest 71 = .ok (.iload_n 2, 1) := by decide +kernel
theorem dX6_soonest_72 : decode cX6_soonest 72 = .ok (.if_icmp .ge 8, 3) := by decide +kernel
theorem dX6_soonest_75 : decode cX6_soonest 75 = .ok (.iload 6, 2) := by decide +kernel
theorem dX6_soonest_77 : decode cX6_soonest 77 = .ok (.goto 4, 3) := by decide +kernel
theorem dX6_soonest_80 : decode cX6_soonest 80 = .ok (.iload_n 2, 1) := by decide +kernel
theorem dX6_soonest_81 : decode cX6_soonest 81 = .ok (.istore 6, 2) := by decide +kernel
theorem dX6_soonest_83 : decode cX6_soonest 83 = .ok (.iload_n 3, 1) := by decide +kernel
theorem dX6_soonest_84 : decode cX6_soonest 84 = .ok (.iload 6, 2) := by decide +kernel
theorem dX6_soonest_86 : decode cX6_soonest 86 = .ok (.iload 4, 2) := by decide +kernel
theorem dX6_soonest_88 : decode cX6_soonest 88 = .ok (.imul, 1) := by decide +kernel
theorem dX6_soonest_89 : decode cX6_soonest 89 = .ok (.iadd, 1) := by decide +kernel
theorem dX6_soonest_90 : decode cX6_soonest 90 = .ok (.istore_n 3, 1) := by decide +kernel
theorem dX6_soonest_91 : decode cX6_soonest 91 = .ok (.iload_n 2, 1) := by decide +kernel
theorem dX6_soonest_92 : decode cX6_soonest 92 = .ok (.iload 6, 2) := by decide +kernel
theorem dX6_soonest_94 : decode cX6_soonest 94 = .ok (.isub, 1) := by decide +kernel
theorem dX6_soonest_95 : decode cX6_soonest 95 = .ok (.istore_n 2, 1) := by decide +kernel
theorem dX6_soonest_96 : decode cX6_soonest 96 = .ok (.iinc 5 1, 3) := by decide +kernel
theorem dX6_soonest_99 : decode cX6_soonest 99 = .ok (.goto (-65), 3) := by decide +kernel
theorem dX6_soonest_102 : decode cX6_soonest 102 = .ok (.iinc 4 1, 3) := by decide +kernel
theorem dX6_soonest_105 : decode cX6_soonest 105 = .ok (.goto (-81), 3) := by decide +kernel
theorem dX6_soonest_108 : decode cX6_soonest 108 = .ok (.iload_n 2, 1) := by decide +kernel
theorem dX6_soonest_109 : decode cX6_soonest 109 = .ok (.ifCond .ne 7, 3) := by decide +kernel
theorem dX6_soonest_112 : decode cX6_soonest 112 = .ok (.iload_n 3, 1) := by decide +kernel
theorem dX6_soonest_113 : decode cX6_soonest 113 = .ok (.goto 5, 3) := by decide +kernel
theorem dX6_soonest_116 : decode cX6_soonest 116 = .ok (.bipush (-4), 2) := by decide +kernel
theorem dX6_soonest_118 : decode cX6_soonest 118 = .ok (.ireturn, 1) := by decide +kernel
theorem dX6_lieOf_0 : decode cX6_lieOf 0 = .ok (.aload_n 0, 1) := by decide +kernel
theorem dX6_lieOf_1 : decode cX6_lieOf 1 = .ok (.iconst 0, 1) := by decide +kernel
theorem dX6_lieOf_2 : decode cX6_lieOf 2 = .ok (.iload_n 2, 1) := by decide +kernel
theorem dX6_lieOf_3 : decode cX6_lieOf 3 = .ok (.iconst (-1), 1) := by decide +kernel
theorem dX6_lieOf_4 : decode cX6_lieOf 4 = .ok (.invokevirtual 192, 3) := by decide +kernel
theorem dX6_lieOf_7 : decode cX6_lieOf 7 = .ok (.istore_n 3, 1) := by decide +kernel
theorem dX6_lieOf_8 : decode cX6_lieOf 8 = .ok (.aload_n 0, 1) := by decide +kernel
theorem dX6_lieOf_9 : decode cX6_lieOf 9 = .ok (.iload_n 3, 1) := by decide +kernel
theorem dX6_lieOf_10 : decode cX6_lieOf 10 = .ok (.invokevirtual 196, 3) := by decide +kernel
theorem dX6_lieOf_13 : decode cX6_lieOf 13 = .ok (.aload_n 0, 1) := by decide +kernel
theorem dX6_lieOf_14 : decode cX6_lieOf 14 = .ok (.aload_n 0, 1) := by decide +kernel
theorem dX6_lieOf_15 : decode cX6_lieOf 15 = .ok (.iconst 0, 1) := by decide +kernel
theorem dX6_lieOf_16 : decode cX6_lieOf 16 = .ok (.invokevirtual 202, 3) := by decide +kernel
theorem dX6_lieOf_19 : decode cX6_lieOf 19 = .ok (.putfield 218, 3) := by decide +kernel
theorem dX6_lieOf_22 : decode cX6_lieOf 22 = .ok (.bipush (-4), 2) := by decide +kernel
theorem dX6_lieOf_24 : decode cX6_lieOf 24 = .ok (.istore 4, 2) := by decide +kernel
theorem dX6_lieOf_26 : decode cX6_lieOf 26 = .ok (.iconst 0, 1) := by decide +kernel
theorem dX6_lieOf_27 : decode cX6_lieOf 27 = .ok (.istore 5, 2) := by decide +kernel
theorem dX6_lieOf_29 : decode cX6_lieOf 29 = .ok (.iload 5, 2) := by decide +kernel
theorem dX6_lieOf_31 : decode cX6_lieOf 31 = .ok (.iconst 2, 1) := by decide +kernel
theorem dX6_lieOf_32 : decode cX6_lieOf 32 = .ok (.aload_n 0, 1) := by decide +kernel
theorem dX6_lieOf_33 : decode cX6_lieOf 33 = .ok (.getfield 13, 3) := by decide +kernel
theorem dX6_lieOf_36 : decode cX6_lieOf 36 = .ok (.iconst 0, 1) := by decide +kernel
theorem dX6_lieOf_37 : decode cX6_lieOf 37 = .ok (.iaload, 1) := by decide +kernel
theorem dX6_lieOf_38 : decode cX6_lieOf 38 = .ok (.imul, 1) := by decide +kernel
theorem dX6_lieOf_39 : decode cX6_lieOf 39 = .ok (.if_icmp .ge 99, 3) := by decide +kernel
theorem dX6_lieOf_42 : decode cX6_lieOf 42 = .ok (.iload 5, 2) := by decide +kernel
theorem dX6_lieOf_44 : decode cX6_lieOf 44 = .ok (.aload_n 0, 1) := by decide +kernel
theorem dX6_lieOf_45 : decode cX6_lieOf 45 = .ok (.getfield 33, 3) := by decide +kernel
theorem dX6_lieOf_48 : decode cX6_lieOf 48 = .ok (.iconst 0, 1) := by decide +kernel
theorem dX6_lieOf_49 : decode cX6_lieOf 49 = .ok (.iaload, 1) := by decide +kernel
theorem dX6_lieOf_50 : decode cX6_lieOf 50 = .ok (.invokestatic 91, 3) := by decide +kernel
theorem dX6_lieOf_53 : decode cX6_lieOf 53 = .ok (.ifCond .ne 79, 3) := by decide +kernel
theorem dX6_lieOf_56 : decode cX6_lieOf 56 = .ok (.aload_n 0, 1) := by decide +kernel
theorem dX6_lieOf_57 : decode cX6_lieOf 57 = .ok (.aload_n 0, 1) := by decide +kernel
theorem dX6_lieOf_58 : decode cX6_lieOf 58 = .ok (.iconst 0, 1) := by decide +kernel
theorem dX6_lieOf_59 : decode cX6_lieOf 59 = .ok (.iload 5, 2) := by decide +kernel
theorem dX6_lieOf_61 : decode cX6_lieOf 61 = .ok (.iconst (-1), 1) := by decide +kernel
theorem dX6_lieOf_62 : decode cX6_lieOf 62 = .ok (.iload_n 1, 1) := by decide +kernel
theorem dX6_lieOf_63 : decode cX6_lieOf 63 = .ok (.invokevirtual 171, 3) := by decide +kernel
theorem dX6_lieOf_66 : decode cX6_lieOf 66 = .ok (.iload_n 2, 1) := by decide +kernel
theorem dX6_lieOf_67 : decode cX6_lieOf 67 = .ok (.if_icmp .lt 12, 3) := by decide +kernel
theorem dX6_lieOf_70 : decode cX6_lieOf 70 = .ok (.iload_n 3, 1) := by decide +kernel
theorem dX6_lieOf_71 : decode cX6_lieOf 71 = .ok (.iconst 1, 1) := by decide +kernel
theorem dX6_lieOf_72 : decode cX6_lieOf 72 = .ok (.iload 5, 2) := by decide +kernel
theorem dX6_lieOf_74 : decode cX6_lieOf 74 = .ok (.ishl, 1) := by decide +kernel
theorem dX6_lieOf_75 : decode cX6_lieOf 75 = .ok (.ior, 1) := by decide +kernel
theorem dX6_lieOf_76 : decode cX6_lieOf 76 = .ok (.goto 4, 3) := by decide +kernel
theorem dX6_lieOf_79 : decode cX6_lieOf 79 = .ok (.iload_n 3, 1) := by decide +kernel
theorem dX6_lieOf_80 : decode cX6_lieOf 80 = .ok (.invokevirtual 196, 3) := by decide +kernel
theorem dX6_lieOf_83 : decode cX6_lieOf 83 = .ok (.aload_n 0, 1) := by decide +kernel
theorem dX6_lieOf_84 : decode cX6_lieOf 84 = .ok (.iconst 0, 1) := by decide +kernel
theorem dX6_lieOf_85 : decode cX6_lieOf 85 = .ok (.invokevirtual 202, 3) := by decide +kernel
theorem dX6_lieOf_88 : decode cX6_lieOf 88 = .ok (.aload_n 0, 1) := by decide +kernel
theorem dX6_lieOf_89 : decode cX6_lieOf 89 = .ok (.getfield 218, 3) := by decide +kernel
theorem dX6_lieOf_92 : decode cX6_lieOf 92 = .ok (.if_icmp .le 8, 3) := by decide +kernel
theorem dX6_lieOf_95 : decode cX6_lieOf 95 = .ok (.iload 5, 2) := by decide +kernel
theorem dX6_lieOf_97 : decode cX6_lieOf 97 = .ok (.goto 5, 3) := by decide +kernel
theorem dX6_lieOf_100 : decode cX6_lieOf 100 = .ok (.iload 4, 2) := by decide +kernel
theorem dX6_lieOf_102 : decode cX6_lieOf 102 = .ok (.istore 4, 2) := by decide +kernel
theorem dX6_lieOf_104 : decode cX6_lieOf 104 = .ok (.aload_n 0, 1) := by decide +kernel
theorem dX6_lieOf_105 : decode cX6_lieOf 105 = .ok (.aload_n 0, 1) := by decide +kernel
theorem dX6_lieOf_106 : decode cX6_lieOf 106 = .ok (.iconst 0, 1) := by decide +kernel
theorem dX6_lieOf_107 : decode cX6_lieOf 107 = .ok (.invokevirtual 202, 3) := by decide +kernel
theorem dX6_lieOf_110 : decode cX6_lieOf 110 = .ok (.aload_n 0, 1) := by decide +kernel
theorem dX6_lieOf_111 : decode cX6_lieOf 111 = .ok (.getfield 218, 3) := by decide +kernel
theorem dX6_lieOf_114 : decode cX6_lieOf 114 = .ok (.if_icmp .le 11, 3) := by decide +kernel
theorem dX6_lieOf_117 : decode cX6_lieOf 117 = .ok (.aload_n 0, 1) := by decide +kernel
theorem dX6_lieOf_118 : decode cX6_lieOf 118 = .ok (.iconst 0, 1) := by decide +kernel
theorem dX6_lieOf_119 : decode cX6_lieOf 119 = .ok (.invokevirtual 202, 3) := by decide +kernel
theorem dX6_lieOf_122 : decode cX6_lieOf 122 = .ok (.goto 7, 3) := by decide +kernel
theorem dX6_lieOf_125 : decode cX6_lieOf 125 = .ok (.aload_n 0, 1) := by decide +kernel
theorem dX6_lieOf_126 : decode cX6_lieOf 126 = .ok (.getfield 218, 3) := by decide +kernel
theorem dX6_lieOf_129 : decode cX6_lieOf 129 = .ok (.putfield 218, 3) := by decide +kernel
theorem dX6_lieOf_132 : decode cX6_lieOf 132 = .ok (.iinc 5 1, 3) := by decide +kernel
theorem dX6_lieOf_135 : decode cX6_lieOf 135 = .ok (.goto (-106), 3) := by decide +kernel
theorem dX6_lieOf_138 : decode cX6_lieOf 138 = .ok (.iload 4, 2) := by decide +kernel
theorem dX6_lieOf_140 : decode cX6_lieOf 140 = .ok (.ireturn, 1) := by decide +kernel
theorem dX6_lie_0 : decode cX6_lie 0 = .ok (.aload_n 0, 1) := by decide +kernel
theorem dX6_lie_1 : decode cX6_lie 1 = .ok (.iload_n 1, 1) := by decide +kernel
theorem dX6_lie_2 : decode cX6_lie 2 = .ok (.invokevirtual 119, 3) := by decide +kernel
theorem dX6_lie_5 : decode cX6_lie 5 = .ok (.ifCond .eq 20, 3) := by decide +kernel
theorem dX6_lie_8 : decode cX6_lie 8 = .ok (.iload_n 2, 1) := by decide +kernel
theorem dX6_lie_9 : decode cX6_lie 9 = .ok (.invokestatic 187, 3) := by decide +kernel
theorem dX6_lie_12 : decode cX6_lie 12 = .ok (.ifCond .eq 13, 3) := by decide +kernel
theorem dX6_lie_15 : decode cX6_lie 15 = .ok (.iload_n 3, 1) := by decide +kernel
theorem dX6_lie_16 : decode cX6_lie 16 = .ok (.i2l, 1) := by decide +kernel
theorem dX6_lie_17 : decode cX6_lie 17 = .ok (.lconst 0, 1) := by decide +kernel
theorem dX6_lie_18 : decode cX6_lie 18 = .ok (.lconst 1, 1) := by decide +kernel
theorem dX6_lie_19 : decode cX6_lie 19 = .ok (.invokestatic 52, 3) := by decide +kernel
theorem dX6_lie_22 : decode cX6_lie 22 = .ok (.ifCond .ne 5, 3) := by decide +kernel
theorem dX6_lie_25 : decode cX6_lie 25 = .ok (.iconst (-1), 1) := by decide +kernel
theorem dX6_lie_26 : decode cX6_lie 26 = .ok (.ireturn, 1) := by decide +kernel
theorem dX6_lie_27 : decode cX6_lie 27 = .ok (.aload_n 0, 1) := by decide +kernel
theorem dX6_lie_28 : decode cX6_lie 28 = .ok (.iload_n 1, 1) := by decide +kernel
theorem dX6_lie_29 : decode cX6_lie 29 = .ok (.iload_n 2, 1) := by decide +kernel
theorem dX6_lie_30 : decode cX6_lie 30 = .ok (.invokevirtual 221, 3) := by decide +kernel
theorem dX6_lie_33 : decode cX6_lie 33 = .ok (.istore 4, 2) := by decide +kernel
theorem dX6_lie_35 : decode cX6_lie 35 = .ok (.iload 4, 2) := by decide +kernel
theorem dX6_lie_37 : decode cX6_lie 37 = .ok (.ifCond .lt 7, 3) := by decide +kernel
theorem dX6_lie_40 : decode cX6_lie 40 = .ok (.iload_n 3, 1) := by decide +kernel
theorem dX6_lie_41 : decode cX6_lie 41 = .ok (.ifCond .ne 8, 3) := by decide +kernel
theorem dX6_lie_44 : decode cX6_lie 44 = .ok (.iload 4, 2) := by decide +kernel
theorem dX6_lie_46 : decode cX6_lie 46 = .ok (.goto 7, 3) := by decide +kernel
theorem dX6_lie_49 : decode cX6_lie 49 = .ok (.aload_n 0, 1) := by decide +kernel
theorem dX6_lie_50 : decode cX6_lie 50 = .ok (.getfield 218, 3) := by decide +kernel
theorem dX6_lie_53 : decode cX6_lie 53 = .ok (.ireturn, 1) := by decide +kernel
theorem dX6_safe_0 : decode cX6_safe 0 = .ok (.iload_n 1, 1) := by decide +kernel
theorem dX6_safe_1 : decode cX6_safe 1 = .ok (.invokestatic 187, 3) := by decide +kernel
theorem dX6_safe_4 : decode cX6_safe 4 = .ok (.ifCond .ne 5, 3) := by decide +kernel
theorem dX6_safe_7 : decode cX6_safe 7 = .ok (.iconst (-1), 1) := by decide +kernel
theorem dX6_safe_8 : decode cX6_safe 8 = .ok (.ireturn, 1) := by decide +kernel
theorem dX6_safe_9 : decode cX6_safe 9 = .ok (.iconst 1, 1) := by decide +kernel
theorem dX6_safe_10 : decode cX6_safe 10 = .ok (.istore_n 2, 1) := by decide +kernel
theorem dX6_safe_11 : decode cX6_safe 11 = .ok (.iconst 0, 1) := by decide +kernel
theorem dX6_safe_12 : decode cX6_safe 12 = .ok (.istore_n 3, 1) := by decide +kernel
theorem dX6_safe_13 : decode cX6_safe 13 = .ok (.iload_n 3, 1) := by decide +kernel
theorem dX6_safe_14 : decode cX6_safe 14 = .ok (.aload_n 0, 1) := by decide +kernel
theorem dX6_safe_15 : decode cX6_safe 15 = .ok (.getfield 13, 3) := by decide +kernel
theorem dX6_safe_18 : decode cX6_safe 18 = .ok (.iconst 2, 1) := by decide +kernel
theorem dX6_safe_19 : decode cX6_safe 19 = .ok (.iaload, 1) := by decide +kernel
theorem dX6_safe_20 : decode cX6_safe 20 = .ok (.if_icmp .ge 28, 3) := by decide +kernel
theorem dX6_safe_23 : decode cX6_safe 23 = .ok (.iload_n 2, 1) := by decide +kernel
theorem dX6_safe_24 : decode cX6_safe 24 = .ok (.ifCond .eq 16, 3) := by decide +kernel
theorem dX6_safe_27 : decode cX6_safe 27 = .ok (.aload_n 0, 1) := by decide +kernel
theorem dX6_safe_28 : decode cX6_safe 28 = .ok (.iload_n 3, 1) := by decide +kernel
theorem dX6_safe_29 : decode cX6_safe 29 = .ok (.iload_n 1, 1) := by decide +kernel
theorem dX6_safe_30 : decode cX6_safe 30 = .ok (.invokevirtual 221, 3) := by decide +kernel
theorem dX6_safe_33 : decode cX6_safe 33 = .ok (.ifCond .ge 7, 3) := by decide +kernel
theorem dX6_safe_36 : decode cX6_safe 36 = .ok (.iconst 1, 1) := by decide +kernel
theorem dX6_safe_37 : decode cX6_safe 37 = .ok (.goto 4, 3) := by decide +kernel
theorem dX6_safe_40 : decode cX6_safe 40 = .ok (.iconst 0, 1) := by decide +kernel
theorem dX6_safe_41 : decode cX6_safe 41 = .ok (.istore_n 2, 1) := by decide +kernel
theorem dX6_safe_42 : decode cX6_safe 42 = .ok (.iinc 3 1, 3) := by decide +kernel
theorem dX6_safe_45 : decode cX6_safe 45 = .ok (.goto (-32), 3) := by decide +kernel
theorem dX6_safe_48 : decode cX6_safe 48 = .ok (.iload_n 2, 1) := by decide +kernel
theorem dX6_safe_49 : decode cX6_safe 49 = .ok (.ifCond .eq 7, 3) := by decide +kernel
theorem dX6_safe_52 : decode cX6_safe 52 = .ok (.iconst 1, 1) := by decide +kernel
theorem dX6_safe_53 : decode cX6_safe 53 = .ok (.goto 4, 3) := by decide +kernel
theorem dX6_safe_56 : decode cX6_safe 56 = .ok (.iconst 0, 1) := by decide +kernel
theorem dX6_safe_57 : decode cX6_safe 57 = .ok (.ireturn, 1) := by decide +kernel
theorem dX6_says_0 : decode cX6_says 0 = .ok (.iconst 0, 1) := by decide +kernel
theorem dX6_says_1 : decode cX6_says 1 = .ok (.istore_n 2, 1) := by decide +kernel
theorem dX6_says_2 : decode cX6_says 2 = .ok (.iconst 0, 1) := by decide +kernel
theorem dX6_says_3 : decode cX6_says 3 = .ok (.istore_n 3, 1) := by decide +kernel
theorem dX6_says_4 : decode cX6_says 4 = .ok (.iload_n 3, 1) := by decide +kernel
theorem dX6_says_5 : decode cX6_says 5 = .ok (.aload_n 0, 1) := by decide +kernel
theorem dX6_says_6 : decode cX6_says 6 = .ok (.getfield 33, 3) := by decide +kernel
theorem dX6_says_9 : decode cX6_says 9 = .ok (.iconst 2, 1) := by decide +kernel
theorem dX6_says_10 : decode cX6_says 10 = .ok (.iaload, 1) := by decide +kernel
theorem dX6_says_11 : decode cX6_says 11 = .ok (.if_icmp .ge 38, 3) := by decide +kernel
theorem dX6_says_14 : decode cX6_says 14 = .ok (.iload_n 2, 1) := by decide +kernel
theorem dX6_says_15 : decode cX6_says 15 = .ok (.iload_n 1, 1) := by decide +kernel
theorem dX6_says_16 : decode cX6_says 16 = .ok (.iload_n 3, 1) := by decide +kernel
theorem dX6_says_17 : decode cX6_says 17 = .ok (.ishr, 1) := by decide +kernel
theorem dX6_says_18 : decode cX6_says 18 = .ok (.iconst 1, 1) := by decide +kernel
theorem dX6_says_19 : decode cX6_says 19 = .ok (.iand, 1) := by decide +kernel
theorem dX6_says_20 : decode cX6_says 20 = .ok (.iconst 1, 1) := by decide +kernel
theorem dX6_says_21 : decode cX6_says 21 = .ok (.if_icmp .ne 19, 3) := by decide +kernel
theorem dX6_says_24 : decode cX6_says 24 = .ok (.iconst 1, 1) := by decide +kernel
theorem dX6_says_25 : decode cX6_says 25 = .ok (.aload_n 0, 1) := by decide +kernel
theorem dX6_says_26 : decode cX6_says 26 = .ok (.getfield 33, 3) := by decide +kernel
theorem dX6_says_29 : decode cX6_says 29 = .ok (.bipush 8, 2) := by decide +kernel
theorem dX6_says_31 : decode cX6_says 31 = .ok (.iconst 4, 1) := by decide +kernel
theorem dX6_says_32 : decode cX6_says 32 = .ok (.iload_n 3, 1) := by decide +kernel
theorem dX6_says_33 : decode cX6_says 33 = .ok (.imul, 1) := by decide +kernel
theorem dX6_says_34 : decode cX6_says 34 = .ok (.iadd, 1) := by decide +kernel
theorem dX6_says_35 : decode cX6_says 35 = .ok (.iaload, 1) := by decide +kernel
theorem dX6_says_36 : decode cX6_says 36 = .ok (.ishl, 1) := by decide +kernel
theorem dX6_says_37 : decode cX6_says 37 = .ok (.goto 4, 3) := by decide +kernel
theorem dX6_says_40 : decode cX6_says 40 = .ok (.iconst 0, 1) := by decide +kernel
theorem dX6_says_41 : decode cX6_says 41 = .ok (.ior, 1) := by decide +kernel
theorem dX6_says_42 : decode cX6_says 42 = .ok (.istore_n 2, 1) := by decide +kernel
theorem dX6_says_43 : decode cX6_says 43 = .ok (.iinc 3 1, 3) := by decide +kernel
theorem dX6_says_46 : decode cX6_says 46 = .ok (.goto (-42), 3) := by decide +kernel
theorem dX6_says_49 : decode cX6_says 49 = .ok (.iload_n 2, 1) := by decide +kernel
theorem dX6_says_50 : decode cX6_says 50 = .ok (.ireturn, 1) := by decide +kernel
theorem dX6_clash_0 : decode cX6_clash 0 = .ok (.bipush (-4), 2) := by decide +kernel
theorem dX6_clash_2 : decode cX6_clash 2 = .ok (.istore_n 1, 1) := by decide +kernel
theorem dX6_clash_3 : decode cX6_clash 3 = .ok (.iconst 0, 1) := by decide +kernel
theorem dX6_clash_4 : decode cX6_clash 4 = .ok (.istore_n 2, 1) := by decide +kernel
theorem dX6_clash_5 : decode cX6_clash 5 = .ok (.iload_n 2, 1) := by decide +kernel
theorem dX6_clash_6 : decode cX6_clash 6 = .ok (.iconst 1, 1) := by decide +kernel
theorem dX6_clash_7 : decode cX6_clash 7 = .ok (.aload_n 0, 1) := by decide +kernel
theorem dX6_clash_8 : decode cX6_clash 8 = .ok (.getfield 33, 3) := by decide +kernel
theorem dX6_clash_11 : decode cX6_clash 11 = .ok (.iconst 2, 1) := by decide +kernel
theorem dX6_clash_12 : decode cX6_clash 12 = .ok (.iaload, 1) := by decide +kernel
theorem dX6_clash_13 : decode cX6_clash 13 = .ok (.ishl, 1) := by decide +kernel
theorem dX6_clash_14 : decode cX6_clash 14 = .ok (.if_icmp .ge 46, 3) := by decide +kernel
theorem dX6_clash_17 : decode cX6_clash 17 = .ok (.iload_n 1, 1) := by decide +kernel
theorem dX6_clash_18 : decode cX6_clash 18 = .ok (.ifCond .lt 14, 3) := by decide +kernel
theorem dX6_clash_21 : decode cX6_clash 21 = .ok (.iload_n 2, 1) := by decide +kernel
theorem dX6_clash_22 : decode cX6_clash 22 = .ok (.invokestatic 149, 3) := by decide +kernel
theorem dX6_clash_25 : decode cX6_clash 25 = .ok (.iload_n 1, 1) := by decide +kernel
theorem dX6_clash_26 : decode cX6_clash 26 = .ok (.invokestatic 149, 3) := by decide +kernel
theorem dX6_clash_29 : decode cX6_clash 29 = .ok (.if_icmp .ge 25, 3) := by decide +kernel
theorem dX6_clash_32 : decode cX6_clash 32 = .ok (.aload_n 0, 1) := by decide +kernel
theorem dX6_clash_33 : decode cX6_clash 33 = .ok (.aload_n 0, 1) := by decide +kernel
theorem dX6_clash_34 : decode cX6_clash 34 = .ok (.iload_n 2, 1) := by decide +kernel
theorem dX6_clash_35 : decode cX6_clash 35 = .ok (.invokevirtual 224, 3) := by decide +kernel
theorem dX6_clash_38 : decode cX6_clash 38 = .ok (.invokevirtual 196, 3) := by decide +kernel
theorem dX6_clash_41 : decode cX6_clash 41 = .ok (.aload_n 0, 1) := by decide +kernel
theorem dX6_clash_42 : decode cX6_clash 42 = .ok (.getfield 174, 3) := by decide +kernel
theorem dX6_clash_45 : decode cX6_clash 45 = .ok (.ifCond .eq 7, 3) := by decide +kernel
theorem dX6_clash_48 : decode cX6_clash 48 = .ok (.iload_n 1, 1) := by decide +kernel
theorem dX6_clash_49 : decode cX6_clash 49 = .ok (.goto 4, 3) := by decide +kernel
theorem dX6_clash_52 : decode cX6_clash 52 = .ok (.iload_n 2, 1) := by decide +kernel
theorem dX6_clash_53 : decode cX6_clash 53 = .ok (.istore_n 1, 1) := by decide +kernel
theorem dX6_clash_54 : decode cX6_clash 54 = .ok (.iinc 2 1, 3) := by decide +kernel
theorem dX6_clash_57 : decode cX6_clash 57 = .ok (.goto (-52), 3) := by decide +kernel
theorem dX6_clash_60 : decode cX6_clash 60 = .ok (.iload_n 1, 1) := by decide +kernel
theorem dX6_clash_61 : decode cX6_clash 61 = .ok (.ireturn, 1) := by decide +kernel
theorem dX6_stand_0 : decode cX6_stand 0 = .ok (.iload_n 1, 1) := by decide +kernel
theorem dX6_stand_1 : decode cX6_stand 1 = .ok (.i2l, 1) := by decide +kernel
theorem dX6_stand_2 : decode cX6_stand 2 = .ok (.lconst 0, 1) := by decide +kernel
theorem dX6_stand_3 : decode cX6_stand 3 = .ok (.lconst 1, 1) := by decide +kernel
theorem dX6_stand_4 : decode cX6_stand 4 = .ok (.invokestatic 52, 3) := by decide +kernel
theorem dX6_stand_7 : decode cX6_stand 7 = .ok (.ifCond .ne 5, 3) := by decide +kernel
theorem dX6_stand_10 : decode cX6_stand 10 = .ok (.iconst (-1), 1) := by decide +kernel
theorem dX6_stand_11 : decode cX6_stand 11 = .ok (.ireturn, 1) := by decide +kernel
theorem dX6_stand_12 : decode cX6_stand 12 = .ok (.iconst 0, 1) := by decide +kernel
theorem dX6_stand_13 : decode cX6_stand 13 = .ok (.istore_n 2, 1) := by decide +kernel
theorem dX6_stand_14 : decode cX6_stand 14 = .ok (.iconst 0, 1) := by decide +kernel
theorem dX6_stand_15 : decode cX6_stand 15 = .ok (.istore_n 3, 1) := by decide +kernel
theorem dX6_stand_16 : decode cX6_stand 16 = .ok (.iconst 0, 1) := by decide +kernel
theorem dX6_stand_17 : decode cX6_stand 17 = .ok (.istore 4, 2) := by decide +kernel
theorem dX6_stand_19 : decode cX6_stand 19 = .ok (.iload 4, 2) := by decide +kernel
theorem dX6_stand_21 : decode cX6_stand 21 = .ok (.iconst 1, 1) := by decide +kernel
theorem dX6_stand_22 : decode cX6_stand 22 = .ok (.aload_n 0, 1) := by decide +kernel
theorem dX6_stand_23 : decode cX6_stand 23 = .ok (.getfield 33, 3) := by decide +kernel
theorem dX6_stand_26 : decode cX6_stand 26 = .ok (.iconst 2, 1) := by decide +kernel
theorem dX6_stand_27 : decode cX6_stand 27 = .ok (.iaload, 1) := by decide +kernel
theorem dX6_stand_28 : decode cX6_stand 28 = .ok (.ishl, 1) := by decide +kernel
theorem dX6_stand_29 : decode cX6_stand 29 = .ok (.if_icmp .ge 71, 3) := by decide +kernel
theorem dX6_stand_32 : decode cX6_stand 32 = .ok (.iload 4, 2) := by decide +kernel
theorem dX6_stand_34 : decode cX6_stand 34 = .ok (.invokestatic 149, 3) := by decide +kernel
theorem dX6_stand_37 : decode cX6_stand 37 = .ok (.istore 5, 2) := by decide +kernel
theorem dX6_stand_39 : decode cX6_stand 39 = .ok (.iload 5, 2) := by decide +kernel
theorem dX6_stand_41 : decode cX6_stand 41 = .ok (.iload_n 2, 1) := by decide +kernel
theorem dX6_stand_42 : decode cX6_stand 42 = .ok (.if_icmp .lt 52, 3) := by decide +kernel
theorem dX6_stand_45 : decode cX6_stand 45 = .ok (.aload_n 0, 1) := by decide +kernel
theorem dX6_stand_46 : decode cX6_stand 46 = .ok (.aload_n 0, 1) := by decide +kernel
theorem dX6_stand_47 : decode cX6_stand 47 = .ok (.iload 4, 2) := by decide +kernel
theorem dX6_stand_49 : decode cX6_stand 49 = .ok (.invokevirtual 224, 3) := by decide +kernel
theorem dX6_stand_52 : decode cX6_stand 52 = .ok (.invokevirtual 196, 3) := by decide +kernel
theorem dX6_stand_55 : decode cX6_stand 55 = .ok (.aload_n 0, 1) := by decide +kernel
theorem dX6_stand_56 : decode cX6_stand 56 = .ok (.getfield 174, 3) := by decide +kernel
theorem dX6_stand_59 : decode cX6_stand 59 = .ok (.ifCond .ne 7, 3) := by decide +kernel
theorem dX6_stand_62 : decode cX6_stand 62 = .ok (.iload_n 3, 1) := by decide +kernel
theorem dX6_stand_63 : decode cX6_stand 63 = .ok (.goto 16, 3) := by decide +kernel
theorem dX6_stand_66 : decode cX6_stand 66 = .ok (.iload 5, 2) := by decide +kernel
theorem dX6_stand_68 : decode cX6_stand 68 = .ok (.iload_n 2, 1) := by decide +kernel
theorem dX6_stand_69 : decode cX6_stand 69 = .ok (.if_icmp .le 7, 3) := by decide +kernel
theorem dX6_stand_72 : decode cX6_stand 72 = .ok (.iconst 1, 1) := by decide +kernel
theorem dX6_stand_73 : decode cX6_stand 73 = .ok (.goto 6, 3) := by decide +kernel
theorem dX6_stand_76 : decode cX6_stand 76 = .ok (.iload_n 3, 1) := by decide +kernel
theorem dX6_stand_77 : decode cX6_stand 77 = .ok (.iconst 1, 1) := by decide +kernel
theorem dX6_stand_78 : decode cX6_stand 78 = .ok (.iadd, 1) := by decide +kernel
theorem dX6_stand_79 : decode cX6_stand 79 = .ok (.istore_n 3, 1) := by decide +kernel
theorem dX6_stand_80 : decode cX6_stand 80 = .ok (.aload_n 0, 1) := by decide +kernel
theorem dX6_stand_81 : decode cX6_stand 81 = .ok (.getfield 174, 3) := by decide +kernel
theorem dX6_stand_84 : decode cX6_stand 84 = .ok (.ifCond .eq 8, 3) := by decide +kernel
theorem dX6_stand_87 : decode cX6_stand 87 = .ok (.iload 5, 2) := by decide +kernel
theorem dX6_stand_89 : decode cX6_stand 89 = .ok (.goto 4, 3) := by decide +kernel
theorem dX6_stand_92 : decode cX6_stand 92 = .ok (.iload_n 2, 1) := by decide +kernel
theorem dX6_stand_93 : decode cX6_stand 93 = .ok (.istore_n 2, 1) := by decide +kernel
theorem dX6_stand_94 : decode cX6_stand 94 = .ok (.iinc 4 1, 3) := by decide +kernel
theorem dX6_stand_97 : decode cX6_stand 97 = .ok (.goto (-78), 3) := by decide +kernel
theorem dX6_stand_100 : decode cX6_stand 100 = .ok (.iload_n 1, 1) := by decide +kernel
theorem dX6_stand_101 : decode cX6_stand 101 = .ok (.ifCond .ne 7, 3) := by decide +kernel
theorem dX6_stand_104 : decode cX6_stand 104 = .ok (.iload_n 2, 1) := by decide +kernel
theorem dX6_stand_105 : decode cX6_stand 105 = .ok (.goto 4, 3) := by decide +kernel
theorem dX6_stand_108 : decode cX6_stand 108 = .ok (.iload_n 3, 1) := by decide +kernel
theorem dX6_stand_109 : decode cX6_stand 109 = .ok (.ireturn, 1) := by decide +kernel
theorem dX6_isKnown_0 : decode cX6_isKnown 0 = .ok (.aload_n 0, 1) := by decide +kernel
theorem dX6_isKnown_1 : decode cX6_isKnown 1 = .ok (.getfield 174, 3) := by decide +kernel
theorem dX6_isKnown_4 : decode cX6_isKnown 4 = .ok (.ifCond .eq 40, 3) := by decide +kernel
theorem dX6_isKnown_7 : decode cX6_isKnown 7 = .ok (.iload_n 1, 1) := by decide +kernel
theorem dX6_isKnown_8 : decode cX6_isKnown 8 = .ok (.iconst 1, 1) := by decide +kernel
theorem dX6_isKnown_9 : decode cX6_isKnown 9 = .ok (.iand, 1) := by decide +kernel
theorem dX6_isKnown_10 : decode cX6_isKnown 10 = .ok (.ifCond .ne 16, 3) := by decide +kernel
theorem dX6_isKnown_13 : decode cX6_isKnown 13 = .ok (.aload_n 0, 1) := by decide +kernel
theorem dX6_isKnown_14 : decode cX6_isKnown 14 = .ok (.getfield 178, 3) := by decide +kernel
theorem dX6_isKnown_17 : decode cX6_isKnown 17 = .ok (.iload_n 1, 1) := by decide +kernel
theorem dX6_isKnown_18 : decode cX6_isKnown 18 = .ok (.iconst 2, 1) := by decide +kernel
theorem dX6_isKnown_19 : decode cX6_isKnown 19 = .ok (.idiv, 1) := by decide +kernel
theorem dX6_isKnown_20 : decode cX6_isKnown 20 = .ok (.ishr, 1) := by decide +kernel
theorem dX6_isKnown_21 : decode cX6_isKnown 21 = .ok (.iconst 1, 1) := by decide +kernel
theorem dX6_isKnown_22 : decode cX6_isKnown 22 = .ok (.iand, 1) := by decide +kernel
theorem dX6_isKnown_23 : decode cX6_isKnown 23 = .ok (.goto 13, 3) := by decide +kernel
theorem dX6_isKnown_26 : decode cX6_isKnown 26 = .ok (.aload_n 0, 1) := by decide +kernel
theorem dX6_isKnown_27 : decode cX6_isKnown 27 = .ok (.getfield 181, 3) := by decide +kernel
theorem dX6_isKnown_30 : decode cX6_isKnown 30 = .ok (.iload_n 1, 1) := by decide +kernel
theorem dX6_isKnown_31 : decode cX6_isKnown 31 = .ok (.iconst 2, 1) := by decide +kernel
theorem dX6_isKnown_32 : decode cX6_isKnown 32 = .ok (.idiv, 1) := by decide +kernel
theorem dX6_isKnown_33 : decode cX6_isKnown 33 = .ok (.ishr, 1) := by decide +kernel
theorem dX6_isKnown_34 : decode cX6_isKnown 34 = .ok (.iconst 1, 1) := by decide +kernel
theorem dX6_isKnown_35 : decode cX6_isKnown 35 = .ok (.iand, 1) := by decide +kernel
theorem dX6_isKnown_36 : decode cX6_isKnown 36 = .ok (.iconst 1, 1) := by decide +kernel
theorem dX6_isKnown_37 : decode cX6_isKnown 37 = .ok (.if_icmp .ne 7, 3) := by decide +kernel
theorem dX6_isKnown_40 : decode cX6_isKnown 40 = .ok (.iconst 1, 1) := by decide +kernel
theorem dX6_isKnown_41 : decode cX6_isKnown 41 = .ok (.goto 4, 3) := by decide +kernel
theorem dX6_isKnown_44 : decode cX6_isKnown 44 = .ok (.iconst 0, 1) := by decide +kernel
theorem dX6_isKnown_45 : decode cX6_isKnown 45 = .ok (.ireturn, 1) := by decide +kernel
theorem dX6_was_0 : decode cX6_was 0 = .ok (.aload_n 0, 1) := by decide +kernel
theorem dX6_was_1 : decode cX6_was 1 = .ok (.iload_n 1, 1) := by decide +kernel
theorem dX6_was_2 : decode cX6_was 2 = .ok (.invokevirtual 205, 3) := by decide +kernel
theorem dX6_was_5 : decode cX6_was 5 = .ok (.ifCond .ne 5, 3) := by decide +kernel
theorem dX6_was_8 : decode cX6_was 8 = .ok (.iconst (-1), 1) := by decide +kernel
theorem dX6_was_9 : decode cX6_was 9 = .ok (.ireturn, 1) := by decide +kernel
theorem dX6_was_10 : decode cX6_was 10 = .ok (.aload_n 0, 1) := by decide +kernel
theorem dX6_was_11 : decode cX6_was 11 = .ok (.iconst 0, 1) := by decide +kernel
theorem dX6_was_12 : decode cX6_was 12 = .ok (.iconst 1, 1) := by decide +kernel
theorem dX6_was_13 : decode cX6_was 13 = .ok (.iconst (-1), 1) := by decide +kernel
theorem dX6_was_14 : decode cX6_was 14 = .ok (.invokevirtual 192, 3) := by decide +kernel
theorem dX6_was_17 : decode cX6_was 17 = .ok (.istore_n 2, 1) := by decide +kernel
theorem dX6_was_18 : decode cX6_was 18 = .ok (.iconst 0, 1) := by decide +kernel
theorem dX6_was_19 : decode cX6_was 19 = .ok (.istore_n 3, 1) := by decide +kernel
theorem dX6_was_20 : decode cX6_was 20 = .ok (.iconst 0, 1) := by decide +kernel
theorem dX6_was_21 : decode cX6_was 21 = .ok (.istore 4, 2) := by decide +kernel
theorem dX6_was_23 : decode cX6_was 23 = .ok (.iload 4, 2) := by decide +kernel
theorem dX6_was_25 : decode cX6_was 25 = .ok (.iconst 2, 1) := by decide +kernel
theorem dX6_was_26 : decode cX6_was 26 = .ok (.aload_n 0, 1) := by decide +kernel
theorem dX6_was_27 : decode cX6_was 27 = .ok (.getfield 13, 3) := by decide +kernel
theorem dX6_was_30 : decode cX6_was 30 = .ok (.iconst 0, 1) := by decide +kernel
theorem dX6_was_31 : decode cX6_was 31 = .ok (.iaload, 1) := by decide +kernel
theorem dX6_was_32 : decode cX6_was 32 = .ok (.imul, 1) := by decide +kernel
theorem dX6_was_33 : decode cX6_was 33 = .ok (.if_icmp .ge 38, 3) := by decide +kernel
theorem dX6_was_36 : decode cX6_was 36 = .ok (.aload_n 0, 1) := by decide +kernel
theorem dX6_was_37 : decode cX6_was 37 = .ok (.iload_n 2, 1) := by decide +kernel
theorem dX6_was_38 : decode cX6_was 38 = .ok (.iconst 1, 1) := by decide +kernel
theorem dX6_was_39 : decode cX6_was 39 = .ok (.iload 4, 2) := by decide +kernel
theorem dX6_was_41 : decode cX6_was 41 = .ok (.ishl, 1) := by decide +kernel
theorem dX6_was_42 : decode cX6_was 42 = .ok (.ior, 1) := by decide +kernel
theorem dX6_was_43 : decode cX6_was 43 = .ok (.invokevirtual 196, 3) := by decide +kernel
theorem dX6_was_46 : decode cX6_was 46 = .ok (.iload_n 3, 1) := by decide +kernel
theorem dX6_was_47 : decode cX6_was 47 = .ok (.aload_n 0, 1) := by decide +kernel
theorem dX6_was_48 : decode cX6_was 48 = .ok (.iload_n 1, 1) := by decide +kernel
theorem dX6_was_49 : decode cX6_was 49 = .ok (.invokevirtual 227, 3) := by decide +kernel
theorem dX6_was_52 : decode cX6_was 52 = .ok (.ifCond .eq 10, 3) := by decide +kernel
theorem dX6_was_55 : decode cX6_was 55 = .ok (.iconst 1, 1) := by decide +kernel
theorem dX6_was_56 : decode cX6_was 56 = .ok (.iload 4, 2) := by decide +kernel
theorem dX6_was_58 : decode cX6_was 58 = .ok (.ishl, 1) := by decide +kernel
theorem dX6_was_59 : decode cX6_was 59 = .ok (.goto 4, 3) := by decide +kernel
theorem dX6_was_62 : decode cX6_was 62 = .ok (.iconst 0, 1) := by decide +kernel
theorem dX6_was_63 : decode cX6_was 63 = .ok (.ior, 1) := by decide +kernel
theorem dX6_was_64 : decode cX6_was 64 = .ok (.istore_n 3, 1) := by decide +kernel
theorem dX6_was_65 : decode cX6_was 65 = .ok (.iinc 4 1, 3) := by decide +kernel
theorem dX6_was_68 : decode cX6_was 68 = .ok (.goto (-45), 3) := by decide +kernel
theorem dX6_was_71 : decode cX6_was 71 = .ok (.iload_n 3, 1) := by decide +kernel
theorem dX6_was_72 : decode cX6_was 72 = .ok (.ireturn, 1) := by decide +kernel
theorem dX6_missed_0 : decode cX6_missed 0 = .ok (.bipush (-4), 2) := by decide +kernel
theorem dX6_missed_2 : decode cX6_missed 2 = .ok (.istore_n 1, 1) := by decide +kernel
theorem dX6_missed_3 : decode cX6_missed 3 = .ok (.bipush 99, 2) := by decide +kernel
theorem dX6_missed_5 : decode cX6_missed 5 = .ok (.istore_n 2, 1) := by decide +kernel
theorem dX6_missed_6 : decode cX6_missed 6 = .ok (.iconst 0, 1) := by decide +kernel
theorem dX6_missed_7 : decode cX6_missed 7 = .ok (.istore_n 3, 1) := by decide +kernel
theorem dX6_missed_8 : decode cX6_missed 8 = .ok (.iload_n 3, 1) := by decide +kernel
theorem dX6_missed_9 : decode cX6_missed 9 = .ok (.aload_n 0, 1) := by decide +kernel
theorem dX6_missed_10 : decode cX6_missed 10 = .ok (.getfield 33, 3) := by decide +kernel
theorem dX6_missed_13 : decode cX6_missed 13 = .ok (.iconst 2, 1) := by decide +kernel
theorem dX6_missed_14 : decode cX6_missed 14 = .ok (.iaload, 1) := by decide +kernel
theorem dX6_missed_15 : decode cX6_missed 15 = .ok (.if_icmp .ge 54, 3) := by decide +kernel
theorem dX6_missed_18 : decode cX6_missed 18 = .ok (.aload_n 0, 1) := by decide +kernel
theorem dX6_missed_19 : decode cX6_missed 19 = .ok (.aload_n 0, 1) := by decide +kernel
theorem dX6_missed_20 : decode cX6_missed 20 = .ok (.iconst 0, 1) := by decide +kernel
theorem dX6_missed_21 : decode cX6_missed 21 = .ok (.iconst 1, 1) := by decide +kernel
theorem dX6_missed_22 : decode cX6_missed 22 = .ok (.iload_n 3, 1) := by decide +kernel
theorem dX6_missed_23 : decode cX6_missed 23 = .ok (.invokevirtual 192, 3) := by decide +kernel
theorem dX6_missed_26 : decode cX6_missed 26 = .ok (.invokevirtual 196, 3) := by decide +kernel
theorem dX6_missed_29 : decode cX6_missed 29 = .ok (.aload_n 0, 1) := by decide +kernel
theorem dX6_missed_30 : decode cX6_missed 30 = .ok (.iconst 0, 1) := by decide +kernel
theorem dX6_missed_31 : decode cX6_missed 31 = .ok (.invokevirtual 199, 3) := by decide +kernel
theorem dX6_missed_34 : decode cX6_missed 34 = .ok (.iload_n 2, 1) := by decide +kernel
theorem dX6_missed_35 : decode cX6_missed 35 = .ok (.if_icmp .ge 7, 3) := by decide +kernel
theorem dX6_missed_38 : decode cX6_missed 38 = .ok (.iload_n 3, 1) := by decide +kernel
theorem dX6_missed_39 : decode cX6_missed 39 = .ok (.goto 4, 3) := by decide +kernel
theorem dX6_missed_42 : decode cX6_missed 42 = .ok (.iload_n 1, 1) := by decide +kernel
theorem dX6_missed_43 : decode cX6_missed 43 = .ok (.istore_n 1, 1) := by decide +kernel
theorem dX6_missed_44 : decode cX6_missed 44 = .ok (.aload_n 0, 1) := by decide +kernel
theorem dX6_missed_45 : decode cX6_missed 45 = .ok (.iconst 0, 1) := by decide +kernel
theorem dX6_missed_46 : decode cX6_missed 46 = .ok (.invokevirtual 199, 3) := by decide +kernel
theorem dX6_missed_49 : decode cX6_missed 49 = .ok (.iload_n 2, 1) := by decide +kernel
theorem dX6_missed_50 : decode cX6_missed 50 = .ok (.if_icmp .ge 11, 3) := by decide +kernel
theorem dX6_missed_53 : decode cX6_missed 53 = .ok (.aload_n 0, 1) := by decide +kernel
theorem dX6_missed_54 : decode cX6_missed 54 = .ok (.iconst 0, 1) := by decide +kernel
theorem dX6_missed_55 : decode cX6_missed 55 = .ok (.invokevirtual 199, 3) := by decide +kernel
theorem dX6_missed_58 : decode cX6_missed 58 = .ok (.goto 4, 3) := by decide +kernel
theorem dX6_missed_61 : decode cX6_missed 61 = .ok (.iload_n 2, 1) := by decide +kernel
theorem dX6_missed_62 : decode cX6_missed 62 = .ok (.istore_n 2, 1) := by decide +kernel
theorem dX6_missed_63 : decode cX6_missed 63 = .ok (.iinc 3 1, 3) := by decide +kernel
theorem dX6_missed_66 : decode cX6_missed 66 = .ok (.goto (-58), 3) := by decide +kernel
theorem dX6_missed_69 : decode cX6_missed 69 = .ok (.iload_n 1, 1) := by decide +kernel
theorem dX6_missed_70 : decode cX6_missed 70 = .ok (.ireturn, 1) := by decide +kernel
theorem dX6_sale_0 : decode cX6_sale 0 = .ok (.iload_n 1, 1) := by decide +kernel
theorem dX6_sale_1 : decode cX6_sale 1 = .ok (.i2l, 1) := by decide +kernel
theorem dX6_sale_2 : decode cX6_sale 2 = .ok (.lconst 1, 1) := by decide +kernel
theorem dX6_sale_3 : decode cX6_sale 3 = .ok (.ldc2_w 230, 3) := by decide +kernel
theorem dX6_sale_6 : decode cX6_sale 6 = .ok (.invokestatic 52, 3) := by decide +kernel
theorem dX6_sale_9 : decode cX6_sale 9 = .ok (.ifCond .eq 23, 3) := by decide +kernel
theorem dX6_sale_12 : decode cX6_sale 12 = .ok (.iload_n 2, 1) := by decide +kernel
theorem dX6_sale_13 : decode cX6_sale 13 = .ok (.i2l, 1) := by decide +kernel
theorem dX6_sale_14 : decode cX6_sale 14 = .ok (.ldc2_w 208, 3) := by decide +kernel
theorem dX6_sale_17 : decode cX6_sale 17 = .ok (.aload_n 0, 1) := by decide +kernel
theorem dX6_sale_18 : decode cX6_sale 18 = .ok (.getfield 13, 3) := by decide +kernel
theorem dX6_sale_21 : decode cX6_sale 21 = .ok (.iconst 4, 1) := by decide +kernel
theorem dX6_sale_22 : decode cX6_sale 22 = .ok (.iaload, 1) := by decide +kernel
theorem dX6_sale_23 : decode cX6_sale 23 = .ok (.iconst 1, 1) := by decide +kernel
theorem dX6_sale_24 : decode cX6_sale 24 = .ok (.isub, 1) := by decide +kernel
theorem dX6_sale_25 : decode cX6_sale 25 = .ok (.i2l, 1) := by decide +kernel
theorem dX6_sale_26 : decode cX6_sale 26 = .ok (.invokestatic 52, 3) := by decide +kernel
theorem dX6_sale_29 : decode cX6_sale 29 = .ok (.ifCond .ne 5, 3) := by decide +kernel
theorem dX6_sale_32 : decode cX6_sale 32 = .ok (.iconst (-1), 1) := by decide +kernel
theorem dX6_sale_33 : decode cX6_sale 33 = .ok (.ireturn, 1) := by decide +kernel
theorem dX6_sale_34 : decode cX6_sale 34 = .ok (.iload_n 1, 1) := by decide +kernel
theorem dX6_sale_35 : decode cX6_sale 35 = .ok (.istore_n 3, 1) := by decide +kernel
theorem dX6_sale_36 : decode cX6_sale 36 = .ok (.iconst 0, 1) := by decide +kernel
theorem dX6_sale_37 : decode cX6_sale 37 = .ok (.istore 4, 2) := by decide +kernel
theorem dX6_sale_39 : decode cX6_sale 39 = .ok (.bipush 99, 2) := by decide +kernel
theorem dX6_sale_41 : decode cX6_sale 41 = .ok (.istore 5, 2) := by decide +kernel
theorem dX6_sale_43 : decode cX6_sale 43 = .ok (.iload 5, 2) := by decide +kernel
theorem dX6_sale_45 : decode cX6_sale 45 = .ok (.ifCond .lt 115, 3) := by decide +kernel
theorem dX6_sale_48 : decode cX6_sale 48 = .ok (.iconst 0, 1) := by decide +kernel
theorem dX6_sale_49 : decode cX6_sale 49 = .ok (.istore 6, 2) := by decide +kernel
theorem dX6_sale_51 : decode cX6_sale 51 = .ok (.iload 6, 2) := by decide +kernel
theorem dX6_sale_53 : decode cX6_sale 53 = .ok (.aload_n 0, 1) := by decide +kernel
theorem dX6_sale_54 : decode cX6_sale 54 = .ok (.getfield 13, 3) := by decide +kernel
theorem dX6_sale_57 : decode cX6_sale 57 = .ok (.iconst 4, 1) := by decide +kernel
theorem dX6_sale_58 : decode cX6_sale 58 = .ok (.iaload, 1) := by decide +kernel
theorem dX6_sale_59 : decode cX6_sale 59 = .ok (.if_icmp .ge 95, 3) := by decide +kernel
theorem dX6_sale_62 : decode cX6_sale 62 = .ok (.aload_n 0, 1) := by decide +kernel
theorem dX6_sale_63 : decode cX6_sale 63 = .ok (.getfield 26, 3) := by decide +kernel
theorem dX6_sale_66 : decode cX6_sale 66 = .ok (.iconst 3, 1) := by decide +kernel
theorem dX6_sale_67 : decode cX6_sale 67 = .ok (.iload 6, 2) := by decide +kernel
theorem dX6_sale_69 : decode cX6_sale 69 = .ok (.imul, 1) := by decide +kernel
theorem dX6_sale_70 : decode cX6_sale 70 = .ok (.iconst 2, 1) := by decide +kernel
theorem dX6_sale_71 : decode cX6_sale 71 = .ok (.iadd, 1) := by decide +kernel
theorem dX6_sale_72 : decode cX6_sale 72 = .ok (.iaload, 1) := by decide +kernel
theorem dX6_sale_73 : decode cX6_sale 73 = .ok (.iload 5, 2) := by decide +kernel
theorem dX6_sale_75 : decode cX6_sale 75 = .ok (.if_icmp .ne 73, 3) := by decide +kernel
theorem dX6_sale_78 : decode cX6_sale 78 = .ok (.aload_n 0, 1) := by decide +kernel
theorem dX6_sale_79 : decode cX6_sale 79 = .ok (.getfield 26, 3) := by decide +kernel
theorem dX6_sale_82 : decode cX6_sale 82 = .ok (.iconst 3, 1) := by decide +kernel
theorem dX6_sale_83 : decode cX6_sale 83 = .ok (.iload 6, 2) := by decide +kernel
theorem dX6_sale_85 : decode cX6_sale 85 = .ok (.imul, 1) := by decide +kernel
theorem dX6_sale_86 : decode cX6_sale 86 = .ok (.iconst 1, 1) := by decide +kernel
theorem dX6_sale_87 : decode cX6_sale 87 = .ok (.iadd, 1) := by decide +kernel
theorem dX6_sale_88 : decode cX6_sale 88 = .ok (.iaload, 1) := by decide +kernel
theorem dX6_sale_89 : decode cX6_sale 89 = .ok (.istore 7, 2) := by decide +kernel
theorem dX6_sale_91 : decode cX6_sale 91 = .ok (.aload_n 0, 1) := by decide +kernel
theorem dX6_sale_92 : decode cX6_sale 92 = .ok (.getfield 39, 3) := by decide +kernel
theorem dX6_sale_95 : decode cX6_sale 95 = .ok (.iload 6, 2) := by decide +kernel
theorem dX6_sale_97 : decode cX6_sale 97 = .ok (.iload 7, 2) := by decide +kernel
theorem dX6_sale_99 : decode cX6_sale 99 = .ok (.iload_n 3, 1) := by decide +kernel
theorem dX6_sale_100 : decode cX6_sale 100 = .ok (.if_icmp .ge 8, 3) := by decide +kernel
theorem dX6_sale_103 : decode cX6_sale 103 = .ok (.iload 7, 2) := by decide +kernel
theorem dX6_sale_105 : decode cX6_sale 105 = .ok (.goto 4, 3) := by decide +kernel
theorem dX6_sale_108 : decode cX6_sale 108 = .ok (.iload_n 3, 1) := by decide +kernel
theorem dX6_sale_109 : decode cX6_sale 109 = .ok (.iastore, 1) := by decide +kernel
theorem dX6_sale_110 : decode cX6_sale 110 = .ok (.iload_n 3, 1) := by decide +kernel
theorem dX6_sale_111 : decode cX6_sale 111 = .ok (.aload_n 0, 1) := by decide +kernel
theorem dX6_sale_112 : decode cX6_sale 112 = .ok (.getfield 39, 3) := by decide +kernel
theorem dX6_sale_115 : decode cX6_sale 115 = .ok (.iload 6, 2) := by decide +kernel
theorem dX6_sale_117 : decode cX6_sale 117 = .ok (.iaload, 1) := by decide +kernel
theorem dX6_sale_118 : decode cX6_sale 118 = .ok (.isub, 1) := by decide +kernel
theorem dX6_sale_119 : decode cX6_sale 119 = .ok (.istore_n 3, 1) := by decide +kernel
theorem dX6_sale_120 : decode cX6_sale 120 = .ok (.aload_n 0, 1) := by decide +kernel
theorem dX6_sale_121 : decode cX6_sale 121 = .ok (.getfield 39, 3) := by decide +kernel
theorem dX6_sale_124 : decode cX6_sale 124 = .ok (.iload 6, 2) := by decide +kernel
theorem dX6_sale_126 : decode cX6_sale 126 = .ok (.iaload, 1) := by decide +kernel
theorem dX6_sale_127 : decode cX6_sale 127 = .ok (.iload 7, 2) := by decide +kernel
theorem dX6_sale_129 : decode cX6_sale 129 = .ok (.if_icmp .ge 15, 3) := by decide +kernel
theorem dX6_sale_132 : decode cX6_sale 132 = .ok (.iload 5, 2) := by decide +kernel
theorem dX6_sale_134 : decode cX6_sale 134 = .ok (.iload 4, 2) := by decide +kernel
theorem dX6_sale_136 : decode cX6_sale 136 = .ok (.if_icmp .le 8, 3) := by decide +kernel
theorem dX6_sale_139 : decode cX6_sale 139 = .ok (.iload 5, 2) := by decide +kernel
theorem dX6_sale_141 : decode cX6_sale 141 = .ok (.goto 5, 3) := by decide +kernel
theorem dX6_sale_144 : decode cX6_sale 144 = .ok (.iload 4, 2) := by decide +kernel
theorem dX6_sale_146 : decode cX6_sale 146 = .ok (.istore 4, 2) := by decide +kernel
theorem dX6_sale_148 : decode cX6_sale 148 = .ok (.iinc 6 1, 3) := by decide +kernel
theorem dX6_sale_151 : decode cX6_sale 151 = .ok (.goto (-100), 3) := by decide +kernel
theorem dX6_sale_154 : decode cX6_sale 154 = .ok (.iinc 5 (-1), 3) := by decide +kernel
theorem dX6_sale_157 : decode cX6_sale 157 = .ok (.goto (-114), 3) := by decide +kernel
theorem dX6_sale_160 : decode cX6_sale 160 = .ok (.iload_n 2, 1) := by decide +kernel
theorem dX6_sale_161 : decode cX6_sale 161 = .ok (.ifCond .ge 8, 3) := by decide +kernel
theorem dX6_sale_164 : decode cX6_sale 164 = .ok (.iload 4, 2) := by decide +kernel
theorem dX6_sale_166 : decode cX6_sale 166 = .ok (.goto 9, 3) := by decide +kernel
theorem dX6_sale_169 : decode cX6_sale 169 = .ok (.aload_n 0, 1) := by decide +kernel
theorem dX6_sale_170 : decode cX6_sale 170 = .ok (.getfield 39, 3) := by decide +kernel
theorem dX6_sale_173 : decode cX6_sale 173 = .ok (.iload_n 2, 1) := by decide +kernel
theorem dX6_sale_174 : decode cX6_sale 174 = .ok (.iaload, 1) := by decide +kernel
theorem dX6_sale_175 : decode cX6_sale 175 = .ok (.ireturn, 1) := by decide +kernel
theorem dX6_worth_0 : decode cX6_worth 0 = .ok (.aload_n 0, 1) := by decide +kernel
theorem dX6_worth_1 : decode cX6_worth 1 = .ok (.aload_n 0, 1) := by decide +kernel
theorem dX6_worth_2 : decode cX6_worth 2 = .ok (.iconst 0, 1) := by decide +kernel
theorem dX6_worth_3 : decode cX6_worth 3 = .ok (.iconst 1, 1) := by decide +kernel
theorem dX6_worth_4 : decode cX6_worth 4 = .ok (.iconst (-1), 1) := by decide +kernel
theorem dX6_worth_5 : decode cX6_worth 5 = .ok (.invokevirtual 192, 3) := by decide +kernel
theorem dX6_worth_8 : decode cX6_worth 8 = .ok (.invokevirtual 196, 3) := by decide +kernel
theorem dX6_worth_11 : decode cX6_worth 11 = .ok (.aload_n 0, 1) := by decide +kernel
theorem dX6_worth_12 : decode cX6_worth 12 = .ok (.getfield 13, 3) := by decide +kernel
theorem dX6_worth_15 : decode cX6_worth 15 = .ok (.iconst 0, 1) := by decide +kernel
theorem dX6_worth_16 : decode cX6_worth 16 = .ok (.iaload, 1) := by decide +kernel
theorem dX6_worth_17 : decode cX6_worth 17 = .ok (.aload_n 0, 1) := by decide +kernel
theorem dX6_worth_18 : decode cX6_worth 18 = .ok (.iconst 0, 1) := by decide +kernel
theorem dX6_worth_19 : decode cX6_worth 19 = .ok (.invokevirtual 199, 3) := by decide +kernel
theorem dX6_worth_22 : decode cX6_worth 22 = .ok (.isub, 1) := by decide +kernel
theorem dX6_worth_23 : decode cX6_worth 23 = .ok (.ireturn, 1) := by decide +kernel
theorem dX6_two_0 : decode cX6_two 0 = .ok (.aload_n 0, 1) := by decide +kernel
theorem dX6_two_1 : decode cX6_two 1 = .ok (.iload_n 1, 1) := by decide +kernel
theorem dX6_two_2 : decode cX6_two 2 = .ok (.invokevirtual 152, 3) := by decide +kernel
theorem dX6_two_5 : decode cX6_two 5 = .ok (.ifCond .eq 16, 3) := by decide +kernel
theorem dX6_two_8 : decode cX6_two 8 = .ok (.aload_n 0, 1) := by decide +kernel
theorem dX6_two_9 : decode cX6_two 9 = .ok (.iload_n 2, 1) := by decide +kernel
theorem dX6_two_10 : decode cX6_two 10 = .ok (.invokevirtual 152, 3) := by decide +kernel
theorem dX6_two_13 : decode cX6_two 13 = .ok (.ifCond .eq 8, 3) := by decide +kernel
theorem dX6_two_16 : decode cX6_two 16 = .ok (.iload_n 1, 1) := by decide +kernel
theorem dX6_two_17 : decode cX6_two 17 = .ok (.iload_n 2, 1) := by decide +kernel
theorem dX6_two_18 : decode cX6_two 18 = .ok (.if_icmp .ne 5, 3) := by decide +kernel
theorem dX6_two_21 : decode cX6_two 21 = .ok (.iconst (-1), 1) := by decide +kernel
theorem dX6_two_22 : decode cX6_two 22 = .ok (.ireturn, 1) := by decide +kernel
theorem dX6_two_23 : decode cX6_two 23 = .ok (.aload_n 0, 1) := by decide +kernel
theorem dX6_two_24 : decode cX6_two 24 = .ok (.aload_n 0, 1) := by decide +kernel
theorem dX6_two_25 : decode cX6_two 25 = .ok (.iconst 0, 1) := by decide +kernel
theorem dX6_two_26 : decode cX6_two 26 = .ok (.iconst 1, 1) := by decide +kernel
theorem dX6_two_27 : decode cX6_two 27 = .ok (.iconst (-1), 1) := by decide +kernel
theorem dX6_two_28 : decode cX6_two 28 = .ok (.invokevirtual 192, 3) := by decide +kernel
theorem dX6_two_31 : decode cX6_two 31 = .ok (.iconst 1, 1) := by decide +kernel
theorem dX6_two_32 : decode cX6_two 32 = .ok (.aload_n 0, 1) := by decide +kernel
theorem dX6_two_33 : decode cX6_two 33 = .ok (.iconst 0, 1) := by decide +kernel
theorem dX6_two_34 : decode cX6_two 34 = .ok (.iload_n 1, 1) := by decide +kernel
theorem dX6_two_35 : decode cX6_two 35 = .ok (.invokevirtual 158, 3) := by decide +kernel
theorem dX6_two_38 : decode cX6_two 38 = .ok (.ishl, 1) := by decide +kernel
theorem dX6_two_39 : decode cX6_two 39 = .ok (.ior, 1) := by decide +kernel
theorem dX6_two_40 : decode cX6_two 40 = .ok (.iconst 1, 1) := by decide +kernel
theorem dX6_two_41 : decode cX6_two 41 = .ok (.aload_n 0, 1) := by decide +kernel
theorem dX6_two_42 : decode cX6_two 42 = .ok (.iconst 0, 1) := by decide +kernel
theorem dX6_two_43 : decode cX6_two 43 = .ok (.iload_n 2, 1) := by decide +kernel
theorem dX6_two_44 : decode cX6_two 44 = .ok (.invokevirtual 158, 3) := by decide +kernel
theorem dX6_two_47 : decode cX6_two 47 = .ok (.ishl, 1) := by decide +kernel
theorem dX6_two_48 : decode cX6_two 48 = .ok (.ior, 1) := by decide +kernel
theorem dX6_two_49 : decode cX6_two 49 = .ok (.invokevirtual 196, 3) := by decide +kernel
theorem dX6_two_52 : decode cX6_two 52 = .ok (.aload_n 0, 1) := by decide +kernel
theorem dX6_two_53 : decode cX6_two 53 = .ok (.iconst 0, 1) := by decide +kernel
theorem dX6_two_54 : decode cX6_two 54 = .ok (.invokevirtual 199, 3) := by decide +kernel
theorem dX6_two_57 : decode cX6_two 57 = .ok (.ireturn, 1) := by decide +kernel
theorem dX6_week_0 : decode cX6_week 0 = .ok (.aload_n 0, 1) := by decide +kernel
theorem dX6_week_1 : decode cX6_week 1 = .ok (.getfield 33, 3) := by decide +kernel
theorem dX6_week_4 : decode cX6_week 4 = .ok (.sipush 616, 3) := by decide +kernel
theorem dX6_week_7 : decode cX6_week 7 = .ok (.aload_n 0, 1) := by decide +kernel
theorem dX6_week_8 : decode cX6_week 8 = .ok (.iload_n 1, 1) := by decide +kernel
theorem dX6_week_9 : decode cX6_week 9 = .ok (.aload_n 0, 1) := by decide +kernel
theorem dX6_week_10 : decode cX6_week 10 = .ok (.getfield 95, 3) := by decide +kernel
theorem dX6_week_13 : decode cX6_week 13 = .ok (.irem, 1) := by decide +kernel
theorem dX6_week_14 : decode cX6_week 14 = .ok (.invokevirtual 136, 3) := by decide +kernel
theorem dX6_week_17 : decode cX6_week 17 = .ok (.iastore, 1) := by decide +kernel
theorem dX6_week_18 : decode cX6_week 18 = .ok (.iload_n 1, 1) := by decide +kernel
theorem dX6_week_19 : decode cX6_week 19 = .ok (.bipush 8, 2) := by decide +kernel
theorem dX6_week_21 : decode cX6_week 21 = .ok (.idiv, 1) := by decide +kernel
theorem dX6_week_22 : decode cX6_week 22 = .ok (.iconst 2, 1) := by decide +kernel
theorem dX6_week_23 : decode cX6_week 23 = .ok (.irem, 1) := by decide +kernel
theorem dX6_week_24 : decode cX6_week 24 = .ok (.ifCond .ne 102, 3) := by decide +kernel
theorem dX6_week_27 : decode cX6_week 27 = .ok (.aload_n 0, 1) := by decide +kernel
theorem dX6_week_28 : decode cX6_week 28 = .ok (.getfield 33, 3) := by decide +kernel
theorem dX6_week_31 : decode cX6_week 31 = .ok (.sipush 618, 3) := by decide +kernel
theorem dX6_week_34 : decode cX6_week 34 = .ok (.iaload, 1) := by decide +kernel
theorem dX6_week_35 : decode cX6_week 35 = .ok (.bipush 12, 2) := by decide +kernel
theorem dX6_week_37 : decode cX6_week 37 = .ok (.if_icmp .ge 89, 3) := by decide +kernel
theorem dX6_week_40 : decode cX6_week 40 = .ok (.iconst 0, 1) := by decide +kernel
theorem dX6_week_41 : decode cX6_week 41 = .ok (.istore_n 2, 1) := by decide +kernel
theorem dX6_week_42 : decode cX6_week 42 = .ok (.iload_n 2, 1) := by decide +kernel
theorem dX6_week_43 : decode cX6_week 43 = .ok (.aload_n 0, 1) := by decide +kernel
theorem dX6_week_44 : decode cX6_week 44 = .ok (.getfield 13, 3) := by decide +kernel
theorem dX6_week_47 : decode cX6_week 47 = .ok (.iconst 3, 1) := by decide +kernel
theorem dX6_week_48 : decode cX6_week 48 = .ok (.iaload, 1) := by decide +kernel
theorem dX6_week_49 : decode cX6_week 49 = .ok (.if_icmp .ge 19, 3) := by decide +kernel
theorem dX6_week_52 : decode cX6_week 52 = .ok (.aload_n 0, 1) := by decide +kernel
theorem dX6_week_53 : decode cX6_week 53 = .ok (.bipush 11, 2) := by decide +kernel
theorem dX6_week_55 : decode cX6_week 55 = .ok (.iload_n 2, 1) := by decide +kernel
theorem dX6_week_56 : decode cX6_week 56 = .ok (.invokevirtual 127, 3) := by decide +kernel
theorem dX6_week_59 : decode cX6_week 59 = .ok (.ifCond .ne 9, 3) := by decide +kernel
theorem dX6_week_62 : decode cX6_week 62 = .ok (.iinc 2 1, 3) := by decide +kernel
theorem dX6_week_65 : decode cX6_week 65 = .ok (.goto (-23), 3) := by decide +kernel
theorem dX6_week_68 : decode cX6_week 68 = .ok (.iload_n 2, 1) := by decide +kernel
theorem dX6_week_69 : decode cX6_week 69 = .ok (.aload_n 0, 1) := by decide +kernel
theorem dX6_week_70 : decode cX6_week 70 = .ok (.getfield 13, 3) := by decide +kernel
theorem dX6_week_73 : decode cX6_week 73 = .ok (.iconst 3, 1) := by decide +kernel
theorem dX6_week_74 : decode cX6_week 74 = .ok (.iaload, 1) := by decide +kernel
theorem dX6_week_75 : decode cX6_week 75 = .ok (.if_icmp .ge 51, 3) := by decide +kernel
theorem dX6_week_78 : decode cX6_week 78 = .ok (.aload_n 0, 1) := by decide +kernel
theorem dX6_week_79 : decode cX6_week 79 = .ok (.bipush 11, 2) := by decide +kernel
theorem dX6_week_81 : decode cX6_week 81 = .ok (.aload_n 0, 1) := by decide +kernel
theorem dX6_week_82 : decode cX6_week 82 = .ok (.bipush 11, 2) := by decide +kernel
theorem dX6_week_84 : decode cX6_week 84 = .ok (.iload_n 1, 1) := by decide +kernel
theorem dX6_week_85 : decode cX6_week 85 = .ok (.sipush 128, 3) := by decide +kernel
theorem dX6_week_88 : decode cX6_week 88 = .ok (.idiv, 1) := by decide +kernel
theorem dX6_week_89 : decode cX6_week 89 = .ok (.aload_n 0, 1) := by decide +kernel
theorem dX6_week_90 : decode cX6_week 90 = .ok (.getfield 13, 3) := by decide +kernel
theorem dX6_week_93 : decode cX6_week 93 = .ok (.iconst 0, 1) := by decide +kernel
theorem dX6_week_94 : decode cX6_week 94 = .ok (.iaload, 1) := by decide +kernel
theorem dX6_week_95 : decode cX6_week 95 = .ok (.irem, 1) := by decide +kernel
theorem dX6_week_96 : decode cX6_week 96 = .ok (.invokevirtual 158, 3) := by decide +kernel
theorem dX6_week_99 : decode cX6_week 99 = .ok (.iload_n 2, 1) := by decide +kernel
theorem dX6_week_100 : decode cX6_week 100 = .ok (.iload_n 1, 1) := by decide +kernel
theorem dX6_week_101 : decode cX6_week 101 = .ok (.bipush 16, 2) := by decide +kernel
theorem dX6_week_103 : decode cX6_week 103 = .ok (.idiv, 1) := by decide +kernel
theorem dX6_week_104 : decode cX6_week 104 = .ok (.aload_n 0, 1) := by decide +kernel
theorem dX6_week_105 : decode cX6_week 105 = .ok (.getfield 13, 3) := by decide +kernel
theorem dX6_week_108 : decode cX6_week 108 = .ok (.iconst 2, 1) := by decide +kernel
theorem dX6_week_109 : decode cX6_week 109 = .ok (.iaload, 1) := by decide +kernel
theorem dX6_week_110 : decode cX6_week 110 = .ok (.irem, 1) := by decide +kernel
theorem dX6_week_111 : decode cX6_week 111 = .ok (.invokevirtual 161, 3) := by decide +kernel
theorem dX6_week_114 : decode cX6_week 114 = .ok (.istore_n 3, 1) := by decide +kernel
theorem dX6_week_115 : decode cX6_week 115 = .ok (.aload_n 0, 1) := by decide +kernel
theorem dX6_week_116 : decode cX6_week 116 = .ok (.getfield 33, 3) := by decide +kernel
theorem dX6_week_119 : decode cX6_week 119 = .ok (.sipush 618, 3) := by decide +kernel
theorem dX6_week_122 : decode cX6_week 122 = .ok (.iload_n 3, 1) := by decide +kernel
theorem dX6_week_123 : decode cX6_week 123 = .ok (.iconst 1, 1) := by decide +kernel
theorem dX6_week_124 : decode cX6_week 124 = .ok (.iadd, 1) := by decide +kernel
theorem dX6_week_125 : decode cX6_week 125 = .ok (.iastore, 1) := by decide +kernel
theorem dX6_week_126 : decode cX6_week 126 = .ok (.aload_n 0, 1) := by decide +kernel
theorem dX6_week_127 : decode cX6_week 127 = .ok (.bipush 11, 2) := by decide +kernel
theorem dX6_week_129 : decode cX6_week 129 = .ok (.invokevirtual 168, 3) := by decide +kernel
theorem dX6_week_132 : decode cX6_week 132 = .ok (.return_, 1) := by decide +kernel
theorem dX6_year_0 : decode cX6_year 0 = .ok (.iload_n 1, 1) := by decide +kernel
theorem dX6_year_1 : decode cX6_year 1 = .ok (.i2l, 1) := by decide +kernel
theorem dX6_year_2 : decode cX6_year 2 = .ok (.lconst 0, 1) := by decide +kernel
theorem dX6_year_3 : decode cX6_year 3 = .ok (.ldc2_w 232, 3) := by decide +kernel
theorem dX6_year_6 : decode cX6_year 6 = .ok (.invokestatic 52, 3) := by decide +kernel
theorem dX6_year_9 : decode cX6_year 9 = .ok (.ifCond .eq 25, 3) := by decide +kernel
theorem dX6_year_12 : decode cX6_year 12 = .ok (.iload_n 2, 1) := by decide +kernel
theorem dX6_year_13 : decode cX6_year 13 = .ok (.i2l, 1) := by decide +kernel
theorem dX6_year_14 : decode cX6_year 14 = .ok (.lconst 1, 1) := by decide +kernel
theorem dX6_year_15 : decode cX6_year 15 = .ok (.ldc2_w 234, 3) := by decide +kernel
theorem dX6_year_18 : decode cX6_year 18 = .ok (.invokestatic 52, 3) := by decide +kernel
theorem dX6_year_21 : decode cX6_year 21 = .ok (.ifCond .eq 13, 3) := by decide +kernel
theorem dX6_year_24 : decode cX6_year 24 = .ok (.iload_n 3, 1) := by decide +kernel
theorem dX6_year_25 : decode cX6_year 25 = .ok (.i2l, 1) := by decide +kernel
theorem dX6_year_26 : decode cX6_year 26 = .ok (.lconst 0, 1) := by decide +kernel
theorem dX6_year_27 : decode cX6_year 27 = .ok (.lconst 1, 1) := by decide +kernel
theorem dX6_year_28 : decode cX6_year 28 = .ok (.invokestatic 52, 3) := by decide +kernel
theorem dX6_year_31 : decode cX6_year 31 = .ok (.ifCond .ne 5, 3) := by decide +kernel
theorem dX6_year_34 : decode cX6_year 34 = .ok (.iconst (-1), 1) := by decide +kernel
theorem dX6_year_35 : decode cX6_year 35 = .ok (.ireturn, 1) := by decide +kernel
theorem dX6_year_36 : decode cX6_year 36 = .ok (.aload_n 0, 1) := by decide +kernel
theorem dX6_year_37 : decode cX6_year 37 = .ok (.iconst 0, 1) := by decide +kernel
theorem dX6_year_38 : decode cX6_year 38 = .ok (.bipush 11, 2) := by decide +kernel
theorem dX6_year_40 : decode cX6_year 40 = .ok (.invokevirtual 139, 3) := by decide +kernel
theorem dX6_year_43 : decode cX6_year 43 = .ok (.iconst 0, 1) := by decide +kernel
theorem dX6_year_44 : decode cX6_year 44 = .ok (.istore 4, 2) := by decide +kernel
theorem dX6_year_46 : decode cX6_year 46 = .ok (.iconst 0, 1) := by decide +kernel
theorem dX6_year_47 : decode cX6_year 47 = .ok (.istore 5, 2) := by decide +kernel
theorem dX6_year_49 : decode cX6_year 49 = .ok (.iload 5, 2) := by decide +kernel
theorem dX6_year_51 : decode cX6_year 51 = .ok (.iload_n 2, 1) := by decide +kernel
theorem dX6_year_52 : decode cX6_year 52 = .ok (.if_icmp .ge 72, 3) := by decide +kernel
theorem dX6_year_55 : decode cX6_year 55 = .ok (.ldc2_w 236, 3) := by decide +kernel
theorem dX6_year_58 : decode cX6_year 58 = .ok (.iload_n 1, 1) := by decide +kernel
theorem dX6_year_59 : decode cX6_year 59 = .ok (.i2l, 1) := by decide +kernel
theorem dX6_year_60 : decode cX6_year 60 = .ok (.lmul, 1) := by decide +kernel
theorem dX6_year_61 : decode cX6_year 61 = .ok (.ldc2_w 238, 3) := by decide +kernel
theorem dX6_year_64 : decode cX6_year 64 = .ok (.iload 5, 2) := by decide +kernel
theorem dX6_year_66 : decode cX6_year 66 = .ok (.i2l, 1) := by decide +kernel
theorem dX6_year_67 : decode cX6_year 67 = .ok (.lmul, 1) := by decide +kernel
theorem dX6_year_68 : decode cX6_year 68 = .ok (.ladd, 1) := by decide +kernel
theorem dX6_year_69 : decode cX6_year 69 = .ok (.lconst 1, 1) := by decide +kernel
theorem dX6_year_70 : decode cX6_year 70 = .ok (.ladd, 1) := by decide +kernel
theorem dX6_year_71 : decode cX6_year 71 = .ok (.lstore 6, 2) := by decide +kernel
theorem dX6_year_73 : decode cX6_year 73 = .ok (.aload_n 0, 1) := by decide +kernel
theorem dX6_year_74 : decode cX6_year 74 = .ok (.lload 6, 2) := by decide +kernel
theorem dX6_year_76 : decode cX6_year 76 = .ok (.lload 6, 2) := by decide +kernel
theorem dX6_year_78 : decode cX6_year 78 = .ok (.lmul, 1) := by decide +kernel
theorem dX6_year_79 : decode cX6_year 79 = .ok (.ldc2_w 240, 3) := by decide +kernel
theorem dX6_year_82 : decode cX6_year 82 = .ok (.lrem, 1) := by decide +kernel
theorem dX6_year_83 : decode cX6_year 83 = .ok (.l2i, 1) := by decide +kernel
theorem dX6_year_84 : decode cX6_year 84 = .ok (.invokevirtual 242, 3) := by decide +kernel
theorem dX6_year_87 : decode cX6_year 87 = .ok (.aload_n 0, 1) := by decide +kernel
theorem dX6_year_88 : decode cX6_year 88 = .ok (.aload_n 0, 1) := by decide +kernel
theorem dX6_year_89 : decode cX6_year 89 = .ok (.bipush 11, 2) := by decide +kernel
theorem dX6_year_91 : decode cX6_year 91 = .ok (.iconst 1, 1) := by decide +kernel
theorem dX6_year_92 : decode cX6_year 92 = .ok (.iconst (-1), 1) := by decide +kernel
theorem dX6_year_93 : decode cX6_year 93 = .ok (.invokevirtual 192, 3) := by decide +kernel
theorem dX6_year_96 : decode cX6_year 96 = .ok (.invokevirtual 196, 3) := by decide +kernel
theorem dX6_year_99 : decode cX6_year 99 = .ok (.iload 4, 2) := by decide +kernel
theorem dX6_year_101 : decode cX6_year 101 = .ok (.aload_n 0, 1) := by decide +kernel
theorem dX6_year_102 : decode cX6_year 102 = .ok (.bipush 11, 2) := by decide +kernel
theorem dX6_year_104 : decode cX6_year 104 = .ok (.invokevirtual 202, 3) := by decide +kernel
theorem dX6_year_107 : decode cX6_year 107 = .ok (.ifCond .ne 7, 3) := by decide +kernel
theorem dX6_year_110 : decode cX6_year 110 = .ok (.iconst 1, 1) := by decide +kernel
theorem dX6_year_111 : decode cX6_year 111 = .ok (.goto 4, 3) := by decide +kernel
theorem dX6_year_114 : decode cX6_year 114 = .ok (.iconst 0, 1) := by decide +kernel
theorem dX6_year_115 : decode cX6_year 115 = .ok (.iadd, 1) := by decide +kernel
theorem dX6_year_116 : decode cX6_year 116 = .ok (.istore 4, 2) := by decide +kernel
theorem dX6_year_118 : decode cX6_year 118 = .ok (.iinc 5 1, 3) := by decide +kernel
theorem dX6_year_121 : decode cX6_year 121 = .ok (.goto (-72), 3) := by decide +kernel
theorem dX6_year_124 : decode cX6_year 124 = .ok (.iload_n 3, 1) := by decide +kernel
theorem dX6_year_125 : decode cX6_year 125 = .ok (.ifCond .ne 8, 3) := by decide +kernel
theorem dX6_year_128 : decode cX6_year 128 = .ok (.iload 4, 2) := by decide +kernel
theorem dX6_year_130 : decode cX6_year 130 = .ok (.goto 11, 3) := by decide +kernel
theorem dX6_year_133 : decode cX6_year 133 = .ok (.aload_n 0, 1) := by decide +kernel
theorem dX6_year_134 : decode cX6_year 134 = .ok (.getfield 33, 3) := by decide +kernel
theorem dX6_year_137 : decode cX6_year 137 = .ok (.sipush 618, 3) := by decide +kernel
theorem dX6_year_140 : decode cX6_year 140 = .ok (.iaload, 1) := by decide +kernel
theorem dX6_year_141 : decode cX6_year 141 = .ok (.ireturn, 1) := by decide +kernel
theorem dX6_keep_0 : decode cX6_keep 0 = .ok (.aload_n 0, 1) := by decide +kernel
theorem dX6_keep_1 : decode cX6_keep 1 = .ok (.getfield 109, 3) := by decide +kernel
theorem dX6_keep_4 : decode cX6_keep 4 = .ok (.iconst 2, 1) := by decide +kernel
theorem dX6_keep_5 : decode cX6_keep 5 = .ok (.if_icmp .ne 6, 3) := by decide +kernel
theorem dX6_keep_8 : decode cX6_keep 8 = .ok (.bipush (-3), 2) := by decide +kernel
theorem dX6_keep_10 : decode cX6_keep 10 = .ok (.ireturn, 1) := by decide +kernel
theorem dX6_keep_11 : decode cX6_keep 11 = .ok (.aload_n 0, 1) := by decide +kernel
theorem dX6_keep_12 : decode cX6_keep 12 = .ok (.dup, 1) := by decide +kernel
theorem dX6_keep_13 : decode cX6_keep 13 = .ok (.getfield 109, 3) := by decide +kernel
theorem dX6_keep_16 : decode cX6_keep 16 = .ok (.iconst 1, 1) := by decide +kernel
theorem dX6_keep_17 : decode cX6_keep 17 = .ok (.iadd, 1) := by decide +kernel
theorem dX6_keep_18 : decode cX6_keep 18 = .ok (.putfield 109, 3) := by decide +kernel
theorem dX6_keep_21 : decode cX6_keep 21 = .ok (.aload_n 0, 1) := by decide +kernel
theorem dX6_keep_22 : decode cX6_keep 22 = .ok (.iconst 0, 1) := by decide +kernel
theorem dX6_keep_23 : decode cX6_keep 23 = .ok (.aload_n 0, 1) := by decide +kernel
theorem dX6_keep_24 : decode cX6_keep 24 = .ok (.getfield 109, 3) := by decide +kernel
theorem dX6_keep_27 : decode cX6_keep 27 = .ok (.invokevirtual 139, 3) := by decide +kernel
theorem dX6_keep_30 : decode cX6_keep 30 = .ok (.aload_n 0, 1) := by decide +kernel
theorem dX6_keep_31 : decode cX6_keep 31 = .ok (.getfield 109, 3) := by decide +kernel
theorem dX6_keep_34 : decode cX6_keep 34 = .ok (.ireturn, 1) := by decide +kernel
theorem dX6_back_0 : decode cX6_back 0 = .ok (.aload_n 0, 1) := by decide +kernel
theorem dX6_back_1 : decode cX6_back 1 = .ok (.getfield 109, 3) := by decide +kernel
theorem dX6_back_4 : decode cX6_back 4 = .ok (.ifCond .ne 6, 3) := by decide +kernel
theorem dX6_back_7 : decode cX6_back 7 = .ok (.bipush (-2), 2) := by decide +kernel
theorem dX6_back_9 : decode cX6_back 9 = .ok (.ireturn, 1) := by decide +kernel
theorem dX6_back_10 : decode cX6_back 10 = .ok (.aload_n 0, 1) := by decide +kernel
theorem dX6_back_11 : decode cX6_back 11 = .ok (.aload_n 0, 1) := by decide +kernel
theorem dX6_back_12 : decode cX6_back 12 = .ok (.getfield 109, 3) := by decide +kernel
theorem dX6_back_15 : decode cX6_back 15 = .ok (.iconst 0, 1) := by decide +kernel
theorem dX6_back_16 : decode cX6_back 16 = .ok (.invokevirtual 139, 3) := by decide +kernel
theorem dX6_back_19 : decode cX6_back 19 = .ok (.aload_n 0, 1) := by decide +kernel
theorem dX6_back_20 : decode cX6_back 20 = .ok (.dup, 1) := by decide +kernel
theorem dX6_back_21 : decode cX6_back 21 = .ok (.getfield 109, 3) := by decide +kernel
theorem dX6_back_24 : decode cX6_back 24 = .ok (.iconst 1, 1) := by decide +kernel
theorem dX6_back_25 : decode cX6_back 25 = .ok (.isub, 1) := by decide +kernel
theorem dX6_back_26 : decode cX6_back 26 = .ok (.putfield 109, 3) := by decide +kernel
theorem dX6_back_29 : decode cX6_back 29 = .ok (.aload_n 0, 1) := by decide +kernel
theorem dX6_back_30 : decode cX6_back 30 = .ok (.iconst 0, 1) := by decide +kernel
theorem dX6_back_31 : decode cX6_back 31 = .ok (.putfield 106, 3) := by decide +kernel
theorem dX6_back_34 : decode cX6_back 34 = .ok (.aload_n 0, 1) := by decide +kernel
theorem dX6_back_35 : decode cX6_back 35 = .ok (.getfield 109, 3) := by decide +kernel
theorem dX6_back_38 : decode cX6_back 38 = .ok (.ireturn, 1) := by decide +kernel
theorem dX6_count_0 : decode cX6_count 0 = .ok (.iload_n 1, 1) := by decide +kernel
theorem dX6_count_1 : decode cX6_count 1 = .ok (.i2l, 1) := by decide +kernel
theorem dX6_count_2 : decode cX6_count 2 = .ok (.lconst 0, 1) := by decide +kernel
theorem dX6_count_3 : decode cX6_count 3 = .ok (.ldc2_w 245, 3) := by decide +kernel
theorem dX6_count_6 : decode cX6_count 6 = .ok (.invokestatic 52, 3) := by decide +kernel
theorem dX6_count_9 : decode cX6_count 9 = .ok (.ifCond .ne 5, 3) := by decide +kernel
theorem dX6_count_12 : decode cX6_count 12 = .ok (.iconst (-1), 1) := by decide +kernel
theorem dX6_count_13 : decode cX6_count 13 = .ok (.ireturn, 1) := by decide +kernel
theorem dX6_count_14 : decode cX6_count 14 = .ok (.iload_n 1, 1) := by decide +kernel
theorem dX6_count_15 : decode cX6_count 15 = .ok (.iconst 5, 1) := by decide +kernel
theorem dX6_count_16 : decode cX6_count 16 = .ok (.if_icmp .ge 10, 3) := by decide +kernel
theorem dX6_count_19 : decode cX6_count 19 = .ok (.aload_n 0, 1) := by decide +kernel
theorem dX6_count_20 : decode cX6_count 20 = .ok (.getfield 13, 3) := by decide +kernel
theorem dX6_count_23 : decode cX6_count 23 = .ok (.iload_n 1, 1) := by decide +kernel
theorem dX6_count_24 : decode cX6_count 24 = .ok (.iaload, 1) := by decide +kernel
theorem dX6_count_25 : decode cX6_count 25 = .ok (.ireturn, 1) := by decide +kernel
theorem dX6_count_26 : decode cX6_count 26 = .ok (.iload_n 1, 1) := by decide +kernel
theorem dX6_count_27 : decode cX6_count 27 = .ok (.tableswitch 73 5 10 #[37, 42, 49, 56, 63, 68], 37) := by decide +kernel
theorem dX6_count_64 : decode cX6_count 64 = .ok (.aload_n 0, 1) := by decide +kernel
theorem dX6_count_65 : decode cX6_count 65 = .ok (.getfield 95, 3) := by decide +kernel
theorem dX6_count_68 : decode cX6_count 68 = .ok (.ireturn, 1) := by decide +kernel
theorem dX6_count_69 : decode cX6_count 69 = .ok (.aload_n 0, 1) := by decide +kernel
theorem dX6_count_70 : decode cX6_count 70 = .ok (.getfield 33, 3) := by decide +kernel
theorem dX6_count_73 : decode cX6_count 73 = .ok (.iconst 0, 1) := by decide +kernel
theorem dX6_count_74 : decode cX6_count 74 = .ok (.iaload, 1) := by decide +kernel
theorem dX6_count_75 : decode cX6_count 75 = .ok (.ireturn, 1) := by decide +kernel
theorem dX6_count_76 : decode cX6_count 76 = .ok (.aload_n 0, 1) := by decide +kernel
theorem dX6_count_77 : decode cX6_count 77 = .ok (.getfield 33, 3) := by decide +kernel
theorem dX6_count_80 : decode cX6_count 80 = .ok (.iconst 2, 1) := by decide +kernel
theorem dX6_count_81 : decode cX6_count 81 = .ok (.iaload, 1) := by decide +kernel
theorem dX6_count_82 : decode cX6_count 82 = .ok (.ireturn, 1) := by decide +kernel
theorem dX6_count_83 : decode cX6_count 83 = .ok (.aload_n 0, 1) := by decide +kernel
theorem dX6_count_84 : decode cX6_count 84 = .ok (.getfield 33, 3) := by decide +kernel
theorem dX6_count_87 : decode cX6_count 87 = .ok (.iconst 1, 1) := by decide +kernel
theorem dX6_count_88 : decode cX6_count 88 = .ok (.iaload, 1) := by decide +kernel
theorem dX6_count_89 : decode cX6_count 89 = .ok (.ireturn, 1) := by decide +kernel
theorem dX6_count_90 : decode cX6_count 90 = .ok (.aload_n 0, 1) := by decide +kernel
theorem dX6_count_91 : decode cX6_count 91 = .ok (.getfield 106, 3) := by decide +kernel
theorem dX6_count_94 : decode cX6_count 94 = .ok (.ireturn, 1) := by decide +kernel
theorem dX6_count_95 : decode cX6_count 95 = .ok (.aload_n 0, 1) := by decide +kernel
theorem dX6_count_96 : decode cX6_count 96 = .ok (.getfield 109, 3) := by decide +kernel
theorem dX6_count_99 : decode cX6_count 99 = .ok (.ireturn, 1) := by decide +kernel
theorem dX6_count_100 : decode cX6_count 100 = .ok (.aload_n 0, 1) := by decide +kernel
theorem dX6_count_101 : decode cX6_count 101 = .ok (.getfield 56, 3) := by decide +kernel
theorem dX6_count_104 : decode cX6_count 104 = .ok (.ireturn, 1) := by decide +kernel
theorem dJ6_bitCount_0f7a4_0 : decode cJ6_bitCount_0f7a4 0 = .ok (.iload_n 0, 1) := by decide +kernel
theorem dJ6_bitCount_0f7a4_1 : decode cJ6_bitCount_0f7a4 1 = .ok (.iload_n 0, 1) := by decide +kernel
theorem dJ6_bitCount_0f7a4_2 : decode cJ6_bitCount_0f7a4 2 = .ok (.iconst 1, 1) := by decide +kernel
theorem dJ6_bitCount_0f7a4_3 : decode cJ6_bitCount_0f7a4 3 = .ok (.iushr, 1) := by decide +kernel
theorem dJ6_bitCount_0f7a4_4 : decode cJ6_bitCount_0f7a4 4 = .ok (.ldc_w 265, 3) := by decide +kernel
theorem dJ6_bitCount_0f7a4_7 : decode cJ6_bitCount_0f7a4 7 = .ok (.iand, 1) := by decide +kernel
theorem dJ6_bitCount_0f7a4_8 : decode cJ6_bitCount_0f7a4 8 = .ok (.isub, 1) := by decide +kernel
theorem dJ6_bitCount_0f7a4_9 : decode cJ6_bitCount_0f7a4 9 = .ok (.istore_n 0, 1) := by decide +kernel
theorem dJ6_bitCount_0f7a4_10 : decode cJ6_bitCount_0f7a4 10 = .ok (.iload_n 0, 1) := by decide +kernel
theorem dJ6_bitCount_0f7a4_11 : decode cJ6_bitCount_0f7a4 11 = .ok (.ldc_w 266, 3) := by decide +kernel
theorem dJ6_bitCount_0f7a4_14 : decode cJ6_bitCount_0f7a4 14 = .ok (.iand, 1) := by decide +kernel
theorem dJ6_bitCount_0f7a4_15 : decode cJ6_bitCount_0f7a4 15 = .ok (.iload_n 0, 1) := by decide +kernel
theorem dJ6_bitCount_0f7a4_16 : decode cJ6_bitCount_0f7a4 16 = .ok (.iconst 2, 1) := by decide +kernel
theorem dJ6_bitCount_0f7a4_17 : decode cJ6_bitCount_0f7a4 17 = .ok (.iushr, 1) := by decide +kernel
theorem dJ6_bitCount_0f7a4_18 : decode cJ6_bitCount_0f7a4 18 = .ok (.ldc_w 266, 3) := by decide +kernel
theorem dJ6_bitCount_0f7a4_21 : decode cJ6_bitCount_0f7a4 21 = .ok (.iand, 1) := by decide +kernel
theorem dJ6_bitCount_0f7a4_22 : decode cJ6_bitCount_0f7a4 22 = .ok (.iadd, 1) := by decide +kernel
theorem dJ6_bitCount_0f7a4_23 : decode cJ6_bitCount_0f7a4 23 = .ok (.istore_n 0, 1) := by decide +kernel
theorem dJ6_bitCount_0f7a4_24 : decode cJ6_bitCount_0f7a4 24 = .ok (.iload_n 0, 1) := by decide +kernel
theorem dJ6_bitCount_0f7a4_25 : decode cJ6_bitCount_0f7a4 25 = .ok (.iload_n 0, 1) := by decide +kernel
theorem dJ6_bitCount_0f7a4_26 : decode cJ6_bitCount_0f7a4 26 = .ok (.iconst 4, 1) := by decide +kernel
theorem dJ6_bitCount_0f7a4_27 : decode cJ6_bitCount_0f7a4 27 = .ok (.iushr, 1) := by decide +kernel
theorem dJ6_bitCount_0f7a4_28 : decode cJ6_bitCount_0f7a4 28 = .ok (.iadd, 1) := by decide +kernel
theorem dJ6_bitCount_0f7a4_29 : decode cJ6_bitCount_0f7a4 29 = .ok (.ldc_w 267, 3) := by decide +kernel
theorem dJ6_bitCount_0f7a4_32 : decode cJ6_bitCount_0f7a4 32 = .ok (.iand, 1) := by decide +kernel
theorem dJ6_bitCount_0f7a4_33 : decode cJ6_bitCount_0f7a4 33 = .ok (.istore_n 0, 1) := by decide +kernel
theorem dJ6_bitCount_0f7a4_34 : decode cJ6_bitCount_0f7a4 34 = .ok (.iload_n 0, 1) := by decide +kernel
theorem dJ6_bitCount_0f7a4_35 : decode cJ6_bitCount_0f7a4 35 = .ok (.iload_n 0, 1) := by decide +kernel
theorem dJ6_bitCount_0f7a4_36 : decode cJ6_bitCount_0f7a4 36 = .ok (.bipush 8, 2) := by decide +kernel
theorem dJ6_bitCount_0f7a4_38 : decode cJ6_bitCount_0f7a4 38 = .ok (.iushr, 1) := by decide +kernel
theorem dJ6_bitCount_0f7a4_39 : decode cJ6_bitCount_0f7a4 39 = .ok (.iadd, 1) := by decide +kernel
theorem dJ6_bitCount_0f7a4_40 : decode cJ6_bitCount_0f7a4 40 = .ok (.istore_n 0, 1) := by decide +kernel
theorem dJ6_bitCount_0f7a4_41 : decode cJ6_bitCount_0f7a4 41 = .ok (.iload_n 0, 1) := by decide +kernel
theorem dJ6_bitCount_0f7a4_42 : decode cJ6_bitCount_0f7a4 42 = .ok (.iload_n 0, 1) := by decide +kernel
theorem dJ6_bitCount_0f7a4_43 : decode cJ6_bitCount_0f7a4 43 = .ok (.bipush 16, 2) := by decide +kernel
theorem dJ6_bitCount_0f7a4_45 : decode cJ6_bitCount_0f7a4 45 = .ok (.iushr, 1) := by decide +kernel
theorem dJ6_bitCount_0f7a4_46 : decode cJ6_bitCount_0f7a4 46 = .ok (.iadd, 1) := by decide +kernel
theorem dJ6_bitCount_0f7a4_47 : decode cJ6_bitCount_0f7a4 47 = .ok (.istore_n 0, 1) := by decide +kernel
theorem dJ6_bitCount_0f7a4_48 : decode cJ6_bitCount_0f7a4 48 = .ok (.iload_n 0, 1) := by decide +kernel
theorem dJ6_bitCount_0f7a4_49 : decode cJ6_bitCount_0f7a4 49 = .ok (.bipush 63, 2) := by decide +kernel
theorem dJ6_bitCount_0f7a4_51 : decode cJ6_bitCount_0f7a4 51 = .ok (.iand, 1) := by decide +kernel
theorem dJ6_bitCount_0f7a4_52 : decode cJ6_bitCount_0f7a4 52 = .ok (.ireturn, 1) := by decide +kernel
theorem dJ9_max_7cf53_0 : decode cJ9_max_7cf53 0 = .ok (.iload_n 0, 1) := by decide +kernel
theorem dJ9_max_7cf53_1 : decode cJ9_max_7cf53 1 = .ok (.iload_n 1, 1) := by decide +kernel
theorem dJ9_max_7cf53_2 : decode cJ9_max_7cf53 2 = .ok (.if_icmp .lt 7, 3) := by decide +kernel
theorem dJ9_max_7cf53_5 : decode cJ9_max_7cf53 5 = .ok (.iload_n 0, 1) := by decide +kernel
theorem dJ9_max_7cf53_6 : decode cJ9_max_7cf53 6 = .ok (.goto 4, 3) := by decide +kernel
theorem dJ9_max_7cf53_9 : decode cJ9_max_7cf53 9 = .ok (.iload_n 1, 1) := by decide +kernel
theorem dJ9_max_7cf53_10 : decode cJ9_max_7cf53 10 = .ok (.ireturn, 1) := by decide +kernel
theorem dJ9_min_7cf53_0 : decode cJ9_min_7cf53 0 = .ok (.iload_n 0, 1) := by decide +kernel
theorem dJ9_min_7cf53_1 : decode cJ9_min_7cf53 1 = .ok (.iload_n 1, 1) := by decide +kernel
theorem dJ9_min_7cf53_2 : decode cJ9_min_7cf53 2 = .ok (.if_icmp .gt 7, 3) := by decide +kernel
theorem dJ9_min_7cf53_5 : decode cJ9_min_7cf53 5 = .ok (.iload_n 0, 1) := by decide +kernel
theorem dJ9_min_7cf53_6 : decode cJ9_min_7cf53 6 = .ok (.goto 4, 3) := by decide +kernel
theorem dJ9_min_7cf53_9 : decode cJ9_min_7cf53 9 = .ok (.iload_n 1, 1) := by decide +kernel
theorem dJ9_min_7cf53_10 : decode cJ9_min_7cf53 10 = .ok (.ireturn, 1) := by decide +kernel
theorem dJ0_length_8abf5_0 : decode cJ0_length_8abf5 0 = .ok (.aload_n 0, 1) := by decide +kernel
theorem dJ0_length_8abf5_1 : decode cJ0_length_8abf5 1 = .ok (.getfield 9, 3) := by decide +kernel
theorem dJ0_length_8abf5_4 : decode cJ0_length_8abf5 4 = .ok (.arraylength, 1) := by decide +kernel
theorem dJ0_length_8abf5_5 : decode cJ0_length_8abf5 5 = .ok (.aload_n 0, 1) := by decide +kernel
theorem dJ0_length_8abf5_6 : decode cJ0_length_8abf5 6 = .ok (.invokevirtual 335, 3) := by decide +kernel
theorem dJ0_length_8abf5_9 : decode cJ0_length_8abf5 9 = .ok (.ishr, 1) := by decide +kernel
theorem dJ0_length_8abf5_10 : decode cJ0_length_8abf5 10 = .ok (.ireturn, 1) := by decide +kernel
theorem dJ0_charAt_5068e_0 : decode cJ0_charAt_5068e 0 = .ok (.aload_n 0, 1) := by decide +kernel
theorem dJ0_charAt_5068e_1 : decode cJ0_charAt_5068e 1 = .ok (.invokevirtual 492, 3) := by decide +kernel
theorem dJ0_charAt_5068e_4 : decode cJ0_charAt_5068e 4 = .ok (.ifCond .eq 12, 3) := by decide +kernel
theorem dJ0_charAt_5068e_7 : decode cJ0_charAt_5068e 7 = .ok (.aload_n 0, 1) := by decide +kernel
theorem dJ0_charAt_5068e_8 : decode cJ0_charAt_5068e 8 = .ok (.getfield 9, 3) := by decide +kernel
theorem dJ0_charAt_5068e_11 : decode cJ0_charAt_5068e 11 = .ok (.iload_n 1, 1) := by decide +kernel
theorem dJ0_charAt_5068e_12 : decode cJ0_charAt_5068e 12 = .ok (.invokestatic 495, 3) := by decide +kernel
theorem dJ0_charAt_5068e_15 : decode cJ0_charAt_5068e 15 = .ok (.ireturn, 1) := by decide +kernel
theorem dJ0_charAt_5068e_16 : decode cJ0_charAt_5068e 16 = .ok (.aload_n 0, 1) := by decide +kernel
theorem dJ0_charAt_5068e_17 : decode cJ0_charAt_5068e 17 = .ok (.getfield 9, 3) := by decide +kernel
theorem dJ0_charAt_5068e_20 : decode cJ0_charAt_5068e 20 = .ok (.iload_n 1, 1) := by decide +kernel
theorem dJ0_charAt_5068e_21 : decode cJ0_charAt_5068e 21 = .ok (.invokestatic 498, 3) := by decide +kernel
theorem dJ0_charAt_5068e_24 : decode cJ0_charAt_5068e 24 = .ok (.ireturn, 1) := by decide +kernel
theorem dJ0_coder_7d493_0 : decode cJ0_coder_7d493 0 = .ok (.getstatic 38, 3) := by decide +kernel
theorem dJ0_coder_7d493_3 : decode cJ0_coder_7d493 3 = .ok (.ifCond .eq 10, 3) := by decide +kernel
theorem dJ0_coder_7d493_6 : decode cJ0_coder_7d493 6 = .ok (.aload_n 0, 1) := by decide +kernel
theorem dJ0_coder_7d493_7 : decode cJ0_coder_7d493 7 = .ok (.getfield 15, 3) := by decide +kernel
theorem dJ0_coder_7d493_10 : decode cJ0_coder_7d493 10 = .ok (.goto 4, 3) := by decide +kernel
theorem dJ0_coder_7d493_13 : decode cJ0_coder_7d493 13 = .ok (.iconst 1, 1) := by decide +kernel
theorem dJ0_coder_7d493_14 : decode cJ0_coder_7d493 14 = .ok (.ireturn, 1) := by decide +kernel
theorem dJ0_isLatin1_aae02_0 : decode cJ0_isLatin1_aae02 0 = .ok (.getstatic 38, 3) := by decide +kernel
theorem dJ0_isLatin1_aae02_3 : decode cJ0_isLatin1_aae02 3 = .ok (.ifCond .eq 14, 3) := by decide +kernel
theorem dJ0_isLatin1_aae02_6 : decode cJ0_isLatin1_aae02 6 = .ok (.aload_n 0, 1) := by decide +kernel
theorem dJ0_isLatin1_aae02_7 : decode cJ0_isLatin1_aae02 7 = .ok (.getfield 15, 3) := by decide +kernel
theorem dJ0_isLatin1_aae02_10 : decode cJ0_isLatin1_aae02 10 = .ok (.ifCond .ne 7, 3) := by decide +kernel
theorem dJ0_isLatin1_aae02_13 : decode cJ0_isLatin1_aae02 13 = .ok (.iconst 1, 1) := by decide +kernel
theorem dJ0_isLatin1_aae02_14 : decode cJ0_isLatin1_aae02 14 = .ok (.goto 4, 3) := by decide +kernel
theorem dJ0_isLatin1_aae02_17 : decode cJ0_isLatin1_aae02 17 = .ok (.iconst 0, 1) := by decide +kernel
theorem dJ0_isLatin1_aae02_18 : decode cJ0_isLatin1_aae02 18 = .ok (.ireturn, 1) := by decide +kernel
theorem dJ0_checkIndex_df160_0 : decode cJ0_checkIndex_df160 0 = .ok (.iload_n 0, 1) := by decide +kernel
theorem dJ0_checkIndex_df160_1 : decode cJ0_checkIndex_df160 1 = .ok (.iload_n 1, 1) := by decide +kernel
theorem dJ0_checkIndex_df160_2 : decode cJ0_checkIndex_df160 2 = .ok (.getstatic 1053, 3) := by decide +kernel
theorem dJ0_checkIndex_df160_5 : decode cJ0_checkIndex_df160 5 = .ok (.invokestatic 1059, 3) := by decide +kernel
theorem dJ0_checkIndex_df160_8 : decode cJ0_checkIndex_df160 8 = .ok (.pop, 1) := by decide +kernel
theorem dJ0_checkIndex_df160_9 : decode cJ0_checkIndex_df160 9 = .ok (.return_, 1) := by decide +kernel
theorem dJ1_charAt_3b067_0 : decode cJ1_charAt_3b067 0 = .ok (.iload_n 1, 1) := by decide +kernel
theorem dJ1_charAt_3b067_1 : decode cJ1_charAt_3b067 1 = .ok (.aload_n 0, 1) := by decide +kernel
theorem dJ1_charAt_3b067_2 : decode cJ1_charAt_3b067 2 = .ok (.arraylength, 1) := by decide +kernel
theorem dJ1_charAt_3b067_3 : decode cJ1_charAt_3b067 3 = .ok (.invokestatic 9, 3) := by decide +kernel
theorem dJ1_charAt_3b067_6 : decode cJ1_charAt_3b067 6 = .ok (.aload_n 0, 1) := by decide +kernel
theorem dJ1_charAt_3b067_7 : decode cJ1_charAt_3b067 7 = .ok (.iload_n 1, 1) := by decide +kernel
theorem dJ1_charAt_3b067_8 : decode cJ1_charAt_3b067 8 = .ok (.baload, 1) := by decide +kernel
theorem dJ1_charAt_3b067_9 : decode cJ1_charAt_3b067 9 = .ok (.sipush 255, 3) := by decide +kernel
theorem dJ1_charAt_3b067_12 : decode cJ1_charAt_3b067 12 = .ok (.iand, 1) := by decide +kernel
theorem dJ1_charAt_3b067_13 : decode cJ1_charAt_3b067 13 = .ok (.i2c, 1) := by decide +kernel
theorem dJ1_charAt_3b067_14 : decode cJ1_charAt_3b067 14 = .ok (.ireturn, 1) := by decide +kernel
theorem dJ2_getChar_3b067_0 : decode cJ2_getChar_3b067 0 = .ok (.getstatic 44, 3) := by decide +kernel
theorem dJ2_getChar_3b067_3 : decode cJ2_getChar_3b067 3 = .ok (.ifCond .ne 25, 3) := by decide +kernel
theorem dJ2_getChar_3b067_6 : decode cJ2_getChar_3b067 6 = .ok (.iload_n 1, 1) := by decide +kernel
theorem dJ2_getChar_3b067_7 : decode cJ2_getChar_3b067 7 = .ok (.ifCond .lt 11, 3) := by decide +kernel
theorem dJ2_getChar_3b067_10 : decode cJ2_getChar_3b067 10 = .ok (.iload_n 1, 1) := by decide +kernel
theorem dJ2_getChar_3b067_11 : decode cJ2_getChar_3b067 11 = .ok (.aload_n 0, 1) := by decide +kernel
theorem dJ2_getChar_3b067_12 : decode cJ2_getChar_3b067 12 = .ok (.invokestatic 48, 3) := by decide +kernel
theorem dJ2_getChar_3b067_15 : decode cJ2_getChar_3b067 15 = .ok (.if_icmp .lt 13, 3) := by decide +kernel
theorem dJ2_getChar_3b067_18 : decode cJ2_getChar_3b067 18 = .ok (.new 52, 3) := by decide +kernel
theorem dJ2_getChar_3b067_21 : decode cJ2_getChar_3b067 21 = .ok (.dup, 1) := by decide +kernel
theorem dJ2_getChar_3b067_22 : decode cJ2_getChar_3b067 22 = .ok (.ldc 54, 2) := by decide +kernel
theorem dJ2_getChar_3b067_24 : decode cJ2_getChar_3b067 24 = .ok (.invokespecial 56, 3) := by decide +kernel
theorem dJ2_getChar_3b067_27 : decode cJ2_getChar_3b067 27 = .ok (.athrow, 1) := by decide +kernel
theorem dJ2_getChar_3b067_28 : decode cJ2_getChar_3b067 28 = .ok (.iload_n 1, 1) := by decide +kernel
theorem dJ2_getChar_3b067_29 : decode cJ2_getChar_3b067 29 = .ok (.iconst 1, 1) := by decide +kernel
theorem dJ2_getChar_3b067_30 : decode cJ2_getChar_3b067 30 = .ok (.ishl, 1) := by decide +kernel
theorem dJ2_getChar_3b067_31 : decode cJ2_getChar_3b067 31 = .ok (.istore_n 1, 1) := by decide +kernel
theorem dJ2_getChar_3b067_32 : decode cJ2_getChar_3b067 32 = .ok (.aload_n 0, 1) := by decide +kernel
theorem dJ2_getChar_3b067_33 : decode cJ2_getChar_3b067 33 = .ok (.iload_n 1, 1) := by decide +kernel
theorem dJ2_getChar_3b067_34 : decode cJ2_getChar_3b067 34 = .ok (.iinc 1 1, 3) := by decide +kernel
theorem dJ2_getChar_3b067_37 : decode cJ2_getChar_3b067 37 = .ok (.baload, 1) := by decide +kernel
theorem dJ2_getChar_3b067_38 : decode cJ2_getChar_3b067 38 = .ok (.sipush 255, 3) := by decide +kernel
theorem dJ2_getChar_3b067_41 : decode cJ2_getChar_3b067 41 = .ok (.iand, 1) := by decide +kernel
theorem dJ2_getChar_3b067_42 : decode cJ2_getChar_3b067 42 = .ok (.getstatic 59, 3) := by decide +kernel
theorem dJ2_getChar_3b067_45 : decode cJ2_getChar_3b067 45 = .ok (.ishl, 1) := by decide +kernel
theorem dJ2_getChar_3b067_46 : decode cJ2_getChar_3b067 46 = .ok (.aload_n 0, 1) := by decide +kernel
theorem dJ2_getChar_3b067_47 : decode cJ2_getChar_3b067 47 = .ok (.iload_n 1, 1) := by decide +kernel
theorem dJ2_getChar_3b067_48 : decode cJ2_getChar_3b067 48 = .ok (.baload, 1) := by decide +kernel
theorem dJ2_getChar_3b067_49 : decode cJ2_getChar_3b067 49 = .ok (.sipush 255, 3) := by decide +kernel
theorem dJ2_getChar_3b067_52 : decode cJ2_getChar_3b067 52 = .ok (.iand, 1) := by decide +kernel
theorem dJ2_getChar_3b067_53 : decode cJ2_getChar_3b067 53 = .ok (.getstatic 63, 3) := by decide +kernel
theorem dJ2_getChar_3b067_56 : decode cJ2_getChar_3b067 56 = .ok (.ishl, 1) := by decide +kernel
theorem dJ2_getChar_3b067_57 : decode cJ2_getChar_3b067 57 = .ok (.ior, 1) := by decide +kernel
theorem dJ2_getChar_3b067_58 : decode cJ2_getChar_3b067 58 = .ok (.i2c, 1) := by decide +kernel
theorem dJ2_getChar_3b067_59 : decode cJ2_getChar_3b067 59 = .ok (.ireturn, 1) := by decide +kernel
theorem dJ2_length_9d52b_0 : decode cJ2_length_9d52b 0 = .ok (.aload_n 0, 1) := by decide +kernel
theorem dJ2_length_9d52b_1 : decode cJ2_length_9d52b 1 = .ok (.arraylength, 1) := by decide +kernel
theorem dJ2_length_9d52b_2 : decode cJ2_length_9d52b 2 = .ok (.iconst 1, 1) := by decide +kernel
theorem dJ2_length_9d52b_3 : decode cJ2_length_9d52b 3 = .ok (.ishr, 1) := by decide +kernel
theorem dJ2_length_9d52b_4 : decode cJ2_length_9d52b 4 = .ok (.ireturn, 1) := by decide +kernel
theorem dJ2_charAt_3b067_0 : decode cJ2_charAt_3b067 0 = .ok (.iload_n 1, 1) := by decide +kernel
theorem dJ2_charAt_3b067_1 : decode cJ2_charAt_3b067 1 = .ok (.aload_n 0, 1) := by decide +kernel
theorem dJ2_charAt_3b067_2 : decode cJ2_charAt_3b067 2 = .ok (.invokestatic 67, 3) := by decide +kernel
theorem dJ2_charAt_3b067_5 : decode cJ2_charAt_3b067 5 = .ok (.aload_n 0, 1) := by decide +kernel
theorem dJ2_charAt_3b067_6 : decode cJ2_charAt_3b067 6 = .ok (.iload_n 1, 1) := by decide +kernel
theorem dJ2_charAt_3b067_7 : decode cJ2_charAt_3b067 7 = .ok (.invokestatic 71, 3) := by decide +kernel
theorem dJ2_charAt_3b067_10 : decode cJ2_charAt_3b067 10 = .ok (.ireturn, 1) := by decide +kernel
theorem dJ2_checkIndex_2214a_0 : decode cJ2_checkIndex_2214a 0 = .ok (.iload_n 0, 1) := by decide +kernel
theorem dJ2_checkIndex_2214a_1 : decode cJ2_checkIndex_2214a 1 = .ok (.aload_n 1, 1) := by decide +kernel
theorem dJ2_checkIndex_2214a_2 : decode cJ2_checkIndex_2214a 2 = .ok (.invokestatic 48, 3) := by decide +kernel
theorem dJ2_checkIndex_2214a_5 : decode cJ2_checkIndex_2214a 5 = .ok (.invokestatic 414, 3) := by decide +kernel
theorem dJ2_checkIndex_2214a_8 : decode cJ2_checkIndex_2214a 8 = .ok (.return_, 1) := by decide +kernel
theorem dJ3_checkIndex_8e157_0 : decode cJ3_checkIndex_8e157 0 = .ok (.iload_n 0, 1) := by decide +kernel
theorem dJ3_checkIndex_8e157_1 : decode cJ3_checkIndex_8e157 1 = .ok (.ifCond .lt 8, 3) := by decide +kernel
theorem dJ3_checkIndex_8e157_4 : decode cJ3_checkIndex_8e157 4 = .ok (.iload_n 0, 1) := by decide +kernel
theorem dJ3_checkIndex_8e157_5 : decode cJ3_checkIndex_8e157 5 = .ok (.iload_n 1, 1) := by decide +kernel
theorem dJ3_checkIndex_8e157_6 : decode cJ3_checkIndex_8e157 6 = .ok (.if_icmp .lt 10, 3) := by decide +kernel
theorem dJ3_checkIndex_8e157_9 : decode cJ3_checkIndex_8e157 9 = .ok (.aload_n 2, 1) := by decide +kernel
theorem dJ3_checkIndex_8e157_10 : decode cJ3_checkIndex_8e157 10 = .ok (.iload_n 0, 1) := by decide +kernel
theorem dJ3_checkIndex_8e157_11 : decode cJ3_checkIndex_8e157 11 = .ok (.iload_n 1, 1) := by decide +kernel
theorem dJ3_checkIndex_8e157_12 : decode cJ3_checkIndex_8e157 12 = .ok (.invokestatic 95, 3) := by decide +kernel
theorem dJ3_checkIndex_8e157_15 : decode cJ3_checkIndex_8e157 15 = .ok (.athrow, 1) := by decide +kernel
theorem dJ3_checkIndex_8e157_16 : decode cJ3_checkIndex_8e157 16 = .ok (.iload_n 0, 1) := by decide +kernel
theorem dJ3_checkIndex_8e157_17 : decode cJ3_checkIndex_8e157 17 = .ok (.ireturn, 1) := by decide +kernel
theorem dL_law_0 : decode cL_law 0 = .ok (.new 7, 3) := by decide +kernel
theorem dL_law_3 : decode cL_law 3 = .ok (.dup, 1) := by decide +kernel
theorem dL_law_4 : decode cL_law 4 = .ok (.invokespecial 9, 3) := by decide +kernel
theorem dL_law_7 : decode cL_law 7 = .ok (.astore_n 1, 1) := by decide +kernel
theorem dL_law_8 : decode cL_law 8 = .ok (.new 10, 3) := by decide +kernel
theorem dL_law_11 : decode cL_law 11 = .ok (.dup, 1) := by decide +kernel
theorem dL_law_12 : decode cL_law 12 = .ok (.invokespecial 12, 3) := by decide +kernel
theorem dL_law_15 : decode cL_law 15 = .ok (.astore_n 2, 1) := by decide +kernel
theorem dL_law_16 : decode cL_law 16 = .ok (.iconst 0, 1) := by decide +kernel
theorem dL_law_17 : decode cL_law 17 = .ok (.istore_n 3, 1) := by decide +kernel
theorem dL_law_18 : decode cL_law 18 = .ok (.iload_n 3, 1) := by decide +kernel
theorem dL_law_19 : decode cL_law 19 = .ok (.aload_n 0, 1) := by decide +kernel
theorem dL_law_20 : decode cL_law 20 = .ok (.arraylength, 1) := by decide +kernel
theorem dL_law_21 : decode cL_law 21 = .ok (.iconst 5, 1) := by decide +kernel
theorem dL_law_22 : decode cL_law 22 = .ok (.isub, 1) := by decide +kernel
theorem dL_law_23 : decode cL_law 23 = .ok (.if_icmp .gt 972, 3) := by decide +kernel
theorem dL_law_26 : decode cL_law 26 = .ok (.aload_n 0, 1) := by decide +kernel
theorem dL_law_27 : decode cL_law 27 = .ok (.iload_n 3, 1) := by decide +kernel
theorem dL_law_28 : decode cL_law 28 = .ok (.iaload, 1) := by decide +kernel
theorem dL_law_29 : decode cL_law 29 = .ok (.bipush 31, 2) := by decide +kernel
theorem dL_law_31 : decode cL_law 31 = .ok (.iand, 1) := by decide +kernel
theorem dL_law_32 : decode cL_law 32 = .ok (.tableswitch 957 0 31 #[144, 167, 180, 193, 206, 239, 272, 305, 338, 361, 384, 453, 486, 499, 512, 545, 568, 602, 625, 648, 691, 714, 727, 750, 773, 786, 819, 832, 865, 908, 921, 934], 144) := by decide +kernel
theorem dL_law_176 : decode cL_law 176 = .ok (.aload_n 1, 1) := by decide +kernel
theorem dL_law_177 : decode cL_law 177 = .ok (.aload_n 0, 1) := by decide +kernel
theorem dL_law_178 : decode cL_law 178 = .ok (.iload_n 3, 1) := by decide +kernel
theorem dL_law_179 : decode cL_law 179 = .ok (.iconst 1, 1) := by decide +kernel
theorem dL_law_180 : decode cL_law 180 = .ok (.iadd, 1) := by decide +kernel
theorem dL_law_181 : decode cL_law 181 = .ok (.iaload, 1) := by decide +kernel
theorem dL_law_182 : decode cL_law 182 = .ok (.invokevirtual 13, 3) := by decide +kernel
theorem dL_law_185 : decode cL_law 185 = .ok (.aload_n 2, 1) := by decide +kernel
theorem dL_law_186 : decode cL_law 186 = .ok (.aload_n 0, 1) := by decide +kernel
theorem dL_law_187 : decode cL_law 187 = .ok (.iload_n 3, 1) := by decide +kernel
theorem dL_law_188 : decode cL_law 188 = .ok (.iconst 1, 1) := by decide +kernel
theorem dL_law_189 : decode cL_law 189 = .ok (.iadd, 1) := by decide +kernel
theorem dL_law_190 : decode cL_law 190 = .ok (.iaload, 1) := by decide +kernel
theorem dL_law_191 : decode cL_law 191 = .ok (.invokevirtual 17, 3) := by decide +kernel
theorem dL_law_194 : decode cL_law 194 = .ok (.if_icmp .eq 795, 3) := by decide +kernel
theorem dL_law_197 : decode cL_law 197 = .ok (.iconst 0, 1) := by decide +kernel
theorem dL_law_198 : decode cL_law 198 = .ok (.ireturn, 1) := by decide +kernel
theorem dL_law_199 : decode cL_law 199 = .ok (.aload_n 1, 1) := by decide +kernel
theorem dL_law_200 : decode cL_law 200 = .ok (.invokevirtual 18, 3) := by decide +kernel
theorem dL_law_203 : decode cL_law 203 = .ok (.aload_n 2, 1) := by decide +kernel
theorem dL_law_204 : decode cL_law 204 = .ok (.invokevirtual 22, 3) := by decide +kernel
theorem dL_law_207 : decode cL_law 207 = .ok (.if_icmp .eq 782, 3) := by decide +kernel
theorem dL_law_210 : decode cL_law 210 = .ok (.iconst 0, 1) := by decide +kernel
theorem dL_law_211 : decode cL_law 211 = .ok (.ireturn, 1) := by decide +kernel
theorem dL_law_212 : decode cL_law 212 = .ok (.aload_n 1, 1) := by decide +kernel
theorem dL_law_213 : decode cL_law 213 = .ok (.invokevirtual 23, 3) := by decide +kernel
theorem dL_law_216 : decode cL_law 216 = .ok (.aload_n 2, 1) := by decide +kernel
theorem dL_law_217 : decode cL_law 217 = .ok (.invokevirtual 26, 3) := by decide +kernel
theorem dL_law_220 : decode cL_law 220 = .ok (.if_icmp .eq 769, 3) := by decide +kernel
theorem dL_law_223 : decode cL_law 223 = .ok (.iconst 0, 1) := by decide +kernel
theorem dL_law_224 : decode cL_law 224 = .ok (.ireturn, 1) := by decide +kernel
theorem dL_law_225 : decode cL_law 225 = .ok (.aload_n 1, 1) := by decide +kernel
theorem dL_law_226 : decode cL_law 226 = .ok (.invokevirtual 27, 3) := by decide +kernel
theorem dL_law_229 : decode cL_law 229 = .ok (.aload_n 2, 1) := by decide +kernel
theorem dL_law_230 : decode cL_law 230 = .ok (.invokevirtual 30, 3) := by decide +kernel
theorem dL_law_233 : decode cL_law 233 = .ok (.if_icmp .eq 756, 3) := by decide +kernel
theorem dL_law_236 : decode cL_law 236 = .ok (.iconst 0, 1) := by decide +kernel
theorem dL_law_237 : decode cL_law 237 = .ok (.ireturn, 1) := by decide +kernel
theorem dL_law_238 : decode cL_law 238 = .ok (.aload_n 1, 1) := by decide +kernel
theorem dL_law_239 : decode cL_law 239 = .ok (.aload_n 0, 1) := by decide +kernel
theorem dL_law_240 : decode cL_law 240 = .ok (.iload_n 3, 1) := by decide +kernel
theorem dL_law_241 : decode cL_law 241 = .ok (.iconst 1, 1) := by decide +kernel
theorem dL_law_242 : decode cL_law 242 = .ok (.iadd, 1) := by decide +kernel
theorem dL_law_243 : decode cL_law 243 = .ok (.iaload, 1) := by decide +kernel
theorem dL_law_244 : decode cL_law 244 = .ok (.aload_n 0, 1) := by decide +kernel
theorem dL_law_245 : decode cL_law 245 = .ok (.iload_n 3, 1) := by decide +kernel
theorem dL_law_246 : decode cL_law 246 = .ok (.iconst 2, 1) := by decide +kernel
theorem dL_law_247 : decode cL_law 247 = .ok (.iadd, 1) := by decide +kernel
theorem dL_law_248 : decode cL_law 248 = .ok (.iaload, 1) := by decide +kernel
theorem dL_law_249 : decode cL_law 249 = .ok (.invokevirtual 31, 3) := by decide +kernel
theorem dL_law_252 : decode cL_law 252 = .ok (.aload_n 2, 1) := by decide +kernel
theorem dL_law_253 : decode cL_law 253 = .ok (.aload_n 0, 1) := by decide +kernel
theorem dL_law_254 : decode cL_law 254 = .ok (.iload_n 3, 1) := by decide +kernel
theorem dL_law_255 : decode cL_law 255 = .ok (.iconst 1, 1) := by decide +kernel
theorem dL_law_256 : decode cL_law 256 = .ok (.iadd, 1) := by decide +kernel
theorem dL_law_257 : decode cL_law 257 = .ok (.iaload, 1) := by decide +kernel
theorem dL_law_258 : decode cL_law 258 = .ok (.aload_n 0, 1) := by decide +kernel
theorem dL_law_259 : decode cL_law 259 = .ok (.iload_n 3, 1) := by decide +kernel
theorem dL_law_260 : decode cL_law 260 = .ok (.iconst 2, 1) := by decide +kernel
theorem dL_law_261 : decode cL_law 261 = .ok (.iadd, 1) := by decide +kernel
theorem dL_law_262 : decode cL_law 262 = .ok (.iaload, 1) := by decide +kernel
theorem dL_law_263 : decode cL_law 263 = .ok (.invokevirtual 35, 3) := by decide +kernel
theorem dL_law_266 : decode cL_law 266 = .ok (.if_icmp .eq 723, 3) := by decide +kernel
theorem dL_law_269 : decode cL_law 269 = .ok (.iconst 0, 1) := by decide +kernel
theorem dL_law_270 : decode cL_law 270 = .ok (.ireturn, 1) := by decide +kernel
theorem dL_law_271 : decode cL_law 271 = .ok (.aload_n 1, 1) := by decide +kernel
theorem dL_law_272 : decode cL_law 272 = .ok (.aload_n 0, 1) := by decide +kernel
theorem dL_law_273 : decode cL_law 273 = .ok (.iload_n 3, 1) := by decide +kernel
theorem dL_law_274 : decode cL_law 274 = .ok (.iconst 1, 1) := by decide +kernel
theorem dL_law_275 : decode cL_law 275 = .ok (.iadd, 1) := by decide +kernel
theorem dL_law_276 : decode cL_law 276 = .ok (.iaload, 1) := by decide +kernel
theorem dL_law_277 : decode cL_law 277 = .ok (.aload_n 0, 1) := by decide +kernel
theorem dL_law_278 : decode cL_law 278 = .ok (.iload_n 3, 1) := by decide +kernel
theorem dL_law_279 : decode cL_law 279 = .ok (.iconst 2, 1) := by decide +kernel
theorem dL_law_280 : decode cL_law 280 = .ok (.iadd, 1) := by decide +kernel
theorem dL_law_281 : decode cL_law 281 = .ok (.iaload, 1) := by decide +kernel
theorem dL_law_282 : decode cL_law 282 = .ok (.invokevirtual 36, 3) := by decide +kernel
theorem dL_law_285 : decode cL_law 285 = .ok (.aload_n 2, 1) := by decide +kernel
theorem dL_law_286 : decode cL_law 286 = .ok (.aload_n 0, 1) := by decide +kernel
theorem dL_law_287 : decode cL_law 287 = .ok (.iload_n 3, 1) := by decide +kernel
theorem dL_law_288 : decode cL_law 288 = .ok (.iconst 1, 1) := by decide +kernel
theorem dL_law_289 : decode cL_law 289 = .ok (.iadd, 1) := by decide +kernel
theorem dL_law_290 : decode cL_law 290 = .ok (.iaload, 1) := by decide +kernel
theorem dL_law_291 : decode cL_law 291 = .ok (.aload_n 0, 1) := by decide +kernel
theorem dL_law_292 : decode cL_law 292 = .ok (.iload_n 3, 1) := by decide +kernel
theorem dL_law_293 : decode cL_law 293 = .ok (.iconst 2, 1) := by decide +kernel
theorem dL_law_294 : decode cL_law 294 = .ok (.iadd, 1) := by decide +kernel
theorem dL_law_295 : decode cL_law 295 = .ok (.iaload, 1) := by decide +kernel
theorem dL_law_296 : decode cL_law 296 = .ok (.invokevirtual 39, 3) := by decide +kernel
theorem dL_law_299 : decode cL_law 299 = .ok (.if_icmp .eq 690, 3) := by decide +kernel
theorem dL_law_302 : decode cL_law 302 = .ok (.iconst 0, 1) := by decide +kernel
theorem dL_law_303 : decode cL_law 303 = .ok (.ireturn, 1) := by decide +kernel
theorem dL_law_304 : decode cL_law 304 = .ok (.aload_n 1, 1) := by decide +kernel
theorem dL_law_305 : decode cL_law 305 = .ok (.aload_n 0, 1) := by decide +kernel
theorem dL_law_306 : decode cL_law 306 = .ok (.iload_n 3, 1) := by decide +kernel
theorem dL_law_307 : decode cL_law 307 = .ok (.iconst 1, 1) := by decide +kernel
theorem dL_law_308 : decode cL_law 308 = .ok (.iadd, 1) := by decide +kernel
theorem dL_law_309 : decode cL_law 309 = .ok (.iaload, 1) := by decide +kernel
theorem dL_law_310 : decode cL_law 310 = .ok (.aload_n 0, 1) := by decide +kernel
theorem dL_law_311 : decode cL_law 311 = .ok (.iload_n 3, 1) := by decide +kernel
theorem dL_law_312 : decode cL_law 312 = .ok (.iconst 2, 1) := by decide +kernel
theorem dL_law_313 : decode cL_law 313 = .ok (.iadd, 1) := by decide +kernel
theorem dL_law_314 : decode cL_law 314 = .ok (.iaload, 1) := by decide +kernel
theorem dL_law_315 : decode cL_law 315 = .ok (.invokevirtual 40, 3) := by decide +kernel
theorem dL_law_318 : decode cL_law 318 = .ok (.aload_n 2, 1) := by decide +kernel
theorem dL_law_319 : decode cL_law 319 = .ok (.aload_n 0, 1) := by decide +kernel
theorem dL_law_320 : decode cL_law 320 = .ok (.iload_n 3, 1) := by decide +kernel
theorem dL_law_321 : decode cL_law 321 = .ok (.iconst 1, 1) := by decide +kernel
theorem dL_law_322 : decode cL_law 322 = .ok (.iadd, 1) := by decide +kernel
theorem dL_law_323 : decode cL_law 323 = .ok (.iaload, 1) := by decide +kernel
theorem dL_law_324 : decode cL_law 324 = .ok (.aload_n 0, 1) := by decide +kernel
theorem dL_law_325 : decode cL_law 325 = .ok (.iload_n 3, 1) := by decide +kernel
theorem dL_law_326 : decode cL_law 326 = .ok (.iconst 2, 1) := by decide +kernel
theorem dL_law_327 : decode cL_law 327 = .ok (.iadd, 1) := by decide +kernel
theorem dL_law_328 : decode cL_law 328 = .ok (.iaload, 1) := by decide +kernel
theorem dL_law_329 : decode cL_law 329 = .ok (.invokevirtual 43, 3) := by decide +kernel
theorem dL_law_332 : decode cL_law 332 = .ok (.if_icmp .eq 657, 3) := by decide +kernel
theorem dL_law_335 : decode cL_law 335 = .ok (.iconst 0, 1) := by decide +kernel
theorem dL_law_336 : decode cL_law 336 = .ok (.ireturn, 1) := by decide +kernel
theorem dL_law_337 : decode cL_law 337 = .ok (.aload_n 1, 1) := by decide +kernel
theorem dL_law_338 : decode cL_law 338 = .ok (.aload_n 0, 1) := by decide +kernel
theorem dL_law_339 : decode cL_law 339 = .ok (.iload_n 3, 1) := by decide +kernel
theorem dL_law_340 : decode cL_law 340 = .ok (.iconst 1, 1) := by decide +kernel
theorem dL_law_341 : decode cL_law 341 = .ok (.iadd, 1) := by decide +kernel
theorem dL_law_342 : decode cL_law 342 = .ok (.iaload, 1) := by decide +kernel
theorem dL_law_343 : decode cL_law 343 = .ok (.aload_n 0, 1) := by decide +kernel
theorem dL_law_344 : decode cL_law 344 = .ok (.iload_n 3, 1) := by decide +kernel
theorem dL_law_345 : decode cL_law 345 = .ok (.iconst 2, 1) := by decide +kernel
theorem dL_law_346 : decode cL_law 346 = .ok (.iadd, 1) := by decide +kernel
theorem dL_law_347 : decode cL_law 347 = .ok (.iaload, 1) := by decide +kernel
theorem dL_law_348 : decode cL_law 348 = .ok (.invokevirtual 44, 3) := by decide +kernel
theorem dL_law_351 : decode cL_law 351 = .ok (.aload_n 2, 1) := by decide +kernel
theorem dL_law_352 : decode cL_law 352 = .ok (.aload_n 0, 1) := by decide +kernel
theorem dL_law_353 : decode cL_law 353 = .ok (.iload_n 3, 1) := by decide +kernel
theorem dL_law_354 : decode cL_law 354 = .ok (.iconst 1, 1) := by decide +kernel
theorem dL_law_355 : decode cL_law 355 = .ok (.iadd, 1) := by decide +kernel
theorem dL_law_356 : decode cL_law 356 = .ok (.iaload, 1) := by decide +kernel
theorem dL_law_357 : decode cL_law 357 = .ok (.aload_n 0, 1) := by decide +kernel
theorem dL_law_358 : decode cL_law 358 = .ok (.iload_n 3, 1) := by decide +kernel
theorem dL_law_359 : decode cL_law 359 = .ok (.iconst 2, 1) := by decide +kernel
theorem dL_law_360 : decode cL_law 360 = .ok (.iadd, 1) := by decide +kernel
theorem dL_law_361 : decode cL_law 361 = .ok (.iaload, 1) := by decide +kernel
theorem dL_law_362 : decode cL_law 362 = .ok (.invokevirtual 47, 3) := by decide +kernel
theorem dL_law_365 : decode cL_law 365 = .ok (.if_icmp .eq 624, 3) := by decide +kernel
theorem dL_law_368 : decode cL_law 368 = .ok (.iconst 0, 1) := by decide +kernel
theorem dL_law_369 : decode cL_law 369 = .ok (.ireturn, 1) := by decide +kernel
theorem dL_law_370 : decode cL_law 370 = .ok (.aload_n 1, 1) := by decide +kernel
theorem dL_law_371 : decode cL_law 371 = .ok (.aload_n 0, 1) := by decide +kernel
theorem dL_law_372 : decode cL_law 372 = .ok (.iload_n 3, 1) := by decide +kernel
theorem dL_law_373 : decode cL_law 373 = .ok (.iconst 1, 1) := by decide +kernel
theorem dL_law_374 : decode cL_law 374 = .ok (.iadd, 1) := by decide +kernel
theorem dL_law_375 : decode cL_law 375 = .ok (.iaload, 1) := by decide +kernel
theorem dL_law_376 : decode cL_law 376 = .ok (.invokevirtual 48, 3) := by decide +kernel
theorem dL_law_379 : decode cL_law 379 = .ok (.aload_n 2, 1) := by decide +kernel
theorem dL_law_380 : decode cL_law 380 = .ok (.aload_n 0, 1) := by decide +kernel
theorem dL_law_381 : decode cL_law 381 = .ok (.iload_n 3, 1) := by decide +kernel
theorem dL_law_382 : decode cL_law 382 = .ok (.iconst 1, 1) := by decide +kernel
theorem dL_law_383 : decode cL_law 383 = .ok (.iadd, 1) := by decide +kernel
theorem dL_law_384 : decode cL_law 384 = .ok (.iaload, 1) := by decide +kernel
theorem dL_law_385 : decode cL_law 385 = .ok (.invokevirtual 51, 3) := by decide +kernel
theorem dL_law_388 : decode cL_law 388 = .ok (.if_icmp .eq 601, 3) := by decide +kernel
theorem dL_law_391 : decode cL_law 391 = .ok (.iconst 0, 1) := by decide +kernel
theorem dL_law_392 : decode cL_law 392 = .ok (.ireturn, 1) := by decide +kernel
theorem dL_law_393 : decode cL_law 393 = .ok (.aload_n 1, 1) := by decide +kernel
theorem dL_law_394 : decode cL_law 394 = .ok (.aload_n 0, 1) := by decide +kernel
theorem dL_law_395 : decode cL_law 395 = .ok (.iload_n 3, 1) := by decide +kernel
theorem dL_law_396 : decode cL_law 396 = .ok (.iconst 1, 1) := by decide +kernel
theorem dL_law_397 : decode cL_law 397 = .ok (.iadd, 1) := by decide +kernel
theorem dL_law_398 : decode cL_law 398 = .ok (.iaload, 1) := by decide +kernel
theorem dL_law_399 : decode cL_law 399 = .ok (.invokevirtual 52, 3) := by decide +kernel
theorem dL_law_402 : decode cL_law 402 = .ok (.aload_n 2, 1) := by decide +kernel
theorem dL_law_403 : decode cL_law 403 = .ok (.aload_n 0, 1) := by decide +kernel
theorem dL_law_404 : decode cL_law 404 = .ok (.iload_n 3, 1) := by decide +kernel
theorem dL_law_405 : decode cL_law 405 = .ok (.iconst 1, 1) := by decide +kernel
theorem dL_law_406 : decode cL_law 406 = .ok (.iadd, 1) := by decide +kernel
theorem dL_law_407 : decode cL_law 407 = .ok (.iaload, 1) := by decide +kernel
theorem dL_law_408 : decode cL_law 408 = .ok (.invokevirtual 55, 3) := by decide +kernel
theorem dL_law_411 : decode cL_law 411 = .ok (.if_icmp .eq 578, 3) := by decide +kernel
theorem dL_law_414 : decode cL_law 414 = .ok (.iconst 0, 1) := by decide +kernel
theorem dL_law_415 : decode cL_law 415 = .ok (.ireturn, 1) := by decide +kernel
theorem dL_law_416 : decode cL_law 416 = .ok (.aload_n 1, 1) := by decide +kernel
theorem dL_law_417 : decode cL_law 417 = .ok (.aload_n 0, 1) := by decide +kernel
theorem dL_law_418 : decode cL_law 418 = .ok (.iload_n 3, 1) := by decide +kernel
theorem dL_law_419 : decode cL_law 419 = .ok (.iconst 1, 1) := by decide +kernel
theorem dL_law_420 : decode cL_law 420 = .ok (.iadd, 1) := by decide +kernel
theorem dL_law_421 : decode cL_law 421 = .ok (.iaload, 1) := by decide +kernel
theorem dL_law_422 : decode cL_law 422 = .ok (.aload_n 0, 1) := by decide +kernel
theorem dL_law_423 : decode cL_law 423 = .ok (.iload_n 3, 1) := by decide +kernel
theorem dL_law_424 : decode cL_law 424 = .ok (.iconst 2, 1) := by decide +kernel
theorem dL_law_425 : decode cL_law 425 = .ok (.iadd, 1) := by decide +kernel
theorem dL_law_426 : decode cL_law 426 = .ok (.iaload, 1) := by decide +kernel
theorem dL_law_427 : decode cL_law 427 = .ok (.aload_n 0, 1) := by decide +kernel
theorem dL_law_428 : decode cL_law 428 = .ok (.iload_n 3, 1) := by decide +kernel
theorem dL_law_429 : decode cL_law 429 = .ok (.iconst 3, 1) := by decide +kernel
theorem dL_law_430 : decode cL_law 430 = .ok (.iadd, 1) := by decide +kernel
theorem dL_law_431 : decode cL_law 431 = .ok (.iaload, 1) := by decide +kernel
theorem dL_law_432 : decode cL_law 432 = .ok (.aload_n 0, 1) := by decide +kernel
theorem dL_law_433 : decode cL_law 433 = .ok (.iload_n 3, 1) := by decide +kernel
theorem dL_law_434 : decode cL_law 434 = .ok (.iconst 4, 1) := by decide +kernel
theorem dL_law_435 : decode cL_law 435 = .ok (.iadd, 1) := by decide +kernel
theorem dL_law_436 : decode cL_law 436 = .ok (.iaload, 1) := by decide +kernel
theorem dL_law_437 : decode cL_law 437 = .ok (.ifCond .eq 7, 3) := by decide +kernel
theorem dL_law_440 : decode cL_law 440 = .ok (.iconst 1, 1) := by decide +kernel
theorem dL_law_441 : decode cL_law 441 = .ok (.goto 4, 3) := by decide +kernel
theorem dL_law_444 : decode cL_law 444 = .ok (.iconst 0, 1) := by decide +kernel
theorem dL_law_445 : decode cL_law 445 = .ok (.invokevirtual 56, 3) := by decide +kernel
theorem dL_law_448 : decode cL_law 448 = .ok (.aload_n 2, 1) := by decide +kernel
theorem dL_law_449 : decode cL_law 449 = .ok (.aload_n 0, 1) := by decide +kernel
theorem dL_law_450 : decode cL_law 450 = .ok (.iload_n 3, 1) := by decide +kernel
theorem dL_law_451 : decode cL_law 451 = .ok (.iconst 1, 1) := by decide +kernel
theorem dL_law_452 : decode cL_law 452 = .ok (.iadd, 1) := by decide +kernel
theorem dL_law_453 : decode cL_law 453 = .ok (.iaload, 1) := by decide +kernel
theorem dL_law_454 : decode cL_law 454 = .ok (.aload_n 0, 1) := by decide +kernel
theorem dL_law_455 : decode cL_law 455 = .ok (.iload_n 3, 1) := by decide +kernel
theorem dL_law_456 : decode cL_law 456 = .ok (.iconst 2, 1) := by decide +kernel
theorem dL_law_457 : decode cL_law 457 = .ok (.iadd, 1) := by decide +kernel
theorem dL_law_458 : decode cL_law 458 = .ok (.iaload, 1) := by decide +kernel
theorem dL_law_459 : decode cL_law 459 = .ok (.aload_n 0, 1) := by decide +kernel
theorem dL_law_460 : decode cL_law 460 = .ok (.iload_n 3, 1) := by decide +kernel
theorem dL_law_461 : decode cL_law 461 = .ok (.iconst 3, 1) := by decide +kernel
theorem dL_law_462 : decode cL_law 462 = .ok (.iadd, 1) := by decide +kernel
theorem dL_law_463 : decode cL_law 463 = .ok (.iaload, 1) := by decide +kernel
theorem dL_law_464 : decode cL_law 464 = .ok (.aload_n 0, 1) := by decide +kernel
theorem dL_law_465 : decode cL_law 465 = .ok (.iload_n 3, 1) := by decide +kernel
theorem dL_law_466 : decode cL_law 466 = .ok (.iconst 4, 1) := by decide +kernel
theorem dL_law_467 : decode cL_law 467 = .ok (.iadd, 1) := by decide +kernel
theorem dL_law_468 : decode cL_law 468 = .ok (.iaload, 1) := by decide +kernel
theorem dL_law_469 : decode cL_law 469 = .ok (.ifCond .eq 7, 3) := by decide +kernel
theorem dL_law_472 : decode cL_law 472 = .ok (.iconst 1, 1) := by decide +kernel
theorem dL_law_473 : decode cL_law 473 = .ok (.goto 4, 3) := by decide +kernel
theorem dL_law_476 : decode cL_law 476 = .ok (.iconst 0, 1) := by decide +kernel
theorem dL_law_477 : decode cL_law 477 = .ok (.invokevirtual 60, 3) := by decide +kernel
theorem dL_law_480 : decode cL_law 480 = .ok (.if_icmp .eq 509, 3) := by decide +kernel
theorem dL_law_483 : decode cL_law 483 = .ok (.iconst 0, 1) := by decide +kernel
theorem dL_law_484 : decode cL_law 484 = .ok (.ireturn, 1) := by decide +kernel
theorem dL_law_485 : decode cL_law 485 = .ok (.aload_n 1, 1) := by decide +kernel
theorem dL_law_486 : decode cL_law 486 = .ok (.aload_n 0, 1) := by decide +kernel
theorem dL_law_487 : decode cL_law 487 = .ok (.iload_n 3, 1) := by decide +kernel
theorem dL_law_488 : decode cL_law 488 = .ok (.iconst 1, 1) := by decide +kernel
theorem dL_law_489 : decode cL_law 489 = .ok (.iadd, 1) := by decide +kernel
theorem dL_law_490 : decode cL_law 490 = .ok (.iaload, 1) := by decide +kernel
theorem dL_law_491 : decode cL_law 491 = .ok (.aload_n 0, 1) := by decide +kernel
theorem dL_law_492 : decode cL_law 492 = .ok (.iload_n 3, 1) := by decide +kernel
theorem dL_law_493 : decode cL_law 493 = .ok (.iconst 2, 1) := by decide +kernel
theorem dL_law_494 : decode cL_law 494 = .ok (.iadd, 1) := by decide +kernel
theorem dL_law_495 : decode cL_law 495 = .ok (.iaload, 1) := by decide +kernel
theorem dL_law_496 : decode cL_law 496 = .ok (.invokevirtual 61, 3) := by decide +kernel
theorem dL_law_499 : decode cL_law 499 = .ok (.aload_n 2, 1) := by decide +kernel
theorem dL_law_500 : decode cL_law 500 = .ok (.aload_n 0, 1) := by decide +kernel
theorem dL_law_501 : decode cL_law 501 = .ok (.iload_n 3, 1) := by decide +kernel
theorem dL_law_502 : decode cL_law 502 = .ok (.iconst 1, 1) := by decide +kernel
theorem dL_law_503 : decode cL_law 503 = .ok (.iadd, 1) := by decide +kernel
theorem dL_law_504 : decode cL_law 504 = .ok (.iaload, 1) := by decide +kernel
theorem dL_law_505 : decode cL_law 505 = .ok (.aload_n 0, 1) := by decide +kernel
theorem dL_law_506 : decode cL_law 506 = .ok (.iload_n 3, 1) := by decide +kernel
theorem dL_law_507 : decode cL_law 507 = .ok (.iconst 2, 1) := by decide +kernel
theorem dL_law_508 : decode cL_law 508 = .ok (.iadd, 1) := by decide +kernel
theorem dL_law_509 : decode cL_law 509 = .ok (.iaload, 1) := by decide +kernel
theorem dL_law_510 : decode cL_law 510 = .ok (.invokevirtual 64, 3) := by decide +kernel
theorem dL_law_513 : decode cL_law 513 = .ok (.if_icmp .eq 476, 3) := by decide +kernel
theorem dL_law_516 : decode cL_law 516 = .ok (.iconst 0, 1) := by decide +kernel
theorem dL_law_517 : decode cL_law 517 = .ok (.ireturn, 1) := by decide +kernel
theorem dL_law_518 : decode cL_law 518 = .ok (.aload_n 1, 1) := by decide +kernel
theorem dL_law_519 : decode cL_law 519 = .ok (.invokevirtual 65, 3) := by decide +kernel
theorem dL_law_522 : decode cL_law 522 = .ok (.aload_n 2, 1) := by decide +kernel
theorem dL_law_523 : decode cL_law 523 = .ok (.invokevirtual 68, 3) := by decide +kernel
theorem dL_law_526 : decode cL_law 526 = .ok (.if_icmp .eq 463, 3) := by decide +kernel
theorem dL_law_529 : decode cL_law 529 = .ok (.iconst 0, 1) := by decide +kernel
theorem dL_law_530 : decode cL_law 530 = .ok (.ireturn, 1) := by decide +kernel
theorem dL_law_531 : decode cL_law 531 = .ok (.aload_n 1, 1) := by decide +kernel
theorem dL_law_532 : decode cL_law 532 = .ok (.invokevirtual 69, 3) := by decide +kernel
theorem dL_law_535 : decode cL_law 535 = .ok (.aload_n 2, 1) := by decide +kernel
theorem dL_law_536 : decode cL_law 536 = .ok (.invokevirtual 72, 3) := by decide +kernel
theorem dL_law_539 : decode cL_law 539 = .ok (.if_icmp .eq 450, 3) := by decide +kernel
theorem dL_law_542 : decode cL_law 542 = .ok (.iconst 0, 1) := by decide +kernel
theorem dL_law_543 : decode cL_law 543 = .ok (.ireturn, 1) := by decide +kernel
theorem dL_law_544 : decode cL_law 544 = .ok (.aload_n 1, 1) := by decide +kernel
theorem dL_law_545 : decode cL_law 545 = .ok (.aload_n 0, 1) := by decide +kernel
theorem dL_law_546 : decode cL_law 546 = .ok (.iload_n 3, 1) := by decide +kernel
theorem dL_law_547 : decode cL_law 547 = .ok (.iconst 1, 1) := by decide +kernel
theorem dL_law_548 : decode cL_law 548 = .ok (.iadd, 1) := by decide +kernel
theorem dL_law_549 : decode cL_law 549 = .ok (.iaload, 1) := by decide +kernel
theorem dL_law_550 : decode cL_law 550 = .ok (.aload_n 0, 1) := by decide +kernel
theorem dL_law_551 : decode cL_law 551 = .ok (.iload_n 3, 1) := by decide +kernel
theorem dL_law_552 : decode cL_law 552 = .ok (.iconst 2, 1) := by decide +kernel
theorem dL_law_553 : decode cL_law 553 = .ok (.iadd, 1) := by decide +kernel
theorem dL_law_554 : decode cL_law 554 = .ok (.iaload, 1) := by decide +kernel
theorem dL_law_555 : decode cL_law 555 = .ok (.invokevirtual 73, 3) := by decide +kernel
theorem dL_law_558 : decode cL_law 558 = .ok (.aload_n 2, 1) := by decide +kernel
theorem dL_law_559 : decode cL_law 559 = .ok (.aload_n 0, 1) := by decide +kernel
theorem dL_law_560 : decode cL_law 560 = .ok (.iload_n 3, 1) := by decide +kernel
theorem dL_law_561 : decode cL_law 561 = .ok (.iconst 1, 1) := by decide +kernel
theorem dL_law_562 : decode cL_law 562 = .ok (.iadd, 1) := by decide +kernel
theorem dL_law_563 : decode cL_law 563 = .ok (.iaload, 1) := by decide +kernel
theorem dL_law_564 : decode cL_law 564 = .ok (.aload_n 0, 1) := by decide +kernel
theorem dL_law_565 : decode cL_law 565 = .ok (.iload_n 3, 1) := by decide +kernel
theorem dL_law_566 : decode cL_law 566 = .ok (.iconst 2, 1) := by decide +kernel
theorem dL_law_567 : decode cL_law 567 = .ok (.iadd, 1) := by decide +kernel
theorem dL_law_568 : decode cL_law 568 = .ok (.iaload, 1) := by decide +kernel
theorem dL_law_569 : decode cL_law 569 = .ok (.invokevirtual 76, 3) := by decide +kernel
theorem dL_law_572 : decode cL_law 572 = .ok (.if_icmp .eq 417, 3) := by decide +kernel
theorem dL_law_575 : decode cL_law 575 = .ok (.iconst 0, 1) := by decide +kernel
theorem dL_law_576 : decode cL_law 576 = .ok (.ireturn, 1) := by decide +kernel
theorem dL_law_577 : decode cL_law 577 = .ok (.aload_n 1, 1) := by decide +kernel
theorem dL_law_578 : decode cL_law 578 = .ok (.aload_n 0, 1) := by decide +kernel
theorem dL_law_579 : decode cL_law 579 = .ok (.iload_n 3, 1) := by decide +kernel
theorem dL_law_580 : decode cL_law 580 = .ok (.iconst 1, 1) := by decide +kernel
theorem dL_law_581 : decode cL_law 581 = .ok (.iadd, 1) := by decide +kernel
theorem dL_law_582 : decode cL_law 582 = .ok (.iaload, 1) := by decide +kernel
theorem dL_law_583 : decode cL_law 583 = .ok (.invokevirtual 77, 3) := by decide +kernel
theorem dL_law_586 : decode cL_law 586 = .ok (.aload_n 2, 1) := by decide +kernel
theorem dL_law_587 : decode cL_law 587 = .ok (.aload_n 0, 1) := by decide +kernel
theorem dL_law_588 : decode cL_law 588 = .ok (.iload_n 3, 1) := by decide +kernel
theorem dL_law_589 : decode cL_law 589 = .ok (.iconst 1, 1) := by decide +kernel
theorem dL_law_590 : decode cL_law 590 = .ok (.iadd, 1) := by decide +kernel
theorem dL_law_591 : decode cL_law 591 = .ok (.iaload, 1) := by decide +kernel
theorem dL_law_592 : decode cL_law 592 = .ok (.invokevirtual 80, 3) := by decide +kernel
theorem dL_law_595 : decode cL_law 595 = .ok (.if_icmp .eq 394, 3) := by decide +kernel
theorem dL_law_598 : decode cL_law 598 = .ok (.iconst 0, 1) := by decide +kernel
theorem dL_law_599 : decode cL_law 599 = .ok (.ireturn, 1) := by decide +kernel
theorem dL_law_600 : decode cL_law 600 = .ok (.aload_n 1, 1) := by decide +kernel
theorem dL_law_601 : decode cL_law 601 = .ok (.aload_n 0, 1) := by decide +kernel
theorem dL_law_602 : decode cL_law 602 = .ok (.iload_n 3, 1) := by decide +kernel
theorem dL_law_603 : decode cL_law 603 = .ok (.iconst 1, 1) := by decide +kernel
theorem dL_law_604 : decode cL_law 604 = .ok (.iadd, 1) := by decide +kernel
theorem dL_law_605 : decode cL_law 605 = .ok (.iaload, 1) := by decide +kernel
theorem dL_law_606 : decode cL_law 606 = .ok (.aload_n 0, 1) := by decide +kernel
theorem dL_law_607 : decode cL_law 607 = .ok (.iload_n 3, 1) := by decide +kernel
theorem dL_law_608 : decode cL_law 608 = .ok (.iconst 2, 1) := by decide +kernel
theorem dL_law_609 : decode cL_law 609 = .ok (.iadd, 1) := by decide +kernel
theorem dL_law_610 : decode cL_law 610 = .ok (.iaload, 1) := by decide +kernel
theorem dL_law_611 : decode cL_law 611 = .ok (.invokevirtual 81, 3) := by decide +kernel
theorem dL_law_614 : decode cL_law 614 = .ok (.aload_n 2, 1) := by decide +kernel
theorem dL_law_615 : decode cL_law 615 = .ok (.aload_n 0, 1) := by decide +kernel
theorem dL_law_616 : decode cL_law 616 = .ok (.iload_n 3, 1) := by decide +kernel
theorem dL_law_617 : decode cL_law 617 = .ok (.iconst 1, 1) := by decide +kernel
theorem dL_law_618 : decode cL_law 618 = .ok (.iadd, 1) := by decide +kernel
theorem dL_law_619 : decode cL_law 619 = .ok (.iaload, 1) := by decide +kernel
theorem dL_law_620 : decode cL_law 620 = .ok (.aload_n 0, 1) := by decide +kernel
theorem dL_law_621 : decode cL_law 621 = .ok (.iload_n 3, 1) := by decide +kernel
theorem dL_law_622 : decode cL_law 622 = .ok (.iconst 2, 1) := by decide +kernel
theorem dL_law_623 : decode cL_law 623 = .ok (.iadd, 1) := by decide +kernel
theorem dL_law_624 : decode cL_law 624 = .ok (.iaload, 1) := by decide +kernel
theorem dL_law_625 : decode cL_law 625 = .ok (.invokevirtual 85, 3) := by decide +kernel
theorem dL_law_628 : decode cL_law 628 = .ok (.lcmp, 1) := by decide +kernel
theorem dL_law_629 : decode cL_law 629 = .ok (.ifCond .eq 360, 3) := by decide +kernel
theorem dL_law_632 : decode cL_law 632 = .ok (.iconst 0, 1) := by decide +kernel
theorem dL_law_633 : decode cL_law 633 = .ok (.ireturn, 1) := by decide +kernel
theorem dL_law_634 : decode cL_law 634 = .ok (.aload_n 1, 1) := by decide +kernel
theorem dL_law_635 : decode cL_law 635 = .ok (.aload_n 0, 1) := by decide +kernel
theorem dL_law_636 : decode cL_law 636 = .ok (.iload_n 3, 1) := by decide +kernel
theorem dL_law_637 : decode cL_law 637 = .ok (.iconst 1, 1) := by decide +kernel
theorem dL_law_638 : decode cL_law 638 = .ok (.iadd, 1) := by decide +kernel
theorem dL_law_639 : decode cL_law 639 = .ok (.iaload, 1) := by decide +kernel
theorem dL_law_640 : decode cL_law 640 = .ok (.invokevirtual 86, 3) := by decide +kernel
theorem dL_law_643 : decode cL_law 643 = .ok (.aload_n 2, 1) := by decide +kernel
theorem dL_law_644 : decode cL_law 644 = .ok (.aload_n 0, 1) := by decide +kernel
theorem dL_law_645 : decode cL_law 645 = .ok (.iload_n 3, 1) := by decide +kernel
theorem dL_law_646 : decode cL_law 646 = .ok (.iconst 1, 1) := by decide +kernel
theorem dL_law_647 : decode cL_law 647 = .ok (.iadd, 1) := by decide +kernel
theorem dL_law_648 : decode cL_law 648 = .ok (.iaload, 1) := by decide +kernel
theorem dL_law_649 : decode cL_law 649 = .ok (.invokevirtual 89, 3) := by decide +kernel
theorem dL_law_652 : decode cL_law 652 = .ok (.if_icmp .eq 337, 3) := by decide +kernel
theorem dL_law_655 : decode cL_law 655 = .ok (.iconst 0, 1) := by decide +kernel
theorem dL_law_656 : decode cL_law 656 = .ok (.ireturn, 1) := by decide +kernel
theorem dL_law_657 : decode cL_law 657 = .ok (.aload_n 1, 1) := by decide +kernel
theorem dL_law_658 : decode cL_law 658 = .ok (.aload_n 0, 1) := by decide +kernel
theorem dL_law_659 : decode cL_law 659 = .ok (.iload_n 3, 1) := by decide +kernel
theorem dL_law_660 : decode cL_law 660 = .ok (.iconst 1, 1) := by decide +kernel
theorem dL_law_661 : decode cL_law 661 = .ok (.iadd, 1) := by decide +kernel
theorem dL_law_662 : decode cL_law 662 = .ok (.iaload, 1) := by decide +kernel
theorem dL_law_663 : decode cL_law 663 = .ok (.invokevirtual 90, 3) := by decide +kernel
theorem dL_law_666 : decode cL_law 666 = .ok (.aload_n 2, 1) := by decide +kernel
theorem dL_law_667 : decode cL_law 667 = .ok (.aload_n 0, 1) := by decide +kernel
theorem dL_law_668 : decode cL_law 668 = .ok (.iload_n 3, 1) := by decide +kernel
theorem dL_law_669 : decode cL_law 669 = .ok (.iconst 1, 1) := by decide +kernel
theorem dL_law_670 : decode cL_law 670 = .ok (.iadd, 1) := by decide +kernel
theorem dL_law_671 : decode cL_law 671 = .ok (.iaload, 1) := by decide +kernel
theorem dL_law_672 : decode cL_law 672 = .ok (.invokevirtual 93, 3) := by decide +kernel
theorem dL_law_675 : decode cL_law 675 = .ok (.if_icmp .eq 314, 3) := by decide +kernel
theorem dL_law_678 : decode cL_law 678 = .ok (.iconst 0, 1) := by decide +kernel
theorem dL_law_679 : decode cL_law 679 = .ok (.ireturn, 1) := by decide +kernel
theorem dL_law_680 : decode cL_law 680 = .ok (.aload_n 1, 1) := by decide +kernel
theorem dL_law_681 : decode cL_law 681 = .ok (.aload_n 0, 1) := by decide +kernel
theorem dL_law_682 : decode cL_law 682 = .ok (.iload_n 3, 1) := by decide +kernel
theorem dL_law_683 : decode cL_law 683 = .ok (.iconst 1, 1) := by decide +kernel
theorem dL_law_684 : decode cL_law 684 = .ok (.iadd, 1) := by decide +kernel
theorem dL_law_685 : decode cL_law 685 = .ok (.iaload, 1) := by decide +kernel
theorem dL_law_686 : decode cL_law 686 = .ok (.aload_n 0, 1) := by decide +kernel
theorem dL_law_687 : decode cL_law 687 = .ok (.iload_n 3, 1) := by decide +kernel
theorem dL_law_688 : decode cL_law 688 = .ok (.iconst 2, 1) := by decide +kernel
theorem dL_law_689 : decode cL_law 689 = .ok (.iadd, 1) := by decide +kernel
theorem dL_law_690 : decode cL_law 690 = .ok (.iaload, 1) := by decide +kernel
theorem dL_law_691 : decode cL_law 691 = .ok (.aload_n 0, 1) := by decide +kernel
theorem dL_law_692 : decode cL_law 692 = .ok (.iload_n 3, 1) := by decide +kernel
theorem dL_law_693 : decode cL_law 693 = .ok (.iconst 3, 1) := by decide +kernel
theorem dL_law_694 : decode cL_law 694 = .ok (.iadd, 1) := by decide +kernel
theorem dL_law_695 : decode cL_law 695 = .ok (.iaload, 1) := by decide +kernel
theorem dL_law_696 : decode cL_law 696 = .ok (.invokevirtual 94, 3) := by decide +kernel
theorem dL_law_699 : decode cL_law 699 = .ok (.aload_n 2, 1) := by decide +kernel
theorem dL_law_700 : decode cL_law 700 = .ok (.aload_n 0, 1) := by decide +kernel
theorem dL_law_701 : decode cL_law 701 = .ok (.iload_n 3, 1) := by decide +kernel
theorem dL_law_702 : decode cL_law 702 = .ok (.iconst 1, 1) := by decide +kernel
theorem dL_law_703 : decode cL_law 703 = .ok (.iadd, 1) := by decide +kernel
theorem dL_law_704 : decode cL_law 704 = .ok (.iaload, 1) := by decide +kernel
theorem dL_law_705 : decode cL_law 705 = .ok (.aload_n 0, 1) := by decide +kernel
theorem dL_law_706 : decode cL_law 706 = .ok (.iload_n 3, 1) := by decide +kernel
theorem dL_law_707 : decode cL_law 707 = .ok (.iconst 2, 1) := by decide +kernel
theorem dL_law_708 : decode cL_law 708 = .ok (.iadd, 1) := by decide +kernel
theorem dL_law_709 : decode cL_law 709 = .ok (.iaload, 1) := by decide +kernel
theorem dL_law_710 : decode cL_law 710 = .ok (.aload_n 0, 1) := by decide +kernel
theorem dL_law_711 : decode cL_law 711 = .ok (.iload_n 3, 1) := by decide +kernel
theorem dL_law_712 : decode cL_law 712 = .ok (.iconst 3, 1) := by decide +kernel
theorem dL_law_713 : decode cL_law 713 = .ok (.iadd, 1) := by decide +kernel
theorem dL_law_714 : decode cL_law 714 = .ok (.iaload, 1) := by decide +kernel
theorem dL_law_715 : decode cL_law 715 = .ok (.invokevirtual 98, 3) := by decide +kernel
theorem dL_law_718 : decode cL_law 718 = .ok (.if_icmp .eq 271, 3) := by decide +kernel
theorem dL_law_721 : decode cL_law 721 = .ok (.iconst 0, 1) := by decide +kernel
theorem dL_law_722 : decode cL_law 722 = .ok (.ireturn, 1) := by decide +kernel
theorem dL_law_723 : decode cL_law 723 = .ok (.aload_n 1, 1) := by decide +kernel
theorem dL_law_724 : decode cL_law 724 = .ok (.aload_n 0, 1) := by decide +kernel
theorem dL_law_725 : decode cL_law 725 = .ok (.iload_n 3, 1) := by decide +kernel
theorem dL_law_726 : decode cL_law 726 = .ok (.iconst 1, 1) := by decide +kernel
theorem dL_law_727 : decode cL_law 727 = .ok (.iadd, 1) := by decide +kernel
theorem dL_law_728 : decode cL_law 728 = .ok (.iaload, 1) := by decide +kernel
theorem dL_law_729 : decode cL_law 729 = .ok (.invokevirtual 99, 3) := by decide +kernel
theorem dL_law_732 : decode cL_law 732 = .ok (.aload_n 2, 1) := by decide +kernel
theorem dL_law_733 : decode cL_law 733 = .ok (.aload_n 0, 1) := by decide +kernel
theorem dL_law_734 : decode cL_law 734 = .ok (.iload_n 3, 1) := by decide +kernel
theorem dL_law_735 : decode cL_law 735 = .ok (.iconst 1, 1) := by decide +kernel
theorem dL_law_736 : decode cL_law 736 = .ok (.iadd, 1) := by decide +kernel
theorem dL_law_737 : decode cL_law 737 = .ok (.iaload, 1) := by decide +kernel
theorem dL_law_738 : decode cL_law 738 = .ok (.invokevirtual 102, 3) := by decide +kernel
theorem dL_law_741 : decode cL_law 741 = .ok (.if_icmp .eq 248, 3) := by decide +kernel
theorem dL_law_744 : decode cL_law 744 = .ok (.iconst 0, 1) := by decide +kernel
theorem dL_law_745 : decode cL_law 745 = .ok (.ireturn, 1) := by decide +kernel
theorem dL_law_746 : decode cL_law 746 = .ok (.aload_n 1, 1) := by decide +kernel
theorem dL_law_747 : decode cL_law 747 = .ok (.invokevirtual 103, 3) := by decide +kernel
theorem dL_law_750 : decode cL_law 750 = .ok (.aload_n 2, 1) := by decide +kernel
theorem dL_law_751 : decode cL_law 751 = .ok (.invokevirtual 106, 3) := by decide +kernel
theorem dL_law_754 : decode cL_law 754 = .ok (.if_icmp .eq 235, 3) := by decide +kernel
theorem dL_law_757 : decode cL_law 757 = .ok (.iconst 0, 1) := by decide +kernel
theorem dL_law_758 : decode cL_law 758 = .ok (.ireturn, 1) := by decide +kernel
theorem dL_law_759 : decode cL_law 759 = .ok (.aload_n 1, 1) := by decide +kernel
theorem dL_law_760 : decode cL_law 760 = .ok (.aload_n 0, 1) := by decide +kernel
theorem dL_law_761 : decode cL_law 761 = .ok (.iload_n 3, 1) := by decide +kernel
theorem dL_law_762 : decode cL_law 762 = .ok (.iconst 1, 1) := by decide +kernel
theorem dL_law_763 : decode cL_law 763 = .ok (.iadd, 1) := by decide +kernel
theorem dL_law_764 : decode cL_law 764 = .ok (.iaload, 1) := by decide +kernel
theorem dL_law_765 : decode cL_law 765 = .ok (.invokevirtual 107, 3) := by decide +kernel
theorem dL_law_768 : decode cL_law 768 = .ok (.aload_n 2, 1) := by decide +kernel
theorem dL_law_769 : decode cL_law 769 = .ok (.aload_n 0, 1) := by decide +kernel
theorem dL_law_770 : decode cL_law 770 = .ok (.iload_n 3, 1) := by decide +kernel
theorem dL_law_771 : decode cL_law 771 = .ok (.iconst 1, 1) := by decide +kernel
theorem dL_law_772 : decode cL_law 772 = .ok (.iadd, 1) := by decide +kernel
theorem dL_law_773 : decode cL_law 773 = .ok (.iaload, 1) := by decide +kernel
theorem dL_law_774 : decode cL_law 774 = .ok (.invokevirtual 110, 3) := by decide +kernel
theorem dL_law_777 : decode cL_law 777 = .ok (.if_icmp .eq 212, 3) := by decide +kernel
theorem dL_law_780 : decode cL_law 780 = .ok (.iconst 0, 1) := by decide +kernel
theorem dL_law_781 : decode cL_law 781 = .ok (.ireturn, 1) := by decide +kernel
theorem dL_law_782 : decode cL_law 782 = .ok (.aload_n 1, 1) := by decide +kernel
theorem dL_law_783 : decode cL_law 783 = .ok (.aload_n 0, 1) := by decide +kernel
theorem dL_law_784 : decode cL_law 784 = .ok (.iload_n 3, 1) := by decide +kernel
theorem dL_law_785 : decode cL_law 785 = .ok (.iconst 1, 1) := by decide +kernel
theorem dL_law_786 : decode cL_law 786 = .ok (.iadd, 1) := by decide +kernel
theorem dL_law_787 : decode cL_law 787 = .ok (.iaload, 1) := by decide +kernel
theorem dL_law_788 : decode cL_law 788 = .ok (.invokevirtual 111, 3) := by decide +kernel
theorem dL_law_791 : decode cL_law 791 = .ok (.aload_n 2, 1) := by decide +kernel
theorem dL_law_792 : decode cL_law 792 = .ok (.aload_n 0, 1) := by decide +kernel
theorem dL_law_793 : decode cL_law 793 = .ok (.iload_n 3, 1) := by decide +kernel
theorem dL_law_794 : decode cL_law 794 = .ok (.iconst 1, 1) := by decide +kernel
theorem dL_law_795 : decode cL_law 795 = .ok (.iadd, 1) := by decide +kernel
theorem dL_law_796 : decode cL_law 796 = .ok (.iaload, 1) := by decide +kernel
theorem dL_law_797 : decode cL_law 797 = .ok (.invokevirtual 114, 3) := by decide +kernel
theorem dL_law_800 : decode cL_law 800 = .ok (.if_icmp .eq 189, 3) := by decide +kernel
theorem dL_law_803 : decode cL_law 803 = .ok (.iconst 0, 1) := by decide +kernel
theorem dL_law_804 : decode cL_law 804 = .ok (.ireturn, 1) := by decide +kernel
theorem dL_law_805 : decode cL_law 805 = .ok (.aload_n 1, 1) := by decide +kernel
theorem dL_law_806 : decode cL_law 806 = .ok (.invokevirtual 115, 3) := by decide +kernel
theorem dL_law_809 : decode cL_law 809 = .ok (.aload_n 2, 1) := by decide +kernel
theorem dL_law_810 : decode cL_law 810 = .ok (.invokevirtual 118, 3) := by decide +kernel
theorem dL_law_813 : decode cL_law 813 = .ok (.if_icmp .eq 176, 3) := by decide +kernel
theorem dL_law_816 : decode cL_law 816 = .ok (.iconst 0, 1) := by decide +kernel
theorem dL_law_817 : decode cL_law 817 = .ok (.ireturn, 1) := by decide +kernel
theorem dL_law_818 : decode cL_law 818 = .ok (.aload_n 1, 1) := by decide +kernel
theorem dL_law_819 : decode cL_law 819 = .ok (.aload_n 0, 1) := by decide +kernel
theorem dL_law_820 : decode cL_law 820 = .ok (.iload_n 3, 1) := by decide +kernel
theorem dL_law_821 : decode cL_law 821 = .ok (.iconst 1, 1) := by decide +kernel
theorem dL_law_822 : decode cL_law 822 = .ok (.iadd, 1) := by decide +kernel
theorem dL_law_823 : decode cL_law 823 = .ok (.iaload, 1) := by decide +kernel
theorem dL_law_824 : decode cL_law 824 = .ok (.aload_n 0, 1) := by decide +kernel
theorem dL_law_825 : decode cL_law 825 = .ok (.iload_n 3, 1) := by decide +kernel
theorem dL_law_826 : decode cL_law 826 = .ok (.iconst 2, 1) := by decide +kernel
theorem dL_law_827 : decode cL_law 827 = .ok (.iadd, 1) := by decide +kernel
theorem dL_law_828 : decode cL_law 828 = .ok (.iaload, 1) := by decide +kernel
theorem dL_law_829 : decode cL_law 829 = .ok (.invokevirtual 119, 3) := by decide +kernel
theorem dL_law_832 : decode cL_law 832 = .ok (.aload_n 2, 1) := by decide +kernel
theorem dL_law_833 : decode cL_law 833 = .ok (.aload_n 0, 1) := by decide +kernel
theorem dL_law_834 : decode cL_law 834 = .ok (.iload_n 3, 1) := by decide +kernel
theorem dL_law_835 : decode cL_law 835 = .ok (.iconst 1, 1) := by decide +kernel
theorem dL_law_836 : decode cL_law 836 = .ok (.iadd, 1) := by decide +kernel
theorem dL_law_837 : decode cL_law 837 = .ok (.iaload, 1) := by decide +kernel
theorem dL_law_838 : decode cL_law 838 = .ok (.aload_n 0, 1) := by decide +kernel
theorem dL_law_839 : decode cL_law 839 = .ok (.iload_n 3, 1) := by decide +kernel
theorem dL_law_840 : decode cL_law 840 = .ok (.iconst 2, 1) := by decide +kernel
theorem dL_law_841 : decode cL_law 841 = .ok (.iadd, 1) := by decide +kernel
theorem dL_law_842 : decode cL_law 842 = .ok (.iaload, 1) := by decide +kernel
theorem dL_law_843 : decode cL_law 843 = .ok (.invokevirtual 122, 3) := by decide +kernel
theorem dL_law_846 : decode cL_law 846 = .ok (.if_icmp .eq 143, 3) := by decide +kernel
theorem dL_law_849 : decode cL_law 849 = .ok (.iconst 0, 1) := by decide +kernel
theorem dL_law_850 : decode cL_law 850 = .ok (.ireturn, 1) := by decide +kernel
theorem dL_law_851 : decode cL_law 851 = .ok (.aload_n 1, 1) := by decide +kernel
theorem dL_law_852 : decode cL_law 852 = .ok (.invokevirtual 123, 3) := by decide +kernel
theorem dL_law_855 : decode cL_law 855 = .ok (.aload_n 2, 1) := by decide +kernel
theorem dL_law_856 : decode cL_law 856 = .ok (.invokevirtual 126, 3) := by decide +kernel
theorem dL_law_859 : decode cL_law 859 = .ok (.if_icmp .eq 130, 3) := by decide +kernel
theorem dL_law_862 : decode cL_law 862 = .ok (.iconst 0, 1) := by decide +kernel
theorem dL_law_863 : decode cL_law 863 = .ok (.ireturn, 1) := by decide +kernel
theorem dL_law_864 : decode cL_law 864 = .ok (.aload_n 1, 1) := by decide +kernel
theorem dL_law_865 : decode cL_law 865 = .ok (.aload_n 0, 1) := by decide +kernel
theorem dL_law_866 : decode cL_law 866 = .ok (.iload_n 3, 1) := by decide +kernel
theorem dL_law_867 : decode cL_law 867 = .ok (.iconst 1, 1) := by decide +kernel
theorem dL_law_868 : decode cL_law 868 = .ok (.iadd, 1) := by decide +kernel
theorem dL_law_869 : decode cL_law 869 = .ok (.iaload, 1) := by decide +kernel
theorem dL_law_870 : decode cL_law 870 = .ok (.aload_n 0, 1) := by decide +kernel
theorem dL_law_871 : decode cL_law 871 = .ok (.iload_n 3, 1) := by decide +kernel
theorem dL_law_872 : decode cL_law 872 = .ok (.iconst 2, 1) := by decide +kernel
theorem dL_law_873 : decode cL_law 873 = .ok (.iadd, 1) := by decide +kernel
theorem dL_law_874 : decode cL_law 874 = .ok (.iaload, 1) := by decide +kernel
theorem dL_law_875 : decode cL_law 875 = .ok (.invokevirtual 127, 3) := by decide +kernel
theorem dL_law_878 : decode cL_law 878 = .ok (.aload_n 2, 1) := by decide +kernel
theorem dL_law_879 : decode cL_law 879 = .ok (.aload_n 0, 1) := by decide +kernel
theorem dL_law_880 : decode cL_law 880 = .ok (.iload_n 3, 1) := by decide +kernel
theorem dL_law_881 : decode cL_law 881 = .ok (.iconst 1, 1) := by decide +kernel
theorem dL_law_882 : decode cL_law 882 = .ok (.iadd, 1) := by decide +kernel
theorem dL_law_883 : decode cL_law 883 = .ok (.iaload, 1) := by decide +kernel
theorem dL_law_884 : decode cL_law 884 = .ok (.aload_n 0, 1) := by decide +kernel
theorem dL_law_885 : decode cL_law 885 = .ok (.iload_n 3, 1) := by decide +kernel
theorem dL_law_886 : decode cL_law 886 = .ok (.iconst 2, 1) := by decide +kernel
theorem dL_law_887 : decode cL_law 887 = .ok (.iadd, 1) := by decide +kernel
theorem dL_law_888 : decode cL_law 888 = .ok (.iaload, 1) := by decide +kernel
theorem dL_law_889 : decode cL_law 889 = .ok (.invokevirtual 130, 3) := by decide +kernel
theorem dL_law_892 : decode cL_law 892 = .ok (.if_icmp .eq 97, 3) := by decide +kernel
theorem dL_law_895 : decode cL_law 895 = .ok (.iconst 0, 1) := by decide +kernel
theorem dL_law_896 : decode cL_law 896 = .ok (.ireturn, 1) := by decide +kernel
theorem dL_law_897 : decode cL_law 897 = .ok (.aload_n 1, 1) := by decide +kernel
theorem dL_law_898 : decode cL_law 898 = .ok (.aload_n 0, 1) := by decide +kernel
theorem dL_law_899 : decode cL_law 899 = .ok (.iload_n 3, 1) := by decide +kernel
theorem dL_law_900 : decode cL_law 900 = .ok (.iconst 1, 1) := by decide +kernel
theorem dL_law_901 : decode cL_law 901 = .ok (.iadd, 1) := by decide +kernel
theorem dL_law_902 : decode cL_law 902 = .ok (.iaload, 1) := by decide +kernel
theorem dL_law_903 : decode cL_law 903 = .ok (.aload_n 0, 1) := by decide +kernel
theorem dL_law_904 : decode cL_law 904 = .ok (.iload_n 3, 1) := by decide +kernel
theorem dL_law_905 : decode cL_law 905 = .ok (.iconst 2, 1) := by decide +kernel
theorem dL_law_906 : decode cL_law 906 = .ok (.iadd, 1) := by decide +kernel
theorem dL_law_907 : decode cL_law 907 = .ok (.iaload, 1) := by decide +kernel
theorem dL_law_908 : decode cL_law 908 = .ok (.aload_n 0, 1) := by decide +kernel
theorem dL_law_909 : decode cL_law 909 = .ok (.iload_n 3, 1) := by decide +kernel
theorem dL_law_910 : decode cL_law 910 = .ok (.iconst 3, 1) := by decide +kernel
theorem dL_law_911 : decode cL_law 911 = .ok (.iadd, 1) := by decide +kernel
theorem dL_law_912 : decode cL_law 912 = .ok (.iaload, 1) := by decide +kernel
theorem dL_law_913 : decode cL_law 913 = .ok (.invokevirtual 131, 3) := by decide +kernel
theorem dL_law_916 : decode cL_law 916 = .ok (.aload_n 2, 1) := by decide +kernel
theorem dL_law_917 : decode cL_law 917 = .ok (.aload_n 0, 1) := by decide +kernel
theorem dL_law_918 : decode cL_law 918 = .ok (.iload_n 3, 1) := by decide +kernel
theorem dL_law_919 : decode cL_law 919 = .ok (.iconst 1, 1) := by decide +kernel
theorem dL_law_920 : decode cL_law 920 = .ok (.iadd, 1) := by decide +kernel
theorem dL_law_921 : decode cL_law 921 = .ok (.iaload, 1) := by decide +kernel
theorem dL_law_922 : decode cL_law 922 = .ok (.aload_n 0, 1) := by decide +kernel
theorem dL_law_923 : decode cL_law 923 = .ok (.iload_n 3, 1) := by decide +kernel
theorem dL_law_924 : decode cL_law 924 = .ok (.iconst 2, 1) := by decide +kernel
theorem dL_law_925 : decode cL_law 925 = .ok (.iadd, 1) := by decide +kernel
theorem dL_law_926 : decode cL_law 926 = .ok (.iaload, 1) := by decide +kernel
theorem dL_law_927 : decode cL_law 927 = .ok (.aload_n 0, 1) := by decide +kernel
theorem dL_law_928 : decode cL_law 928 = .ok (.iload_n 3, 1) := by decide +kernel
theorem dL_law_929 : decode cL_law 929 = .ok (.iconst 3, 1) := by decide +kernel
theorem dL_law_930 : decode cL_law 930 = .ok (.iadd, 1) := by decide +kernel
theorem dL_law_931 : decode cL_law 931 = .ok (.iaload, 1) := by decide +kernel
theorem dL_law_932 : decode cL_law 932 = .ok (.invokevirtual 134, 3) := by decide +kernel
theorem dL_law_935 : decode cL_law 935 = .ok (.if_icmp .eq 54, 3) := by decide +kernel
theorem dL_law_938 : decode cL_law 938 = .ok (.iconst 0, 1) := by decide +kernel
theorem dL_law_939 : decode cL_law 939 = .ok (.ireturn, 1) := by decide +kernel
theorem dL_law_940 : decode cL_law 940 = .ok (.aload_n 1, 1) := by decide +kernel
theorem dL_law_941 : decode cL_law 941 = .ok (.invokevirtual 135, 3) := by decide +kernel
theorem dL_law_944 : decode cL_law 944 = .ok (.aload_n 2, 1) := by decide +kernel
theorem dL_law_945 : decode cL_law 945 = .ok (.invokevirtual 138, 3) := by decide +kernel
theorem dL_law_948 : decode cL_law 948 = .ok (.if_icmp .eq 41, 3) := by decide +kernel
theorem dL_law_951 : decode cL_law 951 = .ok (.iconst 0, 1) := by decide +kernel
theorem dL_law_952 : decode cL_law 952 = .ok (.ireturn, 1) := by decide +kernel
theorem dL_law_953 : decode cL_law 953 = .ok (.aload_n 1, 1) := by decide +kernel
theorem dL_law_954 : decode cL_law 954 = .ok (.invokevirtual 139, 3) := by decide +kernel
theorem dL_law_957 : decode cL_law 957 = .ok (.aload_n 2, 1) := by decide +kernel
theorem dL_law_958 : decode cL_law 958 = .ok (.invokevirtual 142, 3) := by decide +kernel
theorem dL_law_961 : decode cL_law 961 = .ok (.if_icmp .eq 28, 3) := by decide +kernel
theorem dL_law_964 : decode cL_law 964 = .ok (.iconst 0, 1) := by decide +kernel
theorem dL_law_965 : decode cL_law 965 = .ok (.ireturn, 1) := by decide +kernel
theorem dL_law_966 : decode cL_law 966 = .ok (.aload_n 1, 1) := by decide +kernel
theorem dL_law_967 : decode cL_law 967 = .ok (.aload_n 0, 1) := by decide +kernel
theorem dL_law_968 : decode cL_law 968 = .ok (.iload_n 3, 1) := by decide +kernel
theorem dL_law_969 : decode cL_law 969 = .ok (.iconst 1, 1) := by decide +kernel
theorem dL_law_970 : decode cL_law 970 = .ok (.iadd, 1) := by decide +kernel
theorem dL_law_971 : decode cL_law 971 = .ok (.iaload, 1) := by decide +kernel
theorem dL_law_972 : decode cL_law 972 = .ok (.invokevirtual 143, 3) := by decide +kernel
theorem dL_law_975 : decode cL_law 975 = .ok (.aload_n 2, 1) := by decide +kernel
theorem dL_law_976 : decode cL_law 976 = .ok (.aload_n 0, 1) := by decide +kernel
theorem dL_law_977 : decode cL_law 977 = .ok (.iload_n 3, 1) := by decide +kernel
theorem dL_law_978 : decode cL_law 978 = .ok (.iconst 1, 1) := by decide +kernel
theorem dL_law_979 : decode cL_law 979 = .ok (.iadd, 1) := by decide +kernel
theorem dL_law_980 : decode cL_law 980 = .ok (.iaload, 1) := by decide +kernel
theorem dL_law_981 : decode cL_law 981 = .ok (.invokevirtual 146, 3) := by decide +kernel
theorem dL_law_984 : decode cL_law 984 = .ok (.if_icmp .eq 5, 3) := by decide +kernel
theorem dL_law_987 : decode cL_law 987 = .ok (.iconst 0, 1) := by decide +kernel
theorem dL_law_988 : decode cL_law 988 = .ok (.ireturn, 1) := by decide +kernel
theorem dL_law_989 : decode cL_law 989 = .ok (.iinc 3 5, 3) := by decide +kernel
theorem dL_law_992 : decode cL_law 992 = .ok (.goto (-974), 3) := by decide +kernel
theorem dL_law_995 : decode cL_law 995 = .ok (.iconst 1, 1) := by decide +kernel
theorem dL_law_996 : decode cL_law 996 = .ok (.ireturn, 1) := by decide +kernel
end
section
theorem zz_end : True := trivial
end
