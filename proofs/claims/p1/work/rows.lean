section
-- ===== PART A: goes FIRST, ahead of the names: the tables' words, and 'selects' of the private methods out of them =====
/-- a private method of a class that the tables say can be made, by its rows of tables_1 -/
def lw_okq (q : MethodName × Nat) : Prop := (q.1.cls ≠ "java/lang/invoke/MethodHandle" ∧ q.1.cls ≠ "java/lang/invoke/VarHandle") ∧ Cond.instantiable q.1.cls q.2 ∈ tables_1 ∧ Cond.privateMethod q.1 ∈ tables_1 ∧ Cond.instanceMethod q.1 ∈ tables_1
theorem lw_p0 : lw_okq (⟨"SkinTwists", "layOut", "(I)V"⟩, 13) := ⟨⟨by decide +kernel, by decide +kernel⟩, List.mem_of_getElem? (i := 15) (by decide +kernel), List.mem_of_getElem? (i := 222) (by decide +kernel), List.mem_of_getElem? (i := 223) (by decide +kernel)⟩
theorem lw_p1 : lw_okq (⟨"SkinTwists$Twister", "layWord", "(III)V"⟩, 5) := ⟨⟨by decide +kernel, by decide +kernel⟩, List.mem_of_getElem? (i := 51) (by decide +kernel), List.mem_of_getElem? (i := 230) (by decide +kernel), List.mem_of_getElem? (i := 231) (by decide +kernel)⟩
theorem lw_p2 : lw_okq (⟨"SkinTwists$Twister", "spellFirst", "(III)V"⟩, 5) := ⟨⟨by decide +kernel, by decide +kernel⟩, List.mem_of_getElem? (i := 51) (by decide +kernel), List.mem_of_getElem? (i := 234) (by decide +kernel), List.mem_of_getElem? (i := 235) (by decide +kernel)⟩
theorem lw_p3 : lw_okq (⟨"SkinTwists$Twister", "spellSecond", "(III)V"⟩, 5) := ⟨⟨by decide +kernel, by decide +kernel⟩, List.mem_of_getElem? (i := 51) (by decide +kernel), List.mem_of_getElem? (i := 242) (by decide +kernel), List.mem_of_getElem? (i := 243) (by decide +kernel)⟩
theorem lw_p4 : lw_okq (⟨"SkinTwists$Twister", "spellThird", "(III)V"⟩, 5) := ⟨⟨by decide +kernel, by decide +kernel⟩, List.mem_of_getElem? (i := 51) (by decide +kernel), List.mem_of_getElem? (i := 246) (by decide +kernel), List.mem_of_getElem? (i := 247) (by decide +kernel)⟩
theorem lw_p5 : lw_okq (⟨"SkinTwists$Twister", "spellBetween", "(II)V"⟩, 5) := ⟨⟨by decide +kernel, by decide +kernel⟩, List.mem_of_getElem? (i := 51) (by decide +kernel), List.mem_of_getElem? (i := 250) (by decide +kernel), List.mem_of_getElem? (i := 251) (by decide +kernel)⟩
theorem lw_p6 : lw_okq (⟨"SkinTwists$Twister", "keepWord", "(IILSkinTwists$Row;)V"⟩, 5) := ⟨⟨by decide +kernel, by decide +kernel⟩, List.mem_of_getElem? (i := 51) (by decide +kernel), List.mem_of_getElem? (i := 261) (by decide +kernel), List.mem_of_getElem? (i := 262) (by decide +kernel)⟩
theorem lw_p7 : lw_okq (⟨"SkinTwists$Row", "looseEnds", "()I"⟩, 2) := ⟨⟨by decide +kernel, by decide +kernel⟩, List.mem_of_getElem? (i := 27) (by decide +kernel), List.mem_of_getElem? (i := 337) (by decide +kernel), List.mem_of_getElem? (i := 338) (by decide +kernel)⟩
theorem lw_p8 : lw_okq (⟨"SkinTwists$Row", "repeats", "(I)Z"⟩, 2) := ⟨⟨by decide +kernel, by decide +kernel⟩, List.mem_of_getElem? (i := 27) (by decide +kernel), List.mem_of_getElem? (i := 345) (by decide +kernel), List.mem_of_getElem? (i := 346) (by decide +kernel)⟩
theorem lw_p9 : lw_okq (⟨"SkinTwists", "isRing", "(I)Z"⟩, 13) := ⟨⟨by decide +kernel, by decide +kernel⟩, List.mem_of_getElem? (i := 15) (by decide +kernel), List.mem_of_getElem? (i := 375) (by decide +kernel), List.mem_of_getElem? (i := 376) (by decide +kernel)⟩
theorem lw_p10 : lw_okq (⟨"SkinTwists$Row", "runsAlong", "(ILSkinTwists$Row;I)Z"⟩, 2) := ⟨⟨by decide +kernel, by decide +kernel⟩, List.mem_of_getElem? (i := 27) (by decide +kernel), List.mem_of_getElem? (i := 403) (by decide +kernel), List.mem_of_getElem? (i := 404) (by decide +kernel)⟩
theorem lw_p11 : lw_okq (⟨"SkinTwists$Row", "runsAgainst", "(ILSkinTwists$Row;I)Z"⟩, 2) := ⟨⟨by decide +kernel, by decide +kernel⟩, List.mem_of_getElem? (i := 27) (by decide +kernel), List.mem_of_getElem? (i := 407) (by decide +kernel), List.mem_of_getElem? (i := 408) (by decide +kernel)⟩
theorem lw_p12 : lw_okq (⟨"SkinTwists", "firstBarring", "(II)I"⟩, 13) := ⟨⟨by decide +kernel, by decide +kernel⟩, List.mem_of_getElem? (i := 15) (by decide +kernel), List.mem_of_getElem? (i := 415) (by decide +kernel), List.mem_of_getElem? (i := 416) (by decide +kernel)⟩
theorem lw_p13 : lw_okq (⟨"SkinTwists$TextReader", "take", "(II)I"⟩, 10) := ⟨⟨by decide +kernel, by decide +kernel⟩, List.mem_of_getElem? (i := 141) (by decide +kernel), List.mem_of_getElem? (i := 447) (by decide +kernel), List.mem_of_getElem? (i := 448) (by decide +kernel)⟩
theorem lw_p14 : lw_okq (⟨"SkinTwists$TextReader", "takeHandle", "(I)I"⟩, 10) := ⟨⟨by decide +kernel, by decide +kernel⟩, List.mem_of_getElem? (i := 141) (by decide +kernel), List.mem_of_getElem? (i := 451) (by decide +kernel), List.mem_of_getElem? (i := 452) (by decide +kernel)⟩
theorem lw_p15 : lw_okq (⟨"SkinTwists$TextReader", "takeTimes", "(I)I"⟩, 10) := ⟨⟨by decide +kernel, by decide +kernel⟩, List.mem_of_getElem? (i := 141) (by decide +kernel), List.mem_of_getElem? (i := 462) (by decide +kernel), List.mem_of_getElem? (i := 463) (by decide +kernel)⟩
def lw_privs_1 : List (MethodName × Nat) := [(⟨"SkinTwists", "layOut", "(I)V"⟩, 13), (⟨"SkinTwists$Twister", "layWord", "(III)V"⟩, 5), (⟨"SkinTwists$Twister", "spellFirst", "(III)V"⟩, 5), (⟨"SkinTwists$Twister", "spellSecond", "(III)V"⟩, 5), (⟨"SkinTwists$Twister", "spellThird", "(III)V"⟩, 5), (⟨"SkinTwists$Twister", "spellBetween", "(II)V"⟩, 5), (⟨"SkinTwists$Twister", "keepWord", "(IILSkinTwists$Row;)V"⟩, 5), (⟨"SkinTwists$Row", "looseEnds", "()I"⟩, 2), (⟨"SkinTwists$Row", "repeats", "(I)Z"⟩, 2), (⟨"SkinTwists", "isRing", "(I)Z"⟩, 13), (⟨"SkinTwists$Row", "runsAlong", "(ILSkinTwists$Row;I)Z"⟩, 2), (⟨"SkinTwists$Row", "runsAgainst", "(ILSkinTwists$Row;I)Z"⟩, 2), (⟨"SkinTwists", "firstBarring", "(II)I"⟩, 13), (⟨"SkinTwists$TextReader", "take", "(II)I"⟩, 10), (⟨"SkinTwists$TextReader", "takeHandle", "(I)I"⟩, 10), (⟨"SkinTwists$TextReader", "takeTimes", "(I)I"⟩, 10)]
theorem lw_r1 : ∀ q ∈ lw_privs_1, lw_okq q := List.forall_mem_cons.mpr ⟨lw_p0, List.forall_mem_cons.mpr ⟨lw_p1, List.forall_mem_cons.mpr ⟨lw_p2, List.forall_mem_cons.mpr ⟨lw_p3, List.forall_mem_cons.mpr ⟨lw_p4, List.forall_mem_cons.mpr ⟨lw_p5, List.forall_mem_cons.mpr ⟨lw_p6, List.forall_mem_cons.mpr ⟨lw_p7, List.forall_mem_cons.mpr ⟨lw_p8, List.forall_mem_cons.mpr ⟨lw_p9, List.forall_mem_cons.mpr ⟨lw_p10, List.forall_mem_cons.mpr ⟨lw_p11, List.forall_mem_cons.mpr ⟨lw_p12, List.forall_mem_cons.mpr ⟨lw_p13, List.forall_mem_cons.mpr ⟨lw_p14, List.forall_mem_cons.mpr ⟨lw_p15, fun _ h => absurd h List.not_mem_nil⟩⟩⟩⟩⟩⟩⟩⟩⟩⟩⟩⟩⟩⟩⟩⟩
theorem lw_p16 : lw_okq (⟨"SkinTwists$TextReader", "takeItem", "(II)I"⟩, 10) := ⟨⟨by decide +kernel, by decide +kernel⟩, List.mem_of_getElem? (i := 141) (by decide +kernel), List.mem_of_getElem? (i := 466) (by decide +kernel), List.mem_of_getElem? (i := 467) (by decide +kernel)⟩
theorem lw_p17 : lw_okq (⟨"SkinTwists", "isLetter", "(I)Z"⟩, 13) := ⟨⟨by decide +kernel, by decide +kernel⟩, List.mem_of_getElem? (i := 15) (by decide +kernel), List.mem_of_getElem? (i := 508) (by decide +kernel), List.mem_of_getElem? (i := 509) (by decide +kernel)⟩
theorem lw_p18 : lw_okq (⟨"SkinTwists", "carryToWork", "(II)Z"⟩, 13) := ⟨⟨by decide +kernel, by decide +kernel⟩, List.mem_of_getElem? (i := 15) (by decide +kernel), List.mem_of_getElem? (i := 528) (by decide +kernel), List.mem_of_getElem? (i := 529) (by decide +kernel)⟩
theorem lw_p19 : lw_okq (⟨"SkinTwists", "firstUnlike", "(LSkinTwists$Plan;LSkinTwists$Plan;)I"⟩, 13) := ⟨⟨by decide +kernel, by decide +kernel⟩, List.mem_of_getElem? (i := 15) (by decide +kernel), List.mem_of_getElem? (i := 542) (by decide +kernel), List.mem_of_getElem? (i := 543) (by decide +kernel)⟩
theorem lw_p20 : lw_okq (⟨"SkinTwists$Images", "areTurns", "(ILSkinTwists$Row;)Z"⟩, 4) := ⟨⟨by decide +kernel, by decide +kernel⟩, List.mem_of_getElem? (i := 89) (by decide +kernel), List.mem_of_getElem? (i := 568) (by decide +kernel), List.mem_of_getElem? (i := 569) (by decide +kernel)⟩
theorem lw_p21 : lw_okq (⟨"SkinTwists$Images", "pushRim", "(ILSkinTwists$Row;)V"⟩, 4) := ⟨⟨by decide +kernel, by decide +kernel⟩, List.mem_of_getElem? (i := 89) (by decide +kernel), List.mem_of_getElem? (i := 572) (by decide +kernel), List.mem_of_getElem? (i := 573) (by decide +kernel)⟩
theorem lw_p22 : lw_okq (⟨"SkinTwists", "keepsSomeRing", "(LSkinTwists$Plan;I)Z"⟩, 13) := ⟨⟨by decide +kernel, by decide +kernel⟩, List.mem_of_getElem? (i := 15) (by decide +kernel), List.mem_of_getElem? (i := 629) (by decide +kernel), List.mem_of_getElem? (i := 630) (by decide +kernel)⟩
theorem lw_p23 : lw_okq (⟨"SkinTwists", "keepsRing", "(LSkinTwists$Plan;ILSkinTwists$Row;)Z"⟩, 13) := ⟨⟨by decide +kernel, by decide +kernel⟩, List.mem_of_getElem? (i := 15) (by decide +kernel), List.mem_of_getElem? (i := 633) (by decide +kernel), List.mem_of_getElem? (i := 634) (by decide +kernel)⟩
theorem lw_p24 : lw_okq (⟨"SkinTwists", "isTwist", "(I)Z"⟩, 13) := ⟨⟨by decide +kernel, by decide +kernel⟩, List.mem_of_getElem? (i := 15) (by decide +kernel), List.mem_of_getElem? (i := 641) (by decide +kernel), List.mem_of_getElem? (i := 642) (by decide +kernel)⟩
theorem lw_p25 : lw_okq (⟨"SkinTwists$Search", "measureAhead", "()V"⟩, 6) := ⟨⟨by decide +kernel, by decide +kernel⟩, List.mem_of_getElem? (i := 114) (by decide +kernel), List.mem_of_getElem? (i := 658) (by decide +kernel), List.mem_of_getElem? (i := 659) (by decide +kernel)⟩
theorem lw_p26 : lw_okq (⟨"SkinTwists$Search", "tryTwists", "(IIII)V"⟩, 6) := ⟨⟨by decide +kernel, by decide +kernel⟩, List.mem_of_getElem? (i := 114) (by decide +kernel), List.mem_of_getElem? (i := 668) (by decide +kernel), List.mem_of_getElem? (i := 669) (by decide +kernel)⟩
theorem lw_p27 : lw_okq (⟨"SkinTwists$Search", "spell", "(IILSkinTwists$Plan;)V"⟩, 6) := ⟨⟨by decide +kernel, by decide +kernel⟩, List.mem_of_getElem? (i := 114) (by decide +kernel), List.mem_of_getElem? (i := 672) (by decide +kernel), List.mem_of_getElem? (i := 673) (by decide +kernel)⟩
theorem lw_p28 : lw_okq (⟨"SkinTwists$Search", "doesAsImages", "(LSkinTwists$Plan;)Z"⟩, 6) := ⟨⟨by decide +kernel, by decide +kernel⟩, List.mem_of_getElem? (i := 114) (by decide +kernel), List.mem_of_getElem? (i := 685) (by decide +kernel), List.mem_of_getElem? (i := 686) (by decide +kernel)⟩
theorem lw_p29 : lw_okq (⟨"SkinTwistsModel", "lay", "(I)V"⟩, 28) := ⟨⟨by decide +kernel, by decide +kernel⟩, List.mem_of_getElem? (i := 692) (by decide +kernel), List.mem_of_getElem? (i := 698) (by decide +kernel), List.mem_of_getElem? (i := 699) (by decide +kernel)⟩
theorem lw_p30 : lw_okq (⟨"SkinTwistsModel", "isLetter", "(I)Z"⟩, 28) := ⟨⟨by decide +kernel, by decide +kernel⟩, List.mem_of_getElem? (i := 692) (by decide +kernel), List.mem_of_getElem? (i := 800) (by decide +kernel), List.mem_of_getElem? (i := 801) (by decide +kernel)⟩
theorem lw_p31 : lw_okq (⟨"SkinTwistsModel", "noRing", "(I)Z"⟩, 28) := ⟨⟨by decide +kernel, by decide +kernel⟩, List.mem_of_getElem? (i := 692) (by decide +kernel), List.mem_of_getElem? (i := 816) (by decide +kernel), List.mem_of_getElem? (i := 817) (by decide +kernel)⟩
def lw_privs_2 : List (MethodName × Nat) := [(⟨"SkinTwists$TextReader", "takeItem", "(II)I"⟩, 10), (⟨"SkinTwists", "isLetter", "(I)Z"⟩, 13), (⟨"SkinTwists", "carryToWork", "(II)Z"⟩, 13), (⟨"SkinTwists", "firstUnlike", "(LSkinTwists$Plan;LSkinTwists$Plan;)I"⟩, 13), (⟨"SkinTwists$Images", "areTurns", "(ILSkinTwists$Row;)Z"⟩, 4), (⟨"SkinTwists$Images", "pushRim", "(ILSkinTwists$Row;)V"⟩, 4), (⟨"SkinTwists", "keepsSomeRing", "(LSkinTwists$Plan;I)Z"⟩, 13), (⟨"SkinTwists", "keepsRing", "(LSkinTwists$Plan;ILSkinTwists$Row;)Z"⟩, 13), (⟨"SkinTwists", "isTwist", "(I)Z"⟩, 13), (⟨"SkinTwists$Search", "measureAhead", "()V"⟩, 6), (⟨"SkinTwists$Search", "tryTwists", "(IIII)V"⟩, 6), (⟨"SkinTwists$Search", "spell", "(IILSkinTwists$Plan;)V"⟩, 6), (⟨"SkinTwists$Search", "doesAsImages", "(LSkinTwists$Plan;)Z"⟩, 6), (⟨"SkinTwistsModel", "lay", "(I)V"⟩, 28), (⟨"SkinTwistsModel", "isLetter", "(I)Z"⟩, 28), (⟨"SkinTwistsModel", "noRing", "(I)Z"⟩, 28)]
theorem lw_r2 : ∀ q ∈ lw_privs_2, lw_okq q := List.forall_mem_cons.mpr ⟨lw_p16, List.forall_mem_cons.mpr ⟨lw_p17, List.forall_mem_cons.mpr ⟨lw_p18, List.forall_mem_cons.mpr ⟨lw_p19, List.forall_mem_cons.mpr ⟨lw_p20, List.forall_mem_cons.mpr ⟨lw_p21, List.forall_mem_cons.mpr ⟨lw_p22, List.forall_mem_cons.mpr ⟨lw_p23, List.forall_mem_cons.mpr ⟨lw_p24, List.forall_mem_cons.mpr ⟨lw_p25, List.forall_mem_cons.mpr ⟨lw_p26, List.forall_mem_cons.mpr ⟨lw_p27, List.forall_mem_cons.mpr ⟨lw_p28, List.forall_mem_cons.mpr ⟨lw_p29, List.forall_mem_cons.mpr ⟨lw_p30, List.forall_mem_cons.mpr ⟨lw_p31, fun _ h => absurd h List.not_mem_nil⟩⟩⟩⟩⟩⟩⟩⟩⟩⟩⟩⟩⟩⟩⟩⟩
theorem lw_p32 : lw_okq (⟨"SkinTwistsModel", "takeU", "(I)V"⟩, 28) := ⟨⟨by decide +kernel, by decide +kernel⟩, List.mem_of_getElem? (i := 692) (by decide +kernel), List.mem_of_getElem? (i := 820) (by decide +kernel), List.mem_of_getElem? (i := 821) (by decide +kernel)⟩
theorem lw_p33 : lw_okq (⟨"SkinTwistsModel", "takeV", "(I)V"⟩, 28) := ⟨⟨by decide +kernel, by decide +kernel⟩, List.mem_of_getElem? (i := 692) (by decide +kernel), List.mem_of_getElem? (i := 824) (by decide +kernel), List.mem_of_getElem? (i := 825) (by decide +kernel)⟩
theorem lw_p34 : lw_okq (⟨"SkinTwistsModel", "areOne", "()Z"⟩, 28) := ⟨⟨by decide +kernel, by decide +kernel⟩, List.mem_of_getElem? (i := 692) (by decide +kernel), List.mem_of_getElem? (i := 828) (by decide +kernel), List.mem_of_getElem? (i := 829) (by decide +kernel)⟩
theorem lw_p35 : lw_okq (⟨"SkinTwistsModel", "isTurned", "()Z"⟩, 28) := ⟨⟨by decide +kernel, by decide +kernel⟩, List.mem_of_getElem? (i := 692) (by decide +kernel), List.mem_of_getElem? (i := 832) (by decide +kernel), List.mem_of_getElem? (i := 833) (by decide +kernel)⟩
theorem lw_p36 : lw_okq (⟨"SkinTwistsModel", "ofU", "(I)I"⟩, 28) := ⟨⟨by decide +kernel, by decide +kernel⟩, List.mem_of_getElem? (i := 692) (by decide +kernel), List.mem_of_getElem? (i := 836) (by decide +kernel), List.mem_of_getElem? (i := 837) (by decide +kernel)⟩
theorem lw_p37 : lw_okq (⟨"SkinTwistsModel", "turnV", "()V"⟩, 28) := ⟨⟨by decide +kernel, by decide +kernel⟩, List.mem_of_getElem? (i := 692) (by decide +kernel), List.mem_of_getElem? (i := 840) (by decide +kernel), List.mem_of_getElem? (i := 841) (by decide +kernel)⟩
theorem lw_p38 : lw_okq (⟨"SkinTwistsModel", "isPower", "(I)Z"⟩, 28) := ⟨⟨by decide +kernel, by decide +kernel⟩, List.mem_of_getElem? (i := 692) (by decide +kernel), List.mem_of_getElem? (i := 851) (by decide +kernel), List.mem_of_getElem? (i := 852) (by decide +kernel)⟩
theorem lw_p39 : lw_okq (⟨"SkinTwistsModel", "meetingsOf", "(II)I"⟩, 28) := ⟨⟨by decide +kernel, by decide +kernel⟩, List.mem_of_getElem? (i := 692) (by decide +kernel), List.mem_of_getElem? (i := 855) (by decide +kernel), List.mem_of_getElem? (i := 856) (by decide +kernel)⟩
theorem lw_p40 : lw_okq (⟨"SkinTwistsModel", "meetings", "()I"⟩, 28) := ⟨⟨by decide +kernel, by decide +kernel⟩, List.mem_of_getElem? (i := 692) (by decide +kernel), List.mem_of_getElem? (i := 859) (by decide +kernel), List.mem_of_getElem? (i := 860) (by decide +kernel)⟩
theorem lw_p41 : lw_okq (⟨"SkinTwistsModel", "countMeetings", "(Z)I"⟩, 28) := ⟨⟨by decide +kernel, by decide +kernel⟩, List.mem_of_getElem? (i := 692) (by decide +kernel), List.mem_of_getElem? (i := 863) (by decide +kernel), List.mem_of_getElem? (i := 864) (by decide +kernel)⟩
theorem lw_p42 : lw_okq (⟨"SkinTwistsModel", "ofV", "(I)I"⟩, 28) := ⟨⟨by decide +kernel, by decide +kernel⟩, List.mem_of_getElem? (i := 692) (by decide +kernel), List.mem_of_getElem? (i := 867) (by decide +kernel), List.mem_of_getElem? (i := 868) (by decide +kernel)⟩
theorem lw_p43 : lw_okq (⟨"SkinTwistsModel", "meetAtOnce", "(IIII)Z"⟩, 28) := ⟨⟨by decide +kernel, by decide +kernel⟩, List.mem_of_getElem? (i := 692) (by decide +kernel), List.mem_of_getElem? (i := 871) (by decide +kernel), List.mem_of_getElem? (i := 872) (by decide +kernel)⟩
theorem lw_p44 : lw_okq (⟨"SkinTwistsModel", "farFrom", "(II)I"⟩, 28) := ⟨⟨by decide +kernel, by decide +kernel⟩, List.mem_of_getElem? (i := 692) (by decide +kernel), List.mem_of_getElem? (i := 875) (by decide +kernel), List.mem_of_getElem? (i := 876) (by decide +kernel)⟩
theorem lw_p45 : lw_okq (⟨"SkinTwistsModel", "meetAlong", "(II)Z"⟩, 28) := ⟨⟨by decide +kernel, by decide +kernel⟩, List.mem_of_getElem? (i := 692) (by decide +kernel), List.mem_of_getElem? (i := 882) (by decide +kernel), List.mem_of_getElem? (i := 883) (by decide +kernel)⟩
theorem lw_p46 : lw_okq (⟨"SkinTwistsModel", "goRound", "(III)Z"⟩, 28) := ⟨⟨by decide +kernel, by decide +kernel⟩, List.mem_of_getElem? (i := 692) (by decide +kernel), List.mem_of_getElem? (i := 886) (by decide +kernel), List.mem_of_getElem? (i := 887) (by decide +kernel)⟩
theorem lw_p47 : lw_okq (⟨"SkinTwistsModel", "isSimple", "(I)Z"⟩, 28) := ⟨⟨by decide +kernel, by decide +kernel⟩, List.mem_of_getElem? (i := 692) (by decide +kernel), List.mem_of_getElem? (i := 902) (by decide +kernel), List.mem_of_getElem? (i := 903) (by decide +kernel)⟩
def lw_privs_3 : List (MethodName × Nat) := [(⟨"SkinTwistsModel", "takeU", "(I)V"⟩, 28), (⟨"SkinTwistsModel", "takeV", "(I)V"⟩, 28), (⟨"SkinTwistsModel", "areOne", "()Z"⟩, 28), (⟨"SkinTwistsModel", "isTurned", "()Z"⟩, 28), (⟨"SkinTwistsModel", "ofU", "(I)I"⟩, 28), (⟨"SkinTwistsModel", "turnV", "()V"⟩, 28), (⟨"SkinTwistsModel", "isPower", "(I)Z"⟩, 28), (⟨"SkinTwistsModel", "meetingsOf", "(II)I"⟩, 28), (⟨"SkinTwistsModel", "meetings", "()I"⟩, 28), (⟨"SkinTwistsModel", "countMeetings", "(Z)I"⟩, 28), (⟨"SkinTwistsModel", "ofV", "(I)I"⟩, 28), (⟨"SkinTwistsModel", "meetAtOnce", "(IIII)Z"⟩, 28), (⟨"SkinTwistsModel", "farFrom", "(II)I"⟩, 28), (⟨"SkinTwistsModel", "meetAlong", "(II)Z"⟩, 28), (⟨"SkinTwistsModel", "goRound", "(III)Z"⟩, 28), (⟨"SkinTwistsModel", "isSimple", "(I)Z"⟩, 28)]
theorem lw_r3 : ∀ q ∈ lw_privs_3, lw_okq q := List.forall_mem_cons.mpr ⟨lw_p32, List.forall_mem_cons.mpr ⟨lw_p33, List.forall_mem_cons.mpr ⟨lw_p34, List.forall_mem_cons.mpr ⟨lw_p35, List.forall_mem_cons.mpr ⟨lw_p36, List.forall_mem_cons.mpr ⟨lw_p37, List.forall_mem_cons.mpr ⟨lw_p38, List.forall_mem_cons.mpr ⟨lw_p39, List.forall_mem_cons.mpr ⟨lw_p40, List.forall_mem_cons.mpr ⟨lw_p41, List.forall_mem_cons.mpr ⟨lw_p42, List.forall_mem_cons.mpr ⟨lw_p43, List.forall_mem_cons.mpr ⟨lw_p44, List.forall_mem_cons.mpr ⟨lw_p45, List.forall_mem_cons.mpr ⟨lw_p46, List.forall_mem_cons.mpr ⟨lw_p47, fun _ h => absurd h List.not_mem_nil⟩⟩⟩⟩⟩⟩⟩⟩⟩⟩⟩⟩⟩⟩⟩⟩
theorem lw_p48 : lw_okq (⟨"SkinTwistsModel", "noPlan", "(I)Z"⟩, 28) := ⟨⟨by decide +kernel, by decide +kernel⟩, List.mem_of_getElem? (i := 692) (by decide +kernel), List.mem_of_getElem? (i := 917) (by decide +kernel), List.mem_of_getElem? (i := 918) (by decide +kernel)⟩
theorem lw_p49 : lw_okq (⟨"SkinTwistsModel", "look", "()I"⟩, 28) := ⟨⟨by decide +kernel, by decide +kernel⟩, List.mem_of_getElem? (i := 692) (by decide +kernel), List.mem_of_getElem? (i := 922) (by decide +kernel), List.mem_of_getElem? (i := 923) (by decide +kernel)⟩
theorem lw_p50 : lw_okq (⟨"SkinTwistsModel", "readItem", "(I)V"⟩, 28) := ⟨⟨by decide +kernel, by decide +kernel⟩, List.mem_of_getElem? (i := 692) (by decide +kernel), List.mem_of_getElem? (i := 926) (by decide +kernel), List.mem_of_getElem? (i := 927) (by decide +kernel)⟩
theorem lw_p51 : lw_okq (⟨"SkinTwistsModel", "readTwist", "(I)V"⟩, 28) := ⟨⟨by decide +kernel, by decide +kernel⟩, List.mem_of_getElem? (i := 692) (by decide +kernel), List.mem_of_getElem? (i := 930) (by decide +kernel), List.mem_of_getElem? (i := 931) (by decide +kernel)⟩
theorem lw_p52 : lw_okq (⟨"SkinTwistsModel", "takeFigure", "(II)I"⟩, 28) := ⟨⟨by decide +kernel, by decide +kernel⟩, List.mem_of_getElem? (i := 692) (by decide +kernel), List.mem_of_getElem? (i := 934) (by decide +kernel), List.mem_of_getElem? (i := 935) (by decide +kernel)⟩
theorem lw_p53 : lw_okq (⟨"SkinTwistsModel", "want", "(ZII)Z"⟩, 28) := ⟨⟨by decide +kernel, by decide +kernel⟩, List.mem_of_getElem? (i := 692) (by decide +kernel), List.mem_of_getElem? (i := 940) (by decide +kernel), List.mem_of_getElem? (i := 941) (by decide +kernel)⟩
theorem lw_p54 : lw_okq (⟨"SkinTwistsModel", "closeBracket", "()V"⟩, 28) := ⟨⟨by decide +kernel, by decide +kernel⟩, List.mem_of_getElem? (i := 692) (by decide +kernel), List.mem_of_getElem? (i := 944) (by decide +kernel), List.mem_of_getElem? (i := 945) (by decide +kernel)⟩
theorem lw_p55 : lw_okq (⟨"SkinTwistsModel", "takeLetter", "(I)V"⟩, 28) := ⟨⟨by decide +kernel, by decide +kernel⟩, List.mem_of_getElem? (i := 692) (by decide +kernel), List.mem_of_getElem? (i := 968) (by decide +kernel), List.mem_of_getElem? (i := 969) (by decide +kernel)⟩
theorem lw_p56 : lw_okq (⟨"SkinTwistsModel", "imageRow", "(I)Z"⟩, 28) := ⟨⟨by decide +kernel, by decide +kernel⟩, List.mem_of_getElem? (i := 692) (by decide +kernel), List.mem_of_getElem? (i := 972) (by decide +kernel), List.mem_of_getElem? (i := 973) (by decide +kernel)⟩
theorem lw_p57 : lw_okq (⟨"SkinTwistsModel", "twistRow", "(I)Z"⟩, 28) := ⟨⟨by decide +kernel, by decide +kernel⟩, List.mem_of_getElem? (i := 692) (by decide +kernel), List.mem_of_getElem? (i := 976) (by decide +kernel), List.mem_of_getElem? (i := 977) (by decide +kernel)⟩
theorem lw_p58 : lw_okq (⟨"SkinTwistsModel", "putImage", "(IZIZ)V"⟩, 28) := ⟨⟨by decide +kernel, by decide +kernel⟩, List.mem_of_getElem? (i := 692) (by decide +kernel), List.mem_of_getElem? (i := 980) (by decide +kernel), List.mem_of_getElem? (i := 981) (by decide +kernel)⟩
theorem lw_p59 : lw_okq (⟨"SkinTwistsModel", "put", "(I)V"⟩, 28) := ⟨⟨by decide +kernel, by decide +kernel⟩, List.mem_of_getElem? (i := 692) (by decide +kernel), List.mem_of_getElem? (i := 984) (by decide +kernel), List.mem_of_getElem? (i := 985) (by decide +kernel)⟩
theorem lw_p60 : lw_okq (⟨"SkinTwistsModel", "putC", "(IZ)V"⟩, 28) := ⟨⟨by decide +kernel, by decide +kernel⟩, List.mem_of_getElem? (i := 692) (by decide +kernel), List.mem_of_getElem? (i := 988) (by decide +kernel), List.mem_of_getElem? (i := 989) (by decide +kernel)⟩
theorem lw_p61 : lw_okq (⟨"SkinTwistsModel", "takeRing", "(I)V"⟩, 28) := ⟨⟨by decide +kernel, by decide +kernel⟩, List.mem_of_getElem? (i := 692) (by decide +kernel), List.mem_of_getElem? (i := 996) (by decide +kernel), List.mem_of_getElem? (i := 997) (by decide +kernel)⟩
theorem lw_p62 : lw_okq (⟨"SkinTwistsModel", "closeToU", "()V"⟩, 28) := ⟨⟨by decide +kernel, by decide +kernel⟩, List.mem_of_getElem? (i := 692) (by decide +kernel), List.mem_of_getElem? (i := 1000) (by decide +kernel), List.mem_of_getElem? (i := 1001) (by decide +kernel)⟩
theorem lw_p63 : lw_okq (⟨"SkinTwistsModel", "findImages", "(I)Z"⟩, 28) := ⟨⟨by decide +kernel, by decide +kernel⟩, List.mem_of_getElem? (i := 692) (by decide +kernel), List.mem_of_getElem? (i := 1012) (by decide +kernel), List.mem_of_getElem? (i := 1013) (by decide +kernel)⟩
def lw_privs_4 : List (MethodName × Nat) := [(⟨"SkinTwistsModel", "noPlan", "(I)Z"⟩, 28), (⟨"SkinTwistsModel", "look", "()I"⟩, 28), (⟨"SkinTwistsModel", "readItem", "(I)V"⟩, 28), (⟨"SkinTwistsModel", "readTwist", "(I)V"⟩, 28), (⟨"SkinTwistsModel", "takeFigure", "(II)I"⟩, 28), (⟨"SkinTwistsModel", "want", "(ZII)Z"⟩, 28), (⟨"SkinTwistsModel", "closeBracket", "()V"⟩, 28), (⟨"SkinTwistsModel", "takeLetter", "(I)V"⟩, 28), (⟨"SkinTwistsModel", "imageRow", "(I)Z"⟩, 28), (⟨"SkinTwistsModel", "twistRow", "(I)Z"⟩, 28), (⟨"SkinTwistsModel", "putImage", "(IZIZ)V"⟩, 28), (⟨"SkinTwistsModel", "put", "(I)V"⟩, 28), (⟨"SkinTwistsModel", "putC", "(IZ)V"⟩, 28), (⟨"SkinTwistsModel", "takeRing", "(I)V"⟩, 28), (⟨"SkinTwistsModel", "closeToU", "()V"⟩, 28), (⟨"SkinTwistsModel", "findImages", "(I)Z"⟩, 28)]
theorem lw_r4 : ∀ q ∈ lw_privs_4, lw_okq q := List.forall_mem_cons.mpr ⟨lw_p48, List.forall_mem_cons.mpr ⟨lw_p49, List.forall_mem_cons.mpr ⟨lw_p50, List.forall_mem_cons.mpr ⟨lw_p51, List.forall_mem_cons.mpr ⟨lw_p52, List.forall_mem_cons.mpr ⟨lw_p53, List.forall_mem_cons.mpr ⟨lw_p54, List.forall_mem_cons.mpr ⟨lw_p55, List.forall_mem_cons.mpr ⟨lw_p56, List.forall_mem_cons.mpr ⟨lw_p57, List.forall_mem_cons.mpr ⟨lw_p58, List.forall_mem_cons.mpr ⟨lw_p59, List.forall_mem_cons.mpr ⟨lw_p60, List.forall_mem_cons.mpr ⟨lw_p61, List.forall_mem_cons.mpr ⟨lw_p62, List.forall_mem_cons.mpr ⟨lw_p63, fun _ h => absurd h List.not_mem_nil⟩⟩⟩⟩⟩⟩⟩⟩⟩⟩⟩⟩⟩⟩⟩⟩
theorem lw_p64 : lw_okq (⟨"SkinTwistsModel", "startImages", "()V"⟩, 28) := ⟨⟨by decide +kernel, by decide +kernel⟩, List.mem_of_getElem? (i := 692) (by decide +kernel), List.mem_of_getElem? (i := 1016) (by decide +kernel), List.mem_of_getElem? (i := 1017) (by decide +kernel)⟩
theorem lw_p65 : lw_okq (⟨"SkinTwistsModel", "goOn", "(I)Z"⟩, 28) := ⟨⟨by decide +kernel, by decide +kernel⟩, List.mem_of_getElem? (i := 692) (by decide +kernel), List.mem_of_getElem? (i := 1020) (by decide +kernel), List.mem_of_getElem? (i := 1021) (by decide +kernel)⟩
theorem lw_p66 : lw_okq (⟨"SkinTwistsModel", "isImage", "(I)Z"⟩, 28) := ⟨⟨by decide +kernel, by decide +kernel⟩, List.mem_of_getElem? (i := 692) (by decide +kernel), List.mem_of_getElem? (i := 1024) (by decide +kernel), List.mem_of_getElem? (i := 1025) (by decide +kernel)⟩
theorem lw_p67 : lw_okq (⟨"SkinTwistsModel", "findTurns", "()I"⟩, 28) := ⟨⟨by decide +kernel, by decide +kernel⟩, List.mem_of_getElem? (i := 692) (by decide +kernel), List.mem_of_getElem? (i := 1032) (by decide +kernel), List.mem_of_getElem? (i := 1033) (by decide +kernel)⟩
theorem lw_p68 : lw_okq (⟨"SkinTwistsModel", "isTurns", "(I)Z"⟩, 28) := ⟨⟨by decide +kernel, by decide +kernel⟩, List.mem_of_getElem? (i := 692) (by decide +kernel), List.mem_of_getElem? (i := 1036) (by decide +kernel), List.mem_of_getElem? (i := 1037) (by decide +kernel)⟩
theorem lw_p69 : lw_okq (⟨"SkinTwistsModel", "putRim", "(Z)V"⟩, 28) := ⟨⟨by decide +kernel, by decide +kernel⟩, List.mem_of_getElem? (i := 692) (by decide +kernel), List.mem_of_getElem? (i := 1040) (by decide +kernel), List.mem_of_getElem? (i := 1041) (by decide +kernel)⟩
theorem lw_p70 : lw_okq (⟨"SkinTwistsModel", "findOrder", "(II)I"⟩, 28) := ⟨⟨by decide +kernel, by decide +kernel⟩, List.mem_of_getElem? (i := 692) (by decide +kernel), List.mem_of_getElem? (i := 1049) (by decide +kernel), List.mem_of_getElem? (i := 1050) (by decide +kernel)⟩
theorem lw_p71 : lw_okq (⟨"SkinTwistsModel", "tableOf", "(II)I"⟩, 28) := ⟨⟨by decide +kernel, by decide +kernel⟩, List.mem_of_getElem? (i := 692) (by decide +kernel), List.mem_of_getElem? (i := 1057) (by decide +kernel), List.mem_of_getElem? (i := 1058) (by decide +kernel)⟩
theorem lw_p72 : lw_okq (⟨"SkinTwistsModel", "determinant", "(I)J"⟩, 28) := ⟨⟨by decide +kernel, by decide +kernel⟩, List.mem_of_getElem? (i := 692) (by decide +kernel), List.mem_of_getElem? (i := 1071) (by decide +kernel), List.mem_of_getElem? (i := 1072) (by decide +kernel)⟩
theorem lw_p73 : lw_okq (⟨"SkinTwistsModel", "lengthNow", "()I"⟩, 28) := ⟨⟨by decide +kernel, by decide +kernel⟩, List.mem_of_getElem? (i := 692) (by decide +kernel), List.mem_of_getElem? (i := 1080) (by decide +kernel), List.mem_of_getElem? (i := 1081) (by decide +kernel)⟩
theorem lw_p74 : lw_okq (⟨"SkinTwistsModel", "comesBack", "(III)Z"⟩, 28) := ⟨⟨by decide +kernel, by decide +kernel⟩, List.mem_of_getElem? (i := 692) (by decide +kernel), List.mem_of_getElem? (i := 1089) (by decide +kernel), List.mem_of_getElem? (i := 1090) (by decide +kernel)⟩
theorem lw_p75 : lw_okq (⟨"SkinTwistsModel", "twists", "()I"⟩, 28) := ⟨⟨by decide +kernel, by decide +kernel⟩, List.mem_of_getElem? (i := 692) (by decide +kernel), List.mem_of_getElem? (i := 1097) (by decide +kernel), List.mem_of_getElem? (i := 1098) (by decide +kernel)⟩
theorem lw_p76 : lw_okq (⟨"SkinTwistsModel", "draftPlan", "(III)V"⟩, 28) := ⟨⟨by decide +kernel, by decide +kernel⟩, List.mem_of_getElem? (i := 692) (by decide +kernel), List.mem_of_getElem? (i := 1101) (by decide +kernel), List.mem_of_getElem? (i := 1102) (by decide +kernel)⟩
theorem lw_p77 : lw_okq (⟨"SkinTwistsModel", "isDraftLike", "()Z"⟩, 28) := ⟨⟨by decide +kernel, by decide +kernel⟩, List.mem_of_getElem? (i := 692) (by decide +kernel), List.mem_of_getElem? (i := 1105) (by decide +kernel), List.mem_of_getElem? (i := 1106) (by decide +kernel)⟩
theorem lw_p78 : lw_okq (⟨"SkinTwistsModel", "power", "(I)I"⟩, 28) := ⟨⟨by decide +kernel, by decide +kernel⟩, List.mem_of_getElem? (i := 692) (by decide +kernel), List.mem_of_getElem? (i := 1114) (by decide +kernel), List.mem_of_getElem? (i := 1115) (by decide +kernel)⟩
theorem lw_p79 : lw_okq (⟨"SkinTwistsModel", "numberPlan", "(II)V"⟩, 28) := ⟨⟨by decide +kernel, by decide +kernel⟩, List.mem_of_getElem? (i := 692) (by decide +kernel), List.mem_of_getElem? (i := 1118) (by decide +kernel), List.mem_of_getElem? (i := 1119) (by decide +kernel)⟩
def lw_privs_5 : List (MethodName × Nat) := [(⟨"SkinTwistsModel", "startImages", "()V"⟩, 28), (⟨"SkinTwistsModel", "goOn", "(I)Z"⟩, 28), (⟨"SkinTwistsModel", "isImage", "(I)Z"⟩, 28), (⟨"SkinTwistsModel", "findTurns", "()I"⟩, 28), (⟨"SkinTwistsModel", "isTurns", "(I)Z"⟩, 28), (⟨"SkinTwistsModel", "putRim", "(Z)V"⟩, 28), (⟨"SkinTwistsModel", "findOrder", "(II)I"⟩, 28), (⟨"SkinTwistsModel", "tableOf", "(II)I"⟩, 28), (⟨"SkinTwistsModel", "determinant", "(I)J"⟩, 28), (⟨"SkinTwistsModel", "lengthNow", "()I"⟩, 28), (⟨"SkinTwistsModel", "comesBack", "(III)Z"⟩, 28), (⟨"SkinTwistsModel", "twists", "()I"⟩, 28), (⟨"SkinTwistsModel", "draftPlan", "(III)V"⟩, 28), (⟨"SkinTwistsModel", "isDraftLike", "()Z"⟩, 28), (⟨"SkinTwistsModel", "power", "(I)I"⟩, 28), (⟨"SkinTwistsModel", "numberPlan", "(II)V"⟩, 28)]
theorem lw_r5 : ∀ q ∈ lw_privs_5, lw_okq q := List.forall_mem_cons.mpr ⟨lw_p64, List.forall_mem_cons.mpr ⟨lw_p65, List.forall_mem_cons.mpr ⟨lw_p66, List.forall_mem_cons.mpr ⟨lw_p67, List.forall_mem_cons.mpr ⟨lw_p68, List.forall_mem_cons.mpr ⟨lw_p69, List.forall_mem_cons.mpr ⟨lw_p70, List.forall_mem_cons.mpr ⟨lw_p71, List.forall_mem_cons.mpr ⟨lw_p72, List.forall_mem_cons.mpr ⟨lw_p73, List.forall_mem_cons.mpr ⟨lw_p74, List.forall_mem_cons.mpr ⟨lw_p75, List.forall_mem_cons.mpr ⟨lw_p76, List.forall_mem_cons.mpr ⟨lw_p77, List.forall_mem_cons.mpr ⟨lw_p78, List.forall_mem_cons.mpr ⟨lw_p79, fun _ h => absurd h List.not_mem_nil⟩⟩⟩⟩⟩⟩⟩⟩⟩⟩⟩⟩⟩⟩⟩⟩
theorem lw_p80 : lw_okq (⟨"SkinTwistsModel", "carries", "(II)Z"⟩, 28) := ⟨⟨by decide +kernel, by decide +kernel⟩, List.mem_of_getElem? (i := 692) (by decide +kernel), List.mem_of_getElem? (i := 1122) (by decide +kernel), List.mem_of_getElem? (i := 1123) (by decide +kernel)⟩
def lw_privs_6 : List (MethodName × Nat) := [(⟨"SkinTwistsModel", "carries", "(II)Z"⟩, 28)]
theorem lw_r6 : ∀ q ∈ lw_privs_6, lw_okq q := List.forall_mem_cons.mpr ⟨lw_p80, fun _ h => absurd h List.not_mem_nil⟩
def lw_privs : List (MethodName × Nat) := lw_privs_1 ++ (lw_privs_2 ++ (lw_privs_3 ++ (lw_privs_4 ++ (lw_privs_5 ++ (lw_privs_6)))))
def lw_tbl : List Cond := k2_sels lw_privs ++ tables_1
theorem lw_privs_ok : ∀ q ∈ lw_privs, lw_okq q := by
  show ∀ q ∈ lw_privs_1 ++ (lw_privs_2 ++ (lw_privs_3 ++ (lw_privs_4 ++ (lw_privs_5 ++ (lw_privs_6))))), lw_okq q
  exact List.forall_mem_append.mpr ⟨lw_r1, List.forall_mem_append.mpr ⟨lw_r2, List.forall_mem_append.mpr ⟨lw_r3, List.forall_mem_append.mpr ⟨lw_r4, List.forall_mem_append.mpr ⟨lw_r5, lw_r6⟩⟩⟩⟩⟩
end
section
def RX0 : String := "SkinTwists$Images"
def TX0 : u_T := fun k => match k with
  | 0 => ("SkinTwists$Images", "rows", "[LSkinTwists$Row;", true)
  | 1 => ("SkinTwists$Images", "letters", "I", false)
  | 2 => ("SkinTwists$Images", "sums", "[I", true)
  | _ => ("SkinTwists$Images", "twister", "LSkinTwists$Twister;", true)
def tyX0 : Nat → FieldType := fun k => match k with
  | 0 => .array (.object "SkinTwists$Row")
  | 1 => .int
  | 2 => .array .int
  | _ => .object "SkinTwists$Twister"
theorem nmX0 : ∀ a, a < 4 → ∀ b, b < 4 → a ≠ b → (TX0 a).2.1 ≠ (TX0 b).2.1 := by decide +kernel
theorem tyX0_ok : ∀ k, k < 4 → parseFieldDescriptor (TX0 k).2.2.1 = some (tyX0 k) := by decide +kernel
abbrev cX0_init : ByteArray := prog_2_method_1_code
def yX0_init : MethodName := ⟨RX0, "<init>", "(LSkinTwists$Twister;)V"⟩
abbrev cX0_begin : ByteArray := prog_2_method_2_code
def yX0_begin : MethodName := ⟨RX0, "begin", "(I)V"⟩
abbrev cX0_doPlan : ByteArray := prog_2_method_3_code
def yX0_doPlan : MethodName := ⟨RX0, "doPlan", "(LSkinTwists$Plan;)Z"⟩
abbrev cX0_lettersTogether : ByteArray := prog_2_method_4_code
def yX0_lettersTogether : MethodName := ⟨RX0, "lettersTogether", "()I"⟩
abbrev cX0_fullTurns : ByteArray := prog_2_method_5_code
def yX0_fullTurns : MethodName := ⟨RX0, "fullTurns", "(LSkinTwists$Row;)I"⟩
abbrev cX0_areTurns : ByteArray := prog_2_method_6_code
def yX0_areTurns : MethodName := ⟨RX0, "areTurns", "(ILSkinTwists$Row;)Z"⟩
abbrev cX0_pushRim : ByteArray := prog_2_method_7_code
def yX0_pushRim : MethodName := ⟨RX0, "pushRim", "(ILSkinTwists$Row;)V"⟩
abbrev cX0_rimLetter : ByteArray := prog_2_method_8_code
def yX0_rimLetter : MethodName := ⟨RX0, "rimLetter", "(I)I"⟩
abbrev cX0_cornerSum : ByteArray := prog_2_method_9_code
def yX0_cornerSum : MethodName := ⟨RX0, "cornerSum", "(I)J"⟩
abbrev cX0_corner : ByteArray := prog_2_method_10_code
def yX0_corner : MethodName := ⟨RX0, "corner", "([IIII)J"⟩
def RX1 : String := "SkinTwists$Meetings"
def TX1 : u_T := fun k => match k with
  | _ => ("SkinTwists$Meetings", "back", "LSkinTwists$Row;", true)
def tyX1 : Nat → FieldType := fun k => match k with
  | _ => .object "SkinTwists$Row"
theorem nmX1 : ∀ a, a < 1 → ∀ b, b < 1 → a ≠ b → (TX1 a).2.1 ≠ (TX1 b).2.1 := by decide +kernel
theorem tyX1_ok : ∀ k, k < 1 → parseFieldDescriptor (TX1 k).2.2.1 = some (tyX1 k) := by decide +kernel
abbrev cX1_init : ByteArray := prog_3_method_1_code
def yX1_init : MethodName := ⟨RX1, "<init>", "()V"⟩
abbrev cX1_between : ByteArray := prog_3_method_2_code
def yX1_between : MethodName := ⟨RX1, "between", "(LSkinTwists$Row;LSkinTwists$Row;)I"⟩
abbrev cX1_crossings : ByteArray := prog_3_method_3_code
def yX1_crossings : MethodName := ⟨RX1, "crossings", "(LSkinTwists$Row;LSkinTwists$Row;Z)I"⟩
abbrev cX1_cross : ByteArray := prog_3_method_4_code
def yX1_cross : MethodName := ⟨RX1, "cross", "(IIII)Z"⟩
abbrev cX1_changeSides : ByteArray := prog_3_method_5_code
def yX1_changeSides : MethodName := ⟨RX1, "changeSides", "(LSkinTwists$Row;ILSkinTwists$Row;I)Z"⟩
abbrev cX1_goRound : ByteArray := prog_3_method_6_code
def yX1_goRound : MethodName := ⟨RX1, "goRound", "(III)Z"⟩
abbrev cX1_stepsRound : ByteArray := prog_3_method_7_code
def yX1_stepsRound : MethodName := ⟨RX1, "stepsRound", "(II)I"⟩
def RX2 : String := "SkinTwists$Plan"
def TX2 : u_T := fun k => match k with
  | 0 => ("SkinTwists$Plan", "codes", "[I", true)
  | _ => ("SkinTwists$Plan", "size", "I", false)
def tyX2 : Nat → FieldType := fun k => match k with
  | 0 => .array .int
  | _ => .int
theorem nmX2 : ∀ a, a < 2 → ∀ b, b < 2 → a ≠ b → (TX2 a).2.1 ≠ (TX2 b).2.1 := by decide +kernel
theorem tyX2_ok : ∀ k, k < 2 → parseFieldDescriptor (TX2 k).2.2.1 = some (tyX2 k) := by decide +kernel
abbrev cX2_init : ByteArray := prog_4_method_1_code
def yX2_init : MethodName := ⟨RX2, "<init>", "()V"⟩
abbrev cX2_add : ByteArray := prog_4_method_2_code
def yX2_add : MethodName := ⟨RX2, "add", "(I)V"⟩
abbrev cX2_addAll : ByteArray := prog_4_method_3_code
def yX2_addAll : MethodName := ⟨RX2, "addAll", "(LSkinTwists$Plan;)V"⟩
abbrev cX2_copy : ByteArray := prog_4_method_4_code
def yX2_copy : MethodName := ⟨RX2, "copy", "(LSkinTwists$Plan;)V"⟩
abbrev cX2_becomeReversed : ByteArray := prog_4_method_5_code
def yX2_becomeReversed : MethodName := ⟨RX2, "becomeReversed", "(LSkinTwists$Plan;)V"⟩
abbrev cX2_codeOrSize : ByteArray := prog_4_method_6_code
def yX2_codeOrSize : MethodName := ⟨RX2, "codeOrSize", "(I)I"⟩
def RX3 : String := "SkinTwists$Ring"
def TX3 : u_T := fun k => match k with
  | 0 => ("SkinTwists$Ring", "row", "LSkinTwists$Row;", true)
  | 1 => ("SkinTwists$Ring", "power", "Z", false)
  | _ => ("SkinTwists$Ring", "self", "I", false)
def tyX3 : Nat → FieldType := fun k => match k with
  | 0 => .object "SkinTwists$Row"
  | 1 => .boolean
  | _ => .int
theorem nmX3 : ∀ a, a < 3 → ∀ b, b < 3 → a ≠ b → (TX3 a).2.1 ≠ (TX3 b).2.1 := by decide +kernel
theorem tyX3_ok : ∀ k, k < 3 → parseFieldDescriptor (TX3 k).2.2.1 = some (tyX3 k) := by decide +kernel
abbrev cX3_init : ByteArray := prog_5_method_1_code
def yX3_init : MethodName := ⟨RX3, "<init>", "()V"⟩
abbrev cX3_become : ByteArray := prog_5_method_2_code
def yX3_become : MethodName := ⟨RX3, "become", "(LSkinTwists$Row;LSkinTwists$Meetings;)V"⟩
abbrev cX3_isSimple : ByteArray := prog_5_method_3_code
def yX3_isSimple : MethodName := ⟨RX3, "isSimple", "()Z"⟩
def RX4 : String := "SkinTwists$Row"
def TX4 : u_T := fun k => match k with
  | 0 => ("SkinTwists$Row", "cells", "[I", true)
  | _ => ("SkinTwists$Row", "size", "I", false)
def tyX4 : Nat → FieldType := fun k => match k with
  | 0 => .array .int
  | _ => .int
theorem nmX4 : ∀ a, a < 2 → ∀ b, b < 2 → a ≠ b → (TX4 a).2.1 ≠ (TX4 b).2.1 := by decide +kernel
theorem tyX4_ok : ∀ k, k < 2 → parseFieldDescriptor (TX4 k).2.2.1 = some (tyX4 k) := by decide +kernel
abbrev cX4_init : ByteArray := prog_6_method_1_code
def yX4_init : MethodName := ⟨RX4, "<init>", "(I)V"⟩
abbrev cX4_push : ByteArray := prog_6_method_2_code
def yX4_push : MethodName := ⟨RX4, "push", "(I)V"⟩
abbrev cX4_becomeLetter : ByteArray := prog_6_method_3_code
def yX4_becomeLetter : MethodName := ⟨RX4, "becomeLetter", "(I)V"⟩
abbrev cX4_copy : ByteArray := prog_6_method_4_code
def yX4_copy : MethodName := ⟨RX4, "copy", "(LSkinTwists$Row;)V"⟩
abbrev cX4_becomeBack : ByteArray := prog_6_method_5_code
def yX4_becomeBack : MethodName := ⟨RX4, "becomeBack", "(LSkinTwists$Row;)V"⟩
abbrev cX4_looseEnds : ByteArray := prog_6_method_6_code
def yX4_looseEnds : MethodName := ⟨RX4, "looseEnds", "()I"⟩
abbrev cX4_closedSize : ByteArray := prog_6_method_7_code
def yX4_closedSize : MethodName := ⟨RX4, "closedSize", "()I"⟩
abbrev cX4_close : ByteArray := prog_6_method_8_code
def yX4_close : MethodName := ⟨RX4, "close", "()V"⟩
abbrev cX4_isLike : ByteArray := prog_6_method_9_code
def yX4_isLike : MethodName := ⟨RX4, "isLike", "(LSkinTwists$Row;)Z"⟩
abbrev cX4_isOneWith : ByteArray := prog_6_method_10_code
def yX4_isOneWith : MethodName := ⟨RX4, "isOneWith", "(LSkinTwists$Row;)Z"⟩
abbrev cX4_runsAlong : ByteArray := prog_6_method_11_code
def yX4_runsAlong : MethodName := ⟨RX4, "runsAlong", "(ILSkinTwists$Row;I)Z"⟩
abbrev cX4_runsAgainst : ByteArray := prog_6_method_12_code
def yX4_runsAgainst : MethodName := ⟨RX4, "runsAgainst", "(ILSkinTwists$Row;I)Z"⟩
abbrev cX4_isPower : ByteArray := prog_6_method_13_code
def yX4_isPower : MethodName := ⟨RX4, "isPower", "()Z"⟩
abbrev cX4_repeats : ByteArray := prog_6_method_14_code
def yX4_repeats : MethodName := ⟨RX4, "repeats", "(I)Z"⟩
abbrev cX4_balanceOf : ByteArray := prog_6_method_15_code
def yX4_balanceOf : MethodName := ⟨RX4, "balanceOf", "(I)I"⟩
def RX5 : String := "SkinTwists$Search"
def TX5 : u_T := fun k => match k with
  | 0 => ("SkinTwists$Search", "twister", "LSkinTwists$Twister;", true)
  | 1 => ("SkinTwists$Search", "images", "LSkinTwists$Images;", true)
  | 2 => ("SkinTwists$Search", "steps", "[LSkinTwists$Row;", true)
  | 3 => ("SkinTwists$Search", "sizesAhead", "[I", true)
  | 4 => ("SkinTwists$Search", "goal", "LSkinTwists$Row;", true)
  | _ => ("SkinTwists$Search", "best", "I", false)
def tyX5 : Nat → FieldType := fun k => match k with
  | 0 => .object "SkinTwists$Twister"
  | 1 => .object "SkinTwists$Images"
  | 2 => .array (.object "SkinTwists$Row")
  | 3 => .array .int
  | 4 => .object "SkinTwists$Row"
  | _ => .int
theorem nmX5 : ∀ a, a < 6 → ∀ b, b < 6 → a ≠ b → (TX5 a).2.1 ≠ (TX5 b).2.1 := by decide +kernel
theorem tyX5_ok : ∀ k, k < 6 → parseFieldDescriptor (TX5 k).2.2.1 = some (tyX5 k) := by decide +kernel
abbrev cX5_init : ByteArray := prog_7_method_1_code
def yX5_init : MethodName := ⟨RX5, "<init>", "(LSkinTwists$Twister;LSkinTwists$Images;)V"⟩
abbrev cX5_forCarrying : ByteArray := prog_7_method_2_code
def yX5_forCarrying : MethodName := ⟨RX5, "forCarrying", "(LSkinTwists$Row;LSkinTwists$Row;ILSkinTwists$Plan;)Z"⟩
abbrev cX5_measureAhead : ByteArray := prog_7_method_3_code
def yX5_measureAhead : MethodName := ⟨RX5, "measureAhead", "()V"⟩
abbrev cX5_tryTwists : ByteArray := prog_7_method_4_code
def yX5_tryTwists : MethodName := ⟨RX5, "tryTwists", "(IIII)V"⟩
abbrev cX5_spell : ByteArray := prog_7_method_5_code
def yX5_spell : MethodName := ⟨RX5, "spell", "(IILSkinTwists$Plan;)V"⟩
abbrev cX5_forImages : ByteArray := prog_7_method_6_code
def yX5_forImages : MethodName := ⟨RX5, "forImages", "(ILSkinTwists$Plan;)Z"⟩
abbrev cX5_doesAsImages : ByteArray := prog_7_method_7_code
def yX5_doesAsImages : MethodName := ⟨RX5, "doesAsImages", "(LSkinTwists$Plan;)Z"⟩
def RX6 : String := "SkinTwists$TextReader"
def TX6 : u_T := fun k => match k with
  | 0 => ("SkinTwists$TextReader", "size", "I", false)
  | 1 => ("SkinTwists$TextReader", "faultByte", "I", false)
  | 2 => ("SkinTwists$TextReader", "plan", "LSkinTwists$Plan;", true)
  | 3 => ("SkinTwists$TextReader", "text", "[I", true)
  | 4 => ("SkinTwists$TextReader", "opened", "[I", true)
  | 5 => ("SkinTwists$TextReader", "handles", "I", false)
  | 6 => ("SkinTwists$TextReader", "open", "I", false)
  | 7 => ("SkinTwists$TextReader", "state", "I", false)
  | 8 => ("SkinTwists$TextReader", "kind", "I", false)
  | _ => ("SkinTwists$TextReader", "kindByte", "I", false)
def tyX6 : Nat → FieldType := fun k => match k with
  | 0 => .int
  | 1 => .int
  | 2 => .object "SkinTwists$Plan"
  | 3 => .array .int
  | 4 => .array .int
  | 5 => .int
  | 6 => .int
  | 7 => .int
  | 8 => .int
  | _ => .int
theorem nmX6 : ∀ a, a < 10 → ∀ b, b < 10 → a ≠ b → (TX6 a).2.1 ≠ (TX6 b).2.1 := by decide +kernel
theorem tyX6_ok : ∀ k, k < 10 → parseFieldDescriptor (TX6 k).2.2.1 = some (tyX6 k) := by decide +kernel
abbrev cX6_init : ByteArray := prog_8_method_1_code
def yX6_init : MethodName := ⟨RX6, "<init>", "()V"⟩
abbrev cX6_add : ByteArray := prog_8_method_2_code
def yX6_add : MethodName := ⟨RX6, "add", "(I)V"⟩
abbrev cX6_understand : ByteArray := prog_8_method_3_code
def yX6_understand : MethodName := ⟨RX6, "understand", "(I)I"⟩
abbrev cX6_take : ByteArray := prog_8_method_4_code
def yX6_take : MethodName := ⟨RX6, "take", "(II)I"⟩
abbrev cX6_isFigure : ByteArray := prog_8_method_5_code
def yX6_isFigure : MethodName := ⟨RX6, "isFigure", "(I)Z"⟩
abbrev cX6_takeHandle : ByteArray := prog_8_method_6_code
def yX6_takeHandle : MethodName := ⟨RX6, "takeHandle", "(I)I"⟩
abbrev cX6_takeTimes : ByteArray := prog_8_method_7_code
def yX6_takeTimes : MethodName := ⟨RX6, "takeTimes", "(I)I"⟩
abbrev cX6_takeItem : ByteArray := prog_8_method_8_code
def yX6_takeItem : MethodName := ⟨RX6, "takeItem", "(II)I"⟩
def RX7 : String := "SkinTwists$Twister"
def TX7 : u_T := fun k => match k with
  | 0 => ("SkinTwists$Twister", "twists", "I", false)
  | 1 => ("SkinTwists$Twister", "words", "[I", true)
  | 2 => ("SkinTwists$Twister", "wide", "[I", true)
  | 3 => ("SkinTwists$Twister", "word", "LSkinTwists$Row;", true)
  | _ => ("SkinTwists$Twister", "wordBack", "LSkinTwists$Row;", true)
def tyX7 : Nat → FieldType := fun k => match k with
  | 0 => .int
  | 1 => .array .int
  | 2 => .array .int
  | 3 => .object "SkinTwists$Row"
  | _ => .object "SkinTwists$Row"
theorem nmX7 : ∀ a, a < 5 → ∀ b, b < 5 → a ≠ b → (TX7 a).2.1 ≠ (TX7 b).2.1 := by decide +kernel
theorem tyX7_ok : ∀ k, k < 5 → parseFieldDescriptor (TX7 k).2.2.1 = some (tyX7 k) := by decide +kernel
abbrev cX7_init : ByteArray := prog_9_method_1_code
def yX7_init : MethodName := ⟨RX7, "<init>", "()V"⟩
abbrev cX7_layOut : ByteArray := prog_9_method_2_code
def yX7_layOut : MethodName := ⟨RX7, "layOut", "(I)V"⟩
abbrev cX7_layWord : ByteArray := prog_9_method_3_code
def yX7_layWord : MethodName := ⟨RX7, "layWord", "(III)V"⟩
abbrev cX7_spellFirst : ByteArray := prog_9_method_4_code
def yX7_spellFirst : MethodName := ⟨RX7, "spellFirst", "(III)V"⟩
abbrev cX7_spellSecond : ByteArray := prog_9_method_5_code
def yX7_spellSecond : MethodName := ⟨RX7, "spellSecond", "(III)V"⟩
abbrev cX7_spellThird : ByteArray := prog_9_method_6_code
def yX7_spellThird : MethodName := ⟨RX7, "spellThird", "(III)V"⟩
abbrev cX7_spellBetween : ByteArray := prog_9_method_7_code
def yX7_spellBetween : MethodName := ⟨RX7, "spellBetween", "(II)V"⟩
abbrev cX7_slotOf : ByteArray := prog_9_method_8_code
def yX7_slotOf : MethodName := ⟨RX7, "slotOf", "(II)I"⟩
abbrev cX7_keepWord : ByteArray := prog_9_method_9_code
def yX7_keepWord : MethodName := ⟨RX7, "keepWord", "(IILSkinTwists$Row;)V"⟩
abbrev cX7_doTwist : ByteArray := prog_9_method_10_code
def yX7_doTwist : MethodName := ⟨RX7, "doTwist", "(ILSkinTwists$Row;)Z"⟩
abbrev cX7_doPlan : ByteArray := prog_9_method_11_code
def yX7_doPlan : MethodName := ⟨RX7, "doPlan", "(LSkinTwists$Plan;LSkinTwists$Row;)Z"⟩
def RX8 : String := "SkinTwists"
def TX8 : u_T := fun k => match k with
  | 0 => ("SkinTwists", "rings", "[LSkinTwists$Ring;", true)
  | 1 => ("SkinTwists", "plans", "[LSkinTwists$Plan;", true)
  | 2 => ("SkinTwists", "draft", "LSkinTwists$Row;", true)
  | 3 => ("SkinTwists", "twister", "LSkinTwists$Twister;", true)
  | 4 => ("SkinTwists", "meetings", "LSkinTwists$Meetings;", true)
  | 5 => ("SkinTwists", "images", "LSkinTwists$Images;", true)
  | 6 => ("SkinTwists", "search", "LSkinTwists$Search;", true)
  | 7 => ("SkinTwists", "reader", "LSkinTwists$TextReader;", true)
  | 8 => ("SkinTwists", "work", "LSkinTwists$Row;", true)
  | 9 => ("SkinTwists", "left", "LSkinTwists$Plan;", true)
  | 10 => ("SkinTwists", "right", "LSkinTwists$Plan;", true)
  | 11 => ("SkinTwists", "handles", "I", false)
  | _ => ("SkinTwists", "ringCount", "I", false)
def tyX8 : Nat → FieldType := fun k => match k with
  | 0 => .array (.object "SkinTwists$Ring")
  | 1 => .array (.object "SkinTwists$Plan")
  | 2 => .object "SkinTwists$Row"
  | 3 => .object "SkinTwists$Twister"
  | 4 => .object "SkinTwists$Meetings"
  | 5 => .object "SkinTwists$Images"
  | 6 => .object "SkinTwists$Search"
  | 7 => .object "SkinTwists$TextReader"
  | 8 => .object "SkinTwists$Row"
  | 9 => .object "SkinTwists$Plan"
  | 10 => .object "SkinTwists$Plan"
  | 11 => .int
  | _ => .int
theorem nmX8 : ∀ a, a < 13 → ∀ b, b < 13 → a ≠ b → (TX8 a).2.1 ≠ (TX8 b).2.1 := by decide +kernel
theorem tyX8_ok : ∀ k, k < 13 → parseFieldDescriptor (TX8 k).2.2.1 = some (tyX8 k) := by decide +kernel
abbrev cX8_init : ByteArray := prog_1_method_1_code
def yX8_init : MethodName := ⟨RX8, "<init>", "()V"⟩
abbrev cX8_skin : ByteArray := prog_1_method_2_code
def yX8_skin : MethodName := ⟨RX8, "skin", "(I)I"⟩
abbrev cX8_letter : ByteArray := prog_1_method_3_code
def yX8_letter : MethodName := ⟨RX8, "letter", "(I)I"⟩
abbrev cX8_ring : ByteArray := prog_1_method_4_code
def yX8_ring : MethodName := ⟨RX8, "ring", "()I"⟩
abbrev cX8_told : ByteArray := prog_1_method_5_code
def yX8_told : MethodName := ⟨RX8, "told", "(II)I"⟩
abbrev cX8_at : ByteArray := prog_1_method_6_code
def yX8_at : MethodName := ⟨RX8, "at", "(II)I"⟩
abbrev cX8_meets : ByteArray := prog_1_method_7_code
def yX8_meets : MethodName := ⟨RX8, "meets", "(II)I"⟩
abbrev cX8_one : ByteArray := prog_1_method_8_code
def yX8_one : MethodName := ⟨RX8, "one", "(II)I"⟩
abbrev cX8_heap : ByteArray := prog_1_method_9_code
def yX8_heap : MethodName := ⟨RX8, "heap", "(I)I"⟩
abbrev cX8_drop : ByteArray := prog_1_method_10_code
def yX8_drop : MethodName := ⟨RX8, "drop", "()I"⟩
abbrev cX8_count : ByteArray := prog_1_method_11_code
def yX8_count : MethodName := ⟨RX8, "count", "(I)I"⟩
abbrev cX8_feed : ByteArray := prog_1_method_12_code
def yX8_feed : MethodName := ⟨RX8, "feed", "(IJ)I"⟩
abbrev cX8_read : ByteArray := prog_1_method_13_code
def yX8_read : MethodName := ⟨RX8, "read", "(I)I"⟩
abbrev cX8_fault : ByteArray := prog_1_method_14_code
def yX8_fault : MethodName := ⟨RX8, "fault", "()I"⟩
abbrev cX8_twist : ByteArray := prog_1_method_15_code
def yX8_twist : MethodName := ⟨RX8, "twist", "(II)I"⟩
abbrev cX8_chain : ByteArray := prog_1_method_16_code
def yX8_chain : MethodName := ⟨RX8, "chain", "(III)I"⟩
abbrev cX8_turn : ByteArray := prog_1_method_17_code
def yX8_turn : MethodName := ⟨RX8, "turn", "(II)I"⟩
abbrev cX8_image : ByteArray := prog_1_method_18_code
def yX8_image : MethodName := ⟨RX8, "image", "(III)I"⟩
abbrev cX8_carried : ByteArray := prog_1_method_19_code
def yX8_carried : MethodName := ⟨RX8, "carried", "(III)I"⟩
abbrev cX8_meetsThen : ByteArray := prog_1_method_20_code
def yX8_meetsThen : MethodName := ⟨RX8, "meetsThen", "(III)I"⟩
abbrev cX8_same : ByteArray := prog_1_method_21_code
def yX8_same : MethodName := ⟨RX8, "same", "(II)I"⟩
abbrev cX8_turns : ByteArray := prog_1_method_22_code
def yX8_turns : MethodName := ⟨RX8, "turns", "(I)I"⟩
abbrev cX8_order : ByteArray := prog_1_method_23_code
def yX8_order : MethodName := ⟨RX8, "order", "(II)I"⟩
abbrev cX8_table : ByteArray := prog_1_method_24_code
def yX8_table : MethodName := ⟨RX8, "table", "(III)I"⟩
abbrev cX8_character : ByteArray := prog_1_method_25_code
def yX8_character : MethodName := ⟨RX8, "character", "(II)J"⟩
abbrev cX8_length : ByteArray := prog_1_method_26_code
def yX8_length : MethodName := ⟨RX8, "length", "(II)I"⟩
abbrev cX8_sort : ByteArray := prog_1_method_27_code
def yX8_sort : MethodName := ⟨RX8, "sort", "(II)I"⟩
abbrev cX8_law : ByteArray := prog_1_method_28_code
def yX8_law : MethodName := ⟨RX8, "law", "(II)I"⟩
abbrev cX8_carry : ByteArray := prog_1_method_29_code
def yX8_carry : MethodName := ⟨RX8, "carry", "(IIII)I"⟩
abbrev cX8_fewest : ByteArray := prog_1_method_30_code
def yX8_fewest : MethodName := ⟨RX8, "fewest", "(III)I"⟩
abbrev cX8_layOut : ByteArray := prog_1_method_31_code
def yX8_layOut : MethodName := ⟨RX8, "layOut", "(I)V"⟩
abbrev cX8_isRing : ByteArray := prog_1_method_32_code
def yX8_isRing : MethodName := ⟨RX8, "isRing", "(I)Z"⟩
abbrev cX8_isPlan : ByteArray := prog_1_method_33_code
def yX8_isPlan : MethodName := ⟨RX8, "isPlan", "(I)Z"⟩
abbrev cX8_isTwist : ByteArray := prog_1_method_34_code
def yX8_isTwist : MethodName := ⟨RX8, "isTwist", "(I)Z"⟩
abbrev cX8_isLetter : ByteArray := prog_1_method_35_code
def yX8_isLetter : MethodName := ⟨RX8, "isLetter", "(I)Z"⟩
abbrev cX8_isSearch : ByteArray := prog_1_method_36_code
def yX8_isSearch : MethodName := ⟨RX8, "isSearch", "(II)Z"⟩
abbrev cX8_oneIf : ByteArray := prog_1_method_37_code
def yX8_oneIf : MethodName := ⟨RX8, "oneIf", "(Z)I"⟩
abbrev cX8_firstBarring : ByteArray := prog_1_method_38_code
def yX8_firstBarring : MethodName := ⟨RX8, "firstBarring", "(II)I"⟩
abbrev cX8_carryToWork : ByteArray := prog_1_method_39_code
def yX8_carryToWork : MethodName := ⟨RX8, "carryToWork", "(II)Z"⟩
abbrev cX8_firstUnlike : ByteArray := prog_1_method_40_code
def yX8_firstUnlike : MethodName := ⟨RX8, "firstUnlike", "(LSkinTwists$Plan;LSkinTwists$Plan;)I"⟩
abbrev cX8_keepsSomeRing : ByteArray := prog_1_method_41_code
def yX8_keepsSomeRing : MethodName := ⟨RX8, "keepsSomeRing", "(LSkinTwists$Plan;I)Z"⟩
abbrev cX8_keepsRing : ByteArray := prog_1_method_42_code
def yX8_keepsRing : MethodName := ⟨RX8, "keepsRing", "(LSkinTwists$Plan;ILSkinTwists$Row;)Z"⟩
def RX9 : String := "SkinTwistsModel"
def TX9 : u_T := fun k => match k with
  | 0 => ("SkinTwistsModel", "g", "I", false)
  | 1 => ("SkinTwistsModel", "drafts", "I", false)
  | 2 => ("SkinTwistsModel", "draft", "[I", true)
  | 3 => ("SkinTwistsModel", "rings", "I", false)
  | 4 => ("SkinTwistsModel", "ringSize", "[I", true)
  | 5 => ("SkinTwistsModel", "rings0", "[I", true)
  | 6 => ("SkinTwistsModel", "planSize", "[I", true)
  | 7 => ("SkinTwistsModel", "plans", "[I", true)
  | 8 => ("SkinTwistsModel", "u", "[I", true)
  | 9 => ("SkinTwistsModel", "uSize", "I", false)
  | 10 => ("SkinTwistsModel", "v", "[I", true)
  | 11 => ("SkinTwistsModel", "vSize", "I", false)
  | 12 => ("SkinTwistsModel", "rowA", "[I", true)
  | 13 => ("SkinTwistsModel", "sizeA", "I", false)
  | 14 => ("SkinTwistsModel", "rowB", "[I", true)
  | 15 => ("SkinTwistsModel", "sizeB", "I", false)
  | 16 => ("SkinTwistsModel", "text", "[I", true)
  | 17 => ("SkinTwistsModel", "textSize", "I", false)
  | 18 => ("SkinTwistsModel", "here", "I", false)
  | 19 => ("SkinTwistsModel", "faultOf", "I", false)
  | 20 => ("SkinTwistsModel", "place", "I", false)
  | 21 => ("SkinTwistsModel", "opened", "[I", true)
  | 22 => ("SkinTwistsModel", "deep", "I", false)
  | 23 => ("SkinTwistsModel", "newPlan", "[I", true)
  | 24 => ("SkinTwistsModel", "newSize", "I", false)
  | 25 => ("SkinTwistsModel", "image", "[I", true)
  | 26 => ("SkinTwistsModel", "imageSize", "[I", true)
  | _ => ("SkinTwistsModel", "minors", "[J", true)
def tyX9 : Nat → FieldType := fun k => match k with
  | 0 => .int
  | 1 => .int
  | 2 => .array .int
  | 3 => .int
  | 4 => .array .int
  | 5 => .array .int
  | 6 => .array .int
  | 7 => .array .int
  | 8 => .array .int
  | 9 => .int
  | 10 => .array .int
  | 11 => .int
  | 12 => .array .int
  | 13 => .int
  | 14 => .array .int
  | 15 => .int
  | 16 => .array .int
  | 17 => .int
  | 18 => .int
  | 19 => .int
  | 20 => .int
  | 21 => .array .int
  | 22 => .int
  | 23 => .array .int
  | 24 => .int
  | 25 => .array .int
  | 26 => .array .int
  | _ => .array .long
theorem nmX9 : ∀ a, a < 28 → ∀ b, b < 28 → a ≠ b → (TX9 a).2.1 ≠ (TX9 b).2.1 := by decide +kernel
theorem tyX9_ok : ∀ k, k < 28 → parseFieldDescriptor (TX9 k).2.2.1 = some (tyX9 k) := by decide +kernel
abbrev cX9_init : ByteArray := prog_11_method_1_code
def yX9_init : MethodName := ⟨RX9, "<init>", "()V"⟩
abbrev cX9_in : ByteArray := prog_11_method_3_code
def yX9_in : MethodName := ⟨RX9, "in", "(JJJ)Z"⟩
abbrev cX9_bit : ByteArray := prog_11_method_4_code
def yX9_bit : MethodName := ⟨RX9, "bit", "(Z)I"⟩
abbrev cX9_lay : ByteArray := prog_11_method_5_code
def yX9_lay : MethodName := ⟨RX9, "lay", "(I)V"⟩
abbrev cX9_skin : ByteArray := prog_11_method_6_code
def yX9_skin : MethodName := ⟨RX9, "skin", "(I)I"⟩
abbrev cX9_twists : ByteArray := prog_11_method_7_code
def yX9_twists : MethodName := ⟨RX9, "twists", "()I"⟩
abbrev cX9_isLetter : ByteArray := prog_11_method_8_code
def yX9_isLetter : MethodName := ⟨RX9, "isLetter", "(I)Z"⟩
abbrev cX9_letter : ByteArray := prog_11_method_9_code
def yX9_letter : MethodName := ⟨RX9, "letter", "(I)I"⟩
abbrev cX9_ring : ByteArray := prog_11_method_10_code
def yX9_ring : MethodName := ⟨RX9, "ring", "()I"⟩
abbrev cX9_noRing : ByteArray := prog_11_method_11_code
def yX9_noRing : MethodName := ⟨RX9, "noRing", "(I)Z"⟩
abbrev cX9_drop : ByteArray := prog_11_method_12_code
def yX9_drop : MethodName := ⟨RX9, "drop", "()I"⟩
abbrev cX9_takeU : ByteArray := prog_11_method_13_code
def yX9_takeU : MethodName := ⟨RX9, "takeU", "(I)V"⟩
abbrev cX9_takeV : ByteArray := prog_11_method_14_code
def yX9_takeV : MethodName := ⟨RX9, "takeV", "(I)V"⟩
abbrev cX9_turnV : ByteArray := prog_11_method_15_code
def yX9_turnV : MethodName := ⟨RX9, "turnV", "()V"⟩
abbrev cX9_ofU : ByteArray := prog_11_method_16_code
def yX9_ofU : MethodName := ⟨RX9, "ofU", "(I)I"⟩
abbrev cX9_ofV : ByteArray := prog_11_method_17_code
def yX9_ofV : MethodName := ⟨RX9, "ofV", "(I)I"⟩
abbrev cX9_isTurned : ByteArray := prog_11_method_18_code
def yX9_isTurned : MethodName := ⟨RX9, "isTurned", "()Z"⟩
abbrev cX9_areOne : ByteArray := prog_11_method_19_code
def yX9_areOne : MethodName := ⟨RX9, "areOne", "()Z"⟩
abbrev cX9_one : ByteArray := prog_11_method_20_code
def yX9_one : MethodName := ⟨RX9, "one", "(II)I"⟩
abbrev cX9_isPower : ByteArray := prog_11_method_21_code
def yX9_isPower : MethodName := ⟨RX9, "isPower", "(I)Z"⟩
abbrev cX9_placeOf : ByteArray := prog_11_method_22_code
def yX9_placeOf : MethodName := ⟨RX9, "placeOf", "(I)I"⟩
abbrev cX9_farFrom : ByteArray := prog_11_method_23_code
def yX9_farFrom : MethodName := ⟨RX9, "farFrom", "(II)I"⟩
abbrev cX9_goRound : ByteArray := prog_11_method_24_code
def yX9_goRound : MethodName := ⟨RX9, "goRound", "(III)Z"⟩
abbrev cX9_meetAtOnce : ByteArray := prog_11_method_25_code
def yX9_meetAtOnce : MethodName := ⟨RX9, "meetAtOnce", "(IIII)Z"⟩
abbrev cX9_meetAlong : ByteArray := prog_11_method_26_code
def yX9_meetAlong : MethodName := ⟨RX9, "meetAlong", "(II)Z"⟩
abbrev cX9_countMeetings : ByteArray := prog_11_method_27_code
def yX9_countMeetings : MethodName := ⟨RX9, "countMeetings", "(Z)I"⟩
abbrev cX9_meetings : ByteArray := prog_11_method_28_code
def yX9_meetings : MethodName := ⟨RX9, "meetings", "()I"⟩
abbrev cX9_meetingsOf : ByteArray := prog_11_method_29_code
def yX9_meetingsOf : MethodName := ⟨RX9, "meetingsOf", "(II)I"⟩
abbrev cX9_isSimple : ByteArray := prog_11_method_30_code
def yX9_isSimple : MethodName := ⟨RX9, "isSimple", "(I)Z"⟩
abbrev cX9_meets : ByteArray := prog_11_method_31_code
def yX9_meets : MethodName := ⟨RX9, "meets", "(II)I"⟩
abbrev cX9_told : ByteArray := prog_11_method_32_code
def yX9_told : MethodName := ⟨RX9, "told", "(II)I"⟩
abbrev cX9_at : ByteArray := prog_11_method_33_code
def yX9_at : MethodName := ⟨RX9, "at", "(II)I"⟩
abbrev cX9_heap : ByteArray := prog_11_method_34_code
def yX9_heap : MethodName := ⟨RX9, "heap", "(I)I"⟩
abbrev cX9_put : ByteArray := prog_11_method_35_code
def yX9_put : MethodName := ⟨RX9, "put", "(I)V"⟩
abbrev cX9_putC : ByteArray := prog_11_method_36_code
def yX9_putC : MethodName := ⟨RX9, "putC", "(IZ)V"⟩
abbrev cX9_putImage : ByteArray := prog_11_method_37_code
def yX9_putImage : MethodName := ⟨RX9, "putImage", "(IZIZ)V"⟩
abbrev cX9_twistRow : ByteArray := prog_11_method_38_code
def yX9_twistRow : MethodName := ⟨RX9, "twistRow", "(I)Z"⟩
abbrev cX9_imageRow : ByteArray := prog_11_method_39_code
def yX9_imageRow : MethodName := ⟨RX9, "imageRow", "(I)Z"⟩
abbrev cX9_takeLetter : ByteArray := prog_11_method_40_code
def yX9_takeLetter : MethodName := ⟨RX9, "takeLetter", "(I)V"⟩
abbrev cX9_takeRing : ByteArray := prog_11_method_41_code
def yX9_takeRing : MethodName := ⟨RX9, "takeRing", "(I)V"⟩
abbrev cX9_closeToU : ByteArray := prog_11_method_42_code
def yX9_closeToU : MethodName := ⟨RX9, "closeToU", "()V"⟩
abbrev cX9_noPlan : ByteArray := prog_11_method_43_code
def yX9_noPlan : MethodName := ⟨RX9, "noPlan", "(I)Z"⟩
abbrev cX9_feed : ByteArray := prog_11_method_44_code
def yX9_feed : MethodName := ⟨RX9, "feed", "(IJ)I"⟩
abbrev cX9_look : ByteArray := prog_11_method_45_code
def yX9_look : MethodName := ⟨RX9, "look", "()I"⟩
abbrev cX9_want : ByteArray := prog_11_method_46_code
def yX9_want : MethodName := ⟨RX9, "want", "(ZII)Z"⟩
abbrev cX9_takeFigure : ByteArray := prog_11_method_47_code
def yX9_takeFigure : MethodName := ⟨RX9, "takeFigure", "(II)I"⟩
abbrev cX9_readTwist : ByteArray := prog_11_method_48_code
def yX9_readTwist : MethodName := ⟨RX9, "readTwist", "(I)V"⟩
abbrev cX9_closeBracket : ByteArray := prog_11_method_49_code
def yX9_closeBracket : MethodName := ⟨RX9, "closeBracket", "()V"⟩
abbrev cX9_readItem : ByteArray := prog_11_method_50_code
def yX9_readItem : MethodName := ⟨RX9, "readItem", "(I)V"⟩
abbrev cX9_read : ByteArray := prog_11_method_51_code
def yX9_read : MethodName := ⟨RX9, "read", "(I)I"⟩
abbrev cX9_fault : ByteArray := prog_11_method_52_code
def yX9_fault : MethodName := ⟨RX9, "fault", "()I"⟩
abbrev cX9_twist : ByteArray := prog_11_method_53_code
def yX9_twist : MethodName := ⟨RX9, "twist", "(II)I"⟩
abbrev cX9_chain : ByteArray := prog_11_method_54_code
def yX9_chain : MethodName := ⟨RX9, "chain", "(III)I"⟩
abbrev cX9_turn : ByteArray := prog_11_method_55_code
def yX9_turn : MethodName := ⟨RX9, "turn", "(II)I"⟩
abbrev cX9_image : ByteArray := prog_11_method_56_code
def yX9_image : MethodName := ⟨RX9, "image", "(III)I"⟩
abbrev cX9_carried : ByteArray := prog_11_method_57_code
def yX9_carried : MethodName := ⟨RX9, "carried", "(III)I"⟩
abbrev cX9_meetsThen : ByteArray := prog_11_method_58_code
def yX9_meetsThen : MethodName := ⟨RX9, "meetsThen", "(III)I"⟩
abbrev cX9_startImages : ByteArray := prog_11_method_59_code
def yX9_startImages : MethodName := ⟨RX9, "startImages", "()V"⟩
abbrev cX9_goOn : ByteArray := prog_11_method_60_code
def yX9_goOn : MethodName := ⟨RX9, "goOn", "(I)Z"⟩
abbrev cX9_findImages : ByteArray := prog_11_method_61_code
def yX9_findImages : MethodName := ⟨RX9, "findImages", "(I)Z"⟩
abbrev cX9_isImage : ByteArray := prog_11_method_62_code
def yX9_isImage : MethodName := ⟨RX9, "isImage", "(I)Z"⟩
abbrev cX9_same : ByteArray := prog_11_method_63_code
def yX9_same : MethodName := ⟨RX9, "same", "(II)I"⟩
abbrev cX9_putRim : ByteArray := prog_11_method_64_code
def yX9_putRim : MethodName := ⟨RX9, "putRim", "(Z)V"⟩
abbrev cX9_isTurns : ByteArray := prog_11_method_65_code
def yX9_isTurns : MethodName := ⟨RX9, "isTurns", "(I)Z"⟩
abbrev cX9_findTurns : ByteArray := prog_11_method_66_code
def yX9_findTurns : MethodName := ⟨RX9, "findTurns", "()I"⟩
abbrev cX9_turns : ByteArray := prog_11_method_67_code
def yX9_turns : MethodName := ⟨RX9, "turns", "(I)I"⟩
abbrev cX9_findOrder : ByteArray := prog_11_method_68_code
def yX9_findOrder : MethodName := ⟨RX9, "findOrder", "(II)I"⟩
abbrev cX9_order : ByteArray := prog_11_method_69_code
def yX9_order : MethodName := ⟨RX9, "order", "(II)I"⟩
abbrev cX9_tableOf : ByteArray := prog_11_method_70_code
def yX9_tableOf : MethodName := ⟨RX9, "tableOf", "(II)I"⟩
abbrev cX9_table : ByteArray := prog_11_method_71_code
def yX9_table : MethodName := ⟨RX9, "table", "(III)I"⟩
abbrev cX9_determinant : ByteArray := prog_11_method_72_code
def yX9_determinant : MethodName := ⟨RX9, "determinant", "(I)J"⟩
abbrev cX9_onesOf : ByteArray := prog_11_method_73_code
def yX9_onesOf : MethodName := ⟨RX9, "onesOf", "(I)I"⟩
abbrev cX9_character : ByteArray := prog_11_method_74_code
def yX9_character : MethodName := ⟨RX9, "character", "(II)J"⟩
abbrev cX9_lengthNow : ByteArray := prog_11_method_75_code
def yX9_lengthNow : MethodName := ⟨RX9, "lengthNow", "()I"⟩
abbrev cX9_length : ByteArray := prog_11_method_76_code
def yX9_length : MethodName := ⟨RX9, "length", "(II)I"⟩
abbrev cX9_comesBack : ByteArray := prog_11_method_77_code
def yX9_comesBack : MethodName := ⟨RX9, "comesBack", "(III)Z"⟩
abbrev cX9_sort : ByteArray := prog_11_method_78_code
def yX9_sort : MethodName := ⟨RX9, "sort", "(II)I"⟩
abbrev cX9_draftPlan : ByteArray := prog_11_method_79_code
def yX9_draftPlan : MethodName := ⟨RX9, "draftPlan", "(III)V"⟩
abbrev cX9_isDraftLike : ByteArray := prog_11_method_80_code
def yX9_isDraftLike : MethodName := ⟨RX9, "isDraftLike", "()Z"⟩
abbrev cX9_law : ByteArray := prog_11_method_81_code
def yX9_law : MethodName := ⟨RX9, "law", "(II)I"⟩
abbrev cX9_power : ByteArray := prog_11_method_82_code
def yX9_power : MethodName := ⟨RX9, "power", "(I)I"⟩
abbrev cX9_numberPlan : ByteArray := prog_11_method_83_code
def yX9_numberPlan : MethodName := ⟨RX9, "numberPlan", "(II)V"⟩
abbrev cX9_carries : ByteArray := prog_11_method_84_code
def yX9_carries : MethodName := ⟨RX9, "carries", "(II)Z"⟩
abbrev cX9_carry : ByteArray := prog_11_method_85_code
def yX9_carry : MethodName := ⟨RX9, "carry", "(IIII)I"⟩
abbrev cX9_fewest : ByteArray := prog_11_method_86_code
def yX9_fewest : MethodName := ⟨RX9, "fewest", "(III)I"⟩
abbrev cX9_count : ByteArray := prog_11_method_87_code
def yX9_count : MethodName := ⟨RX9, "count", "(I)I"⟩
def RJ6 : String := "java/lang/Integer"
def TJ6 : u_T := fun k => match k with
  | _ => ("", "", "", false)
def tyJ6 : Nat → FieldType := fun k => match k with
  | _ => .int
abbrev wsJ60 : List Cond := u_ws RJ6 TJ6 0
theorem nmJ6 : ∀ a, a < 0 → ∀ b, b < 0 → a ≠ b → (TJ6 a).2.1 ≠ (TJ6 b).2.1 := by decide +kernel
theorem tyJ6_ok : ∀ k, k < 0 → parseFieldDescriptor (TJ6 k).2.2.1 = some (tyJ6 k) := by decide +kernel
abbrev cJ6_bitCount_0f7a4 : ByteArray := prog_12_method_49_code
def yJ6_bitCount_0f7a4 : MethodName := ⟨RJ6, "bitCount", "(I)I"⟩
def RJ9 : String := "java/lang/Math"
def TJ9 : u_T := fun k => match k with
  | _ => ("", "", "", false)
def tyJ9 : Nat → FieldType := fun k => match k with
  | _ => .int
abbrev wsJ90 : List Cond := u_ws RJ9 TJ9 0
theorem nmJ9 : ∀ a, a < 0 → ∀ b, b < 0 → a ≠ b → (TJ9 a).2.1 ≠ (TJ9 b).2.1 := by decide +kernel
theorem tyJ9_ok : ∀ k, k < 0 → parseFieldDescriptor (TJ9 k).2.2.1 = some (tyJ9 k) := by decide +kernel
abbrev cJ9_abs_0f7a4 : ByteArray := prog_13_method_59_code
def yJ9_abs_0f7a4 : MethodName := ⟨RJ9, "abs", "(I)I"⟩
abbrev cJ9_max_7cf53 : ByteArray := prog_13_method_65_code
def yJ9_max_7cf53 : MethodName := ⟨RJ9, "max", "(II)I"⟩
abbrev cJ9_min_7cf53 : ByteArray := prog_13_method_69_code
def yJ9_min_7cf53 : MethodName := ⟨RJ9, "min", "(II)I"⟩
def RJ10 : String := "java/lang/System"
def TJ10 : u_T := fun k => match k with
  | _ => ("", "", "", false)
def tyJ10 : Nat → FieldType := fun k => match k with
  | _ => .int
abbrev wsJ100 : List Cond := u_ws RJ10 TJ10 0
theorem nmJ10 : ∀ a, a < 0 → ∀ b, b < 0 → a ≠ b → (TJ10 a).2.1 ≠ (TJ10 b).2.1 := by decide +kernel
theorem tyJ10_ok : ∀ k, k < 0 → parseFieldDescriptor (TJ10 k).2.2.1 = some (tyJ10 k) := by decide +kernel
def RL : String := "SkinTwistsLaw"
abbrev cL_law : ByteArray := code
def yL_law : MethodName := ⟨RL, "law", "([I)Z"⟩
end
section
/-! ===== the abstract machine: cells by number, all addresses are base + number; one context for all methods ===== -/
/-- the words of the tables that hold on for ever -/
def am_tbl : List Cond := lw_tbl.filter goodWord
abbrev am_E : Type := (Nat × vp_A) ⊕ (Nat × List Value)
abbrev am_H : Type := Nat → am_E
abbrev am_G : Type := Launch × Nat × Heap × (Nat → ClassId) × (Nat → Nat → Nat) × (Nat → ClassId) × Nat × (Nat → Int32)
abbrev am_M : Type := MethodName × ByteArray × Nat × Option FieldType
abbrev am_cl : List vw_C := [(RX0, TX0, 4), (RX1, TX1, 1), (RX2, TX2, 2), (RX3, TX3, 3), (RX4, TX4, 2), (RX5, TX5, 6), (RX6, TX6, 10), (RX7, TX7, 5), (RX8, TX8, 13), (RX9, TX9, 28)]
abbrev am_B (G : am_G) : Nat := G.2.1
abbrev am_H0 (G : am_G) : Heap := G.2.2.1
abbrev am_D (G : am_G) : va_G := (G.2.2.2.1, G.2.2.2.2.1)
abbrev am_aC (G : am_G) : Nat → ClassId := G.2.2.2.2.2.1
abbrev am_pl (G : am_G) : Nat := G.2.2.2.2.2.2.1
abbrev am_rho (G : am_G) : Nat → Int32 := G.2.2.2.2.2.2.2
/-- a value: .ref k is the cell of number k; .retAddr stands for the static array PLACES; .float b is the unknown int of number b, .double b that as a long -/
def am_cv (G : am_G) (v : Value) : Value := match v with
  | .ref a => .ref (am_B G + a)
  | .retAddr _ => .ref (am_pl G)
  | .int x => .int x
  | .long x => .long x
  | .float b => .int (am_rho G b.toNat)
  | .double b => .long (am_rho G b.toNat).toInt64
  | .null => .null
def am_ca (G : am_G) (x : vp_A) : vp_A := match x with
  | (n, .inl f) => (n, .inl f)
  | (n, .inr (.inl f)) => (n, .inr (.inl f))
  | (n, .inr (.inr (.inl f))) => (n, .inr (.inr (.inl f)))
  | (n, .inr (.inr (.inr (.inl f)))) => (n, .inr (.inr (.inr (.inl f))))
  | (n, .inr (.inr (.inr (.inr f)))) => (n, .inr (.inr (.inr (.inr (fun j => (f j).map (fun a => am_B G + a))))))
def am_ce (G : am_G) (e : am_E) : va_E := match e with
  | .inl (t, x) => .inl (am_aC G t, am_ca G x)
  | .inr (c, fs) => .inr (c, fs.map (am_cv G))
def am_ws (G : am_G) (N : Nat) (h : am_H) : va_W := (List.range N).map (fun k => (am_B G + k, am_ce G (h k)))
def am_tys (aC : Nat → ClassId) : List (ClassId × FieldType) := [(aC 0, .int), (aC 1, .long), (aC 2, .object RX4), (aC 3, .object RX3), (aC 4, .object RX2)]
def am_W (G : am_G) (N : Nat) (h : am_H) (H : Heap) : Prop := H.size = am_B G + N ∧ (∀ q : Nat, q < am_B G → H[q]? = (am_H0 G)[q]?) ∧ va_P (am_D G) am_cl (am_ws G N h) H
def am_PL : Nat → Int32 := fun j => ([9, 10, 5, 6, 1, 2, 0, 0, 3, 4, 7, 8, 11] : List Int32).getD j 0
def am_Z (G : am_G) (s : State) : Prop := va_Z RX1 "PLACES" "[I" (.ref (am_pl G)) (fun q => am_B G ≤ q) s (am_H0 G) ∧ va_X (am_pl G) 13 am_PL s (am_H0 G) ∧ am_pl G < am_B G ∧ (am_H0 G).size = am_B G
def am_K (G : am_G) (s : State) : Prop := va_K (am_D G) am_cl (am_tys (am_aC G)) s ∧ am_Z G s ∧ va_AO RX4 s ∧ va_AO RX3 s ∧ va_AO RX2 s
def am_X (G : am_G) (y : am_M) (p : Program) (s : State) (m : MethodId) (args : Array Value) (meth : Method) (c : Code) : Prop :=
  p.tables.exec = Jvm.exec ∧ c.code = y.2.1 ∧ meth.sig.returnType = y.2.2.2 ∧ c.maxLocals = y.2.2.1 ∧ s.vm.findClass y.1.cls = some m.cls ∧ (∀ w ∈ am_tbl, w.before args s = true) ∧ meth.locks = false ∧ meth.name = y.1.name ∧ am_K G s
def am_R (d mc ms : Nat) : Room := { frames := d, cells := mc, slots := ms, locals := 100 * d }
abbrev am_T : Type := Option Value → Nat → am_H → Prop
def am_P (G : am_G) (N : Nat) (h : am_H) (as : List Value) : Array Value → State → Prop := va_Pc (as.map (am_cv G)) (fun U => am_W G N h U.heap ∧ am_K G U)
def am_Q (G : am_G) (post : am_T) : Array Value → State → Outcome → State → Prop := fun _ _ oc t => ∃ (r : Option Value) (N' : Nat) (h' : am_H), oc = .returned (r.map (am_cv G)) ∧ post r N' h' ∧ am_W G N' h' t.heap
def am_wy (y : am_M) : List Cond := .code y.1 y.2.1 y.2.2.1 y.2.2.2 :: am_tbl
/-- a method's contract -/
def am_C (G : am_G) (d : Nat) (y : am_M) (mc ms : Nat) (as : List Value) (N : Nat) (h : am_H) (post : am_T) : Prop :=
  Met G.1 y.1 (am_wy y) (am_R d mc ms) (am_P G N h as) (am_Q G post) mc ms (fun q => am_B G ≤ q)
def am_lv (G : am_G) (lv : List (Nat × Value)) : List (Nat × Value) := lv.map (fun q => (q.1, am_cv G q.2))
/-- the machine in a method's body -/
def am_A (G : am_G) (d : Nat) (y : am_M) (mc ms : Nat) (post : am_T) (k n : Nat) (pc : Nat) (lv : List (Nat × Value)) (st : List Value) (N : Nat) (h : am_H) : Prop :=
  ∀ (p : Program) (e : Env) (s : State) (m : MethodId) (args : Array Value) (below : List Frame) (meth : Method) (c : Code) (H : Heap) (locs : List Loc) (ls : Array Slot),
    am_X G y p s m args meth c → am_W G N h H → (∀ q ∈ locs, am_B G ≤ q.base) → lv_has ls y.2.2.1 (am_lv G lv) →
    W p G.1 e (am_R d mc ms) s m args below meth c H locs k n (MQ below (am_Q G post) args s mc ms (fun q => am_B G ≤ q)) (F0 m pc ls (st.map (am_cv G)))
-- ----- plain facts
theorem am_cat (G : am_G) (v : Value) : (am_cv G v).category = v.category := by cases v <;> rfl
theorem am_ws_get (G : am_G) {N k : Nat} (h : am_H) (hk : k < N) : (am_ws G N h)[k]? = some (am_B G + k, am_ce G (h k)) := by
  simp [am_ws, hk]
theorem am_ws_of (G : am_G) {N k : Nat} {h : am_H} {q : Nat × va_E} (hq : (am_ws G N h)[k]? = some q) : k < N ∧ q = (am_B G + k, am_ce G (h k)) := by
  simp only [am_ws, List.getElem?_map] at hq
  by_cases hk : k < N
  · rw [List.getElem?_range hk] at hq
    simp at hq
    exact ⟨hk, hq.symm⟩
  · rw [List.getElem?_eq_none (by simpa using hk)] at hq
    simp at hq
theorem am_ws_D (G : am_G) (N : Nat) (h : am_H) : va_D (fun q => am_B G ≤ q) (am_ws G N h) := by
  refine ⟨fun i j p q hp hq he => ?_, fun k q hq => ?_⟩
  · obtain ⟨-, rfl⟩ := am_ws_of G hp
    obtain ⟨-, rfl⟩ := am_ws_of G hq
    simp at he
    exact he
  · obtain ⟨-, rfl⟩ := am_ws_of G hq
    exact Nat.le_add_right _ _
theorem am_P_of {G : am_G} {N : Nat} {h : am_H} {H : Heap} (hk : ∀ k, k < N → va_at (am_D G) am_cl (am_B G + k, am_ce G (h k)) H) : va_P (am_D G) am_cl (am_ws G N h) H := by
  intro k q hq
  obtain ⟨h1, rfl⟩ := am_ws_of G hq
  exact hk k h1
theorem am_at {G : am_G} {N : Nat} {h : am_H} {H : Heap} (hW : am_W G N h H) {k : Nat} (hk : k < N) : va_at (am_D G) am_cl (am_B G + k, am_ce G (h k)) H := hW.2.2 k _ (am_ws_get G h hk)
/-- one cell changes -/
theorem am_W_set {G : am_G} {N : Nat} {h : am_H} {H H1 : Heap} (hW : am_W G N h H) {k : Nat} {e : am_E} (he : va_at (am_D G) am_cl (am_B G + k, am_ce G e) H1) (hs : H1.size = H.size) (oq : ∀ q : Nat, q ≠ am_B G + k → H1[q]? = H[q]?) : am_W G N (va_up h k e) H1 := by
  refine ⟨by rw [hs]; exact hW.1, fun q hq => ?_, am_P_of fun j hj => ?_⟩
  · rw [oq q (by omega)]
    exact hW.2.1 q hq
  · by_cases hjk : j = k
    · subst hjk
      simp only [va_up, if_true]
      exact he
    · simp only [va_up, if_neg hjk]
      exact (am_at hW hj).kept (oq _ (by show am_B G + j ≠ _; omega))
/-- one cell more -/
theorem am_W_push {G : am_G} {N : Nat} {h : am_H} {H H1 : Heap} (hW : am_W G N h H) {e : am_E} (he : va_at (am_D G) am_cl (am_B G + N, am_ce G e) H1) (hs : H1.size = H.size + 1) (oq : ∀ q : Nat, q < H.size → H1[q]? = H[q]?) : am_W G (N + 1) (va_up h N e) H1 := by
  have h1 := hW.1
  refine ⟨by rw [hs, h1]; omega, fun q hq => ?_, am_P_of fun j hj => ?_⟩
  · rw [oq q (by omega)]
    exact hW.2.1 q hq
  · by_cases hjk : j = N
    · subst hjk
      simp only [va_up, if_true]
      exact he
    · simp only [va_up, if_neg hjk]
      exact (am_at hW (by omega)).kept (oq _ (by show am_B G + j < _; omega))
theorem am_K.moved {G : am_G} {u U : State} (hvm : u.vm.Alike U.vm) (h : am_K G u) : am_K G U :=
  ⟨va_K.moved hvm h.1, ⟨va_Z.moved hvm h.2.1.1, va_X.moved hvm h.2.1.2.1, h.2.1.2.2⟩, va_AO.moved hvm h.2.2.1, va_AO.moved hvm h.2.2.2.1, va_AO.moved hvm h.2.2.2.2⟩
theorem am_good : GoodIn am_tbl am_tbl := fun w hw => ⟨hw, good_of_word (List.mem_filter.mp hw).2⟩
theorem am_mem {w : Cond} (i : Nat) (h : lw_tbl[i]? = some w) (g : goodWord w = true) : w ∈ am_tbl := List.mem_filter.mpr ⟨List.mem_of_getElem? h, g⟩
theorem am_hts {args : Array Value} {s : State} (h : ∀ w ∈ lw_tbl, w.before args s = true) : ∀ w ∈ am_tbl, w.before args s = true := fun w hw => h w (List.mem_filter.mp hw).1
end
section
section
variable {G : am_G} {d : Nat} {y : am_M} {mc ms : Nat} {post : am_T} {k n pc N : Nat} {lv lv' : List (Nat × Value)} {st : List Value} {h : am_H}
theorem am_ld (G : am_G) {ls : Array Slot} {nL : Nat} {lv : List (Nat × Value)} (hl : lv_has ls nL (am_lv G lv)) {i : Nat} {v : Value} (hv : (i, v) ∈ lv) : ls[i]? = some (.val (am_cv G v)) := hl.2.2 (i, am_cv G v) (List.mem_map.mpr ⟨(i, v), hv, rfl⟩)
def am_f1 (i : Nat) (q : Nat × Value) : Bool := !(q.1 == i) && !(q.1 + 1 == i && q.2.category == 2)
def am_f2 (i : Nat) (q : Nat × Value) : Bool := !(q.1 == i) && (!(q.1 == i + 1) && !(q.1 + 1 == i && q.2.category == 2))
theorem am_flt1 (G : am_G) (i : Nat) (v : Value) (lv : List (Nat × Value)) : (i, am_cv G v) :: (am_lv G lv).filter (fun q => !(q.1 == i) && !(q.1 + 1 == i && q.2.category == 2)) = am_lv G ((i, v) :: lv.filter (am_f1 i)) := by
  simp only [am_lv, List.filter_map, List.map_cons]
  congr 3
  funext q
  simp [Function.comp, am_cat, am_f1]
theorem am_flt2 (G : am_G) (i : Nat) (v : Value) (lv : List (Nat × Value)) : (i, am_cv G v) :: (am_lv G lv).filter (fun q => !(q.1 == i) && (!(q.1 == i + 1) && !(q.1 + 1 == i && q.2.category == 2))) = am_lv G ((i, v) :: lv.filter (am_f2 i)) := by
  simp only [am_lv, List.filter_map, List.map_cons]
  congr 3
  funext q
  simp [Function.comp, am_cat, am_f2]
theorem am_iconst {i : Int} {v : Int32} (hd : decode y.2.1 pc = .ok (.iconst i, 1)) (hv : Int32.ofInt i = v) (kk : am_A G d y mc ms post k n (pc + 1) lv (.int v :: st) N h) : am_A G d y mc ms post k n (pc) lv (st) N h := by
  intro p e s m args below meth c H locs ls X hW hlo hl
  exact lv_iconst X.1 X.2.1 hd hv (kk p e s m args below meth c H locs ls X hW hlo hl)
theorem am_bipush {i : Int} {v : Int32} (hd : decode y.2.1 pc = .ok (.bipush i, 2)) (hv : (Int8.ofInt i).toInt32 = v) (kk : am_A G d y mc ms post k n (pc + 2) lv (.int v :: st) N h) : am_A G d y mc ms post k n (pc) lv (st) N h := by
  intro p e s m args below meth c H locs ls X hW hlo hl
  exact lv_bipush X.1 X.2.1 hd hv (kk p e s m args below meth c H locs ls X hW hlo hl)
theorem am_sipush {i : Int} {v : Int32} (hd : decode y.2.1 pc = .ok (.sipush i, 3)) (hv : (Int16.ofInt i).toInt32 = v) (kk : am_A G d y mc ms post k n (pc + 3) lv (.int v :: st) N h) : am_A G d y mc ms post k n (pc) lv (st) N h := by
  intro p e s m args below meth c H locs ls X hW hlo hl
  exact lv_sipush X.1 X.2.1 hd hv (kk p e s m args below meth c H locs ls X hW hlo hl)
theorem am_lconst {i : Fin 2} {v : Int64} (hd : decode y.2.1 pc = .ok (.lconst i, 1)) (hv : Int64.ofNat (i : Nat) = v) (kk : am_A G d y mc ms post k n (pc + 1) lv (.long v :: st) N h) : am_A G d y mc ms post k n (pc) lv (st) N h := by
  intro p e s m args below meth c H locs ls X hW hlo hl
  exact lv_lconst X.1 X.2.1 hd hv (kk p e s m args below meth c H locs ls X hW hlo hl)
theorem am_iload_n {j : Fin 4} {i : Nat} {x : Int32} (hd : decode y.2.1 pc = .ok (.iload_n j, 1)) (hi : (j : Nat) = i) (hv : (i, Value.int x) ∈ lv) (kk : am_A G d y mc ms post k n (pc + 1) lv (.int x :: st) N h) : am_A G d y mc ms post k n (pc) lv (st) N h := by
  intro p e s m args below meth c H locs ls X hW hlo hl
  exact lv_iload_n X.1 X.2.1 hd hi (am_ld G hl hv) (kk p e s m args below meth c H locs ls X hW hlo hl)
theorem am_iload {i : Nat} {x : Int32} (hd : decode y.2.1 pc = .ok (.iload i, 2)) (hv : (i, Value.int x) ∈ lv) (kk : am_A G d y mc ms post k n (pc + 2) lv (.int x :: st) N h) : am_A G d y mc ms post k n (pc) lv (st) N h := by
  intro p e s m args below meth c H locs ls X hW hlo hl
  exact lv_iload X.1 X.2.1 hd (am_ld G hl hv) (kk p e s m args below meth c H locs ls X hW hlo hl)
theorem am_lload_n {j : Fin 4} {i : Nat} {x : Int64} (hd : decode y.2.1 pc = .ok (.lload_n j, 1)) (hi : (j : Nat) = i) (hv : (i, Value.long x) ∈ lv) (kk : am_A G d y mc ms post k n (pc + 1) lv (.long x :: st) N h) : am_A G d y mc ms post k n (pc) lv (st) N h := by
  intro p e s m args below meth c H locs ls X hW hlo hl
  exact lv_lload_n X.1 X.2.1 hd hi (am_ld G hl hv) (kk p e s m args below meth c H locs ls X hW hlo hl)
theorem am_lload {i : Nat} {x : Int64} (hd : decode y.2.1 pc = .ok (.lload i, 2)) (hv : (i, Value.long x) ∈ lv) (kk : am_A G d y mc ms post k n (pc + 2) lv (.long x :: st) N h) : am_A G d y mc ms post k n (pc) lv (st) N h := by
  intro p e s m args below meth c H locs ls X hW hlo hl
  exact lv_lload X.1 X.2.1 hd (am_ld G hl hv) (kk p e s m args below meth c H locs ls X hW hlo hl)
theorem am_aload_n {j : Fin 4} {i : Nat} {x : Nat} (hd : decode y.2.1 pc = .ok (.aload_n j, 1)) (hi : (j : Nat) = i) (hv : (i, Value.ref x) ∈ lv) (kk : am_A G d y mc ms post k n (pc + 1) lv (.ref x :: st) N h) : am_A G d y mc ms post k n (pc) lv (st) N h := by
  intro p e s m args below meth c H locs ls X hW hlo hl
  exact lv_aload_n X.1 X.2.1 hd hi (am_ld G hl hv) (kk p e s m args below meth c H locs ls X hW hlo hl)
theorem am_aload {i : Nat} {x : Nat} (hd : decode y.2.1 pc = .ok (.aload i, 2)) (hv : (i, Value.ref x) ∈ lv) (kk : am_A G d y mc ms post k n (pc + 2) lv (.ref x :: st) N h) : am_A G d y mc ms post k n (pc) lv (st) N h := by
  intro p e s m args below meth c H locs ls X hW hlo hl
  exact lv_aload X.1 X.2.1 hd (am_ld G hl hv) (kk p e s m args below meth c H locs ls X hW hlo hl)
theorem am_istore_n {j : Fin 4} {i : Nat} {x : Int32} (hd : decode y.2.1 pc = .ok (.istore_n j, 1)) (hi : (j : Nat) = i) (hn : i < y.2.2.1) (hlv : (i, Value.int x) :: lv.filter (am_f1 i) = lv') (kk : am_A G d y mc ms post k n (pc + 1) lv' (st) N h) : am_A G d y mc ms post k n (pc) lv (.int x :: st) N h := by
  intro p e s m args below meth c H locs ls X hW hlo hl
  subst hlv
  exact lv_istore_n X.1 X.2.1 hd hi hl hn (am_flt1 G i (.int x) lv) (fun ls' hl' => kk p e s m args below meth c H locs ls' X hW hlo hl')
theorem am_istore {i : Nat} {x : Int32} (hd : decode y.2.1 pc = .ok (.istore i, 2)) (hn : i < y.2.2.1) (hlv : (i, Value.int x) :: lv.filter (am_f1 i) = lv') (kk : am_A G d y mc ms post k n (pc + 2) lv' (st) N h) : am_A G d y mc ms post k n (pc) lv (.int x :: st) N h := by
  intro p e s m args below meth c H locs ls X hW hlo hl
  subst hlv
  exact lv_istore X.1 X.2.1 hd hl hn (am_flt1 G i (.int x) lv) (fun ls' hl' => kk p e s m args below meth c H locs ls' X hW hlo hl')
theorem am_lstore_n {j : Fin 4} {i : Nat} {x : Int64} (hd : decode y.2.1 pc = .ok (.lstore_n j, 1)) (hi : (j : Nat) = i) (hn : i + 1 < y.2.2.1) (hlv : (i, Value.long x) :: lv.filter (am_f2 i) = lv') (kk : am_A G d y mc ms post k n (pc + 1) lv' (st) N h) : am_A G d y mc ms post k n (pc) lv (.long x :: st) N h := by
  intro p e s m args below meth c H locs ls X hW hlo hl
  subst hlv
  exact lv_lstore_n X.1 X.2.1 hd hi hl hn (am_flt2 G i (.long x) lv) (fun ls' hl' => kk p e s m args below meth c H locs ls' X hW hlo hl')
theorem am_lstore {i : Nat} {x : Int64} (hd : decode y.2.1 pc = .ok (.lstore i, 2)) (hn : i + 1 < y.2.2.1) (hlv : (i, Value.long x) :: lv.filter (am_f2 i) = lv') (kk : am_A G d y mc ms post k n (pc + 2) lv' (st) N h) : am_A G d y mc ms post k n (pc) lv (.long x :: st) N h := by
  intro p e s m args below meth c H locs ls X hW hlo hl
  subst hlv
  exact lv_lstore X.1 X.2.1 hd hl hn (am_flt2 G i (.long x) lv) (fun ls' hl' => kk p e s m args below meth c H locs ls' X hW hlo hl')
theorem am_astore_n {j : Fin 4} {i : Nat} {x : Nat} (hd : decode y.2.1 pc = .ok (.astore_n j, 1)) (hi : (j : Nat) = i) (hn : i < y.2.2.1) (hlv : (i, Value.ref x) :: lv.filter (am_f1 i) = lv') (kk : am_A G d y mc ms post k n (pc + 1) lv' (st) N h) : am_A G d y mc ms post k n (pc) lv (.ref x :: st) N h := by
  intro p e s m args below meth c H locs ls X hW hlo hl
  subst hlv
  exact lv_astore_n X.1 X.2.1 hd hi hl hn (am_flt1 G i (.ref x) lv) (fun ls' hl' => kk p e s m args below meth c H locs ls' X hW hlo hl')
theorem am_astore {i : Nat} {x : Nat} (hd : decode y.2.1 pc = .ok (.astore i, 2)) (hn : i < y.2.2.1) (hlv : (i, Value.ref x) :: lv.filter (am_f1 i) = lv') (kk : am_A G d y mc ms post k n (pc + 2) lv' (st) N h) : am_A G d y mc ms post k n (pc) lv (.ref x :: st) N h := by
  intro p e s m args below meth c H locs ls X hW hlo hl
  subst hlv
  exact lv_astore X.1 X.2.1 hd hl hn (am_flt1 G i (.ref x) lv) (fun ls' hl' => kk p e s m args below meth c H locs ls' X hW hlo hl')
theorem am_iinc {i : Nat} {z : Int} {x v : Int32} (hd : decode y.2.1 pc = .ok (.iinc i z, 3)) (hv : (i, Value.int x) ∈ lv) (he : x + Int32.ofInt z = v) (hn : i < y.2.2.1) (hlv : (i, Value.int v) :: lv.filter (am_f1 i) = lv') (kk : am_A G d y mc ms post k n (pc + 3) lv' (st) N h) : am_A G d y mc ms post k n (pc) lv (st) N h := by
  intro p e s m args below meth c H locs ls X hW hlo hl
  subst hlv
  obtain ⟨j, hj⟩ := List.getElem?_of_mem hv
  exact lv_iinc (k := j) X.1 X.2.1 hd hl (by simp [am_lv, hj, am_cv]) he hn (am_flt1 G i (.int v) lv) (fun ls' hl' => kk p e s m args below meth c H locs ls' X hW hlo hl')
theorem am_iadd {x z : Int32} (hd : decode y.2.1 pc = .ok (.iadd, 1))  (kk : am_A G d y mc ms post k n (pc + 1) lv (.int (x + z) :: st) N h) : am_A G d y mc ms post k n (pc) lv (.int z :: .int x :: st) N h := by
  intro p e s m args below meth c H locs ls X hW hlo hl
  exact lv_iadd X.1 X.2.1 hd (kk p e s m args below meth c H locs ls X hW hlo hl)
theorem am_isub {x z : Int32} (hd : decode y.2.1 pc = .ok (.isub, 1))  (kk : am_A G d y mc ms post k n (pc + 1) lv (.int (x - z) :: st) N h) : am_A G d y mc ms post k n (pc) lv (.int z :: .int x :: st) N h := by
  intro p e s m args below meth c H locs ls X hW hlo hl
  exact lv_isub X.1 X.2.1 hd (kk p e s m args below meth c H locs ls X hW hlo hl)
theorem am_imul {x z : Int32} (hd : decode y.2.1 pc = .ok (.imul, 1))  (kk : am_A G d y mc ms post k n (pc + 1) lv (.int (x * z) :: st) N h) : am_A G d y mc ms post k n (pc) lv (.int z :: .int x :: st) N h := by
  intro p e s m args below meth c H locs ls X hW hlo hl
  exact lv_imul X.1 X.2.1 hd (kk p e s m args below meth c H locs ls X hW hlo hl)
theorem am_iand {x z : Int32} (hd : decode y.2.1 pc = .ok (.iand, 1))  (kk : am_A G d y mc ms post k n (pc + 1) lv (.int (x &&& z) :: st) N h) : am_A G d y mc ms post k n (pc) lv (.int z :: .int x :: st) N h := by
  intro p e s m args below meth c H locs ls X hW hlo hl
  exact lv_iand X.1 X.2.1 hd (kk p e s m args below meth c H locs ls X hW hlo hl)
theorem am_ior {x z : Int32} (hd : decode y.2.1 pc = .ok (.ior, 1))  (kk : am_A G d y mc ms post k n (pc + 1) lv (.int (x ||| z) :: st) N h) : am_A G d y mc ms post k n (pc) lv (.int z :: .int x :: st) N h := by
  intro p e s m args below meth c H locs ls X hW hlo hl
  exact lv_ior X.1 X.2.1 hd (kk p e s m args below meth c H locs ls X hW hlo hl)
theorem am_ixor {x z : Int32} (hd : decode y.2.1 pc = .ok (.ixor, 1))  (kk : am_A G d y mc ms post k n (pc + 1) lv (.int (x ^^^ z) :: st) N h) : am_A G d y mc ms post k n (pc) lv (.int z :: .int x :: st) N h := by
  intro p e s m args below meth c H locs ls X hW hlo hl
  exact lv_ixor X.1 X.2.1 hd (kk p e s m args below meth c H locs ls X hW hlo hl)
theorem am_ishl {x z : Int32} (hd : decode y.2.1 pc = .ok (.ishl, 1))  (kk : am_A G d y mc ms post k n (pc + 1) lv (.int (x <<< (z &&& 31)) :: st) N h) : am_A G d y mc ms post k n (pc) lv (.int z :: .int x :: st) N h := by
  intro p e s m args below meth c H locs ls X hW hlo hl
  exact lv_ishl X.1 X.2.1 hd (kk p e s m args below meth c H locs ls X hW hlo hl)
theorem am_ishr {x z : Int32} (hd : decode y.2.1 pc = .ok (.ishr, 1))  (kk : am_A G d y mc ms post k n (pc + 1) lv (.int (x >>> (z &&& 31)) :: st) N h) : am_A G d y mc ms post k n (pc) lv (.int z :: .int x :: st) N h := by
  intro p e s m args below meth c H locs ls X hW hlo hl
  exact lv_ishr X.1 X.2.1 hd (kk p e s m args below meth c H locs ls X hW hlo hl)
theorem am_idiv {x z : Int32} (hd : decode y.2.1 pc = .ok (.idiv, 1)) (hne : ¬ z = 0) (kk : am_A G d y mc ms post k n (pc + 1) lv (.int (x / z) :: st) N h) : am_A G d y mc ms post k n (pc) lv (.int z :: .int x :: st) N h := by
  intro p e s m args below meth c H locs ls X hW hlo hl
  exact lv_idiv X.1 X.2.1 hd hne (kk p e s m args below meth c H locs ls X hW hlo hl)
theorem am_irem {x z : Int32} (hd : decode y.2.1 pc = .ok (.irem, 1)) (hne : ¬ z = 0) (kk : am_A G d y mc ms post k n (pc + 1) lv (.int (x - x / z * z) :: st) N h) : am_A G d y mc ms post k n (pc) lv (.int z :: .int x :: st) N h := by
  intro p e s m args below meth c H locs ls X hW hlo hl
  exact lv_irem X.1 X.2.1 hd hne (kk p e s m args below meth c H locs ls X hW hlo hl)
theorem am_iushr {x z : Int32} (hd : decode y.2.1 pc = .ok (.iushr, 1))  (kk : am_A G d y mc ms post k n (pc + 1) lv (.int ((x.toUInt32 >>> (z.toUInt32 &&& Int32.toUInt32 31)).toInt32) :: st) N h) : am_A G d y mc ms post k n (pc) lv (.int z :: .int x :: st) N h := by
  intro p e s m args below meth c H locs ls X hW hlo hl
  exact lv_iushr X.1 X.2.1 hd rfl (kk p e s m args below meth c H locs ls X hW hlo hl)
theorem am_ineg {x : Int32} (hd : decode y.2.1 pc = .ok (.ineg, 1))  (kk : am_A G d y mc ms post k n (pc + 1) lv (.int (-x) :: st) N h) : am_A G d y mc ms post k n (pc) lv (.int x :: st) N h := by
  intro p e s m args below meth c H locs ls X hW hlo hl
  exact lv_ineg X.1 X.2.1 hd (kk p e s m args below meth c H locs ls X hW hlo hl)
theorem am_ladd {x z : Int64} (hd : decode y.2.1 pc = .ok (.ladd, 1))  (kk : am_A G d y mc ms post k n (pc + 1) lv (.long (x + z) :: st) N h) : am_A G d y mc ms post k n (pc) lv (.long z :: .long x :: st) N h := by
  intro p e s m args below meth c H locs ls X hW hlo hl
  exact lv_ladd X.1 X.2.1 hd (kk p e s m args below meth c H locs ls X hW hlo hl)
theorem am_lsub {x z : Int64} (hd : decode y.2.1 pc = .ok (.lsub, 1))  (kk : am_A G d y mc ms post k n (pc + 1) lv (.long (x - z) :: st) N h) : am_A G d y mc ms post k n (pc) lv (.long z :: .long x :: st) N h := by
  intro p e s m args below meth c H locs ls X hW hlo hl
  exact lv_lsub X.1 X.2.1 hd (kk p e s m args below meth c H locs ls X hW hlo hl)
theorem am_lmul {x z : Int64} (hd : decode y.2.1 pc = .ok (.lmul, 1))  (kk : am_A G d y mc ms post k n (pc + 1) lv (.long (x * z) :: st) N h) : am_A G d y mc ms post k n (pc) lv (.long z :: .long x :: st) N h := by
  intro p e s m args below meth c H locs ls X hW hlo hl
  exact lv_lmul X.1 X.2.1 hd (kk p e s m args below meth c H locs ls X hW hlo hl)
theorem am_land {x z : Int64} (hd : decode y.2.1 pc = .ok (.land, 1))  (kk : am_A G d y mc ms post k n (pc + 1) lv (.long (x &&& z) :: st) N h) : am_A G d y mc ms post k n (pc) lv (.long z :: .long x :: st) N h := by
  intro p e s m args below meth c H locs ls X hW hlo hl
  exact lv_land X.1 X.2.1 hd (kk p e s m args below meth c H locs ls X hW hlo hl)
theorem am_lor {x z : Int64} (hd : decode y.2.1 pc = .ok (.lor, 1))  (kk : am_A G d y mc ms post k n (pc + 1) lv (.long (x ||| z) :: st) N h) : am_A G d y mc ms post k n (pc) lv (.long z :: .long x :: st) N h := by
  intro p e s m args below meth c H locs ls X hW hlo hl
  exact lv_lor X.1 X.2.1 hd (kk p e s m args below meth c H locs ls X hW hlo hl)
theorem am_lshl {x : Int64} {z : Int32} (hd : decode y.2.1 pc = .ok (.lshl, 1))  (kk : am_A G d y mc ms post k n (pc + 1) lv (.long (x <<< (z.toInt64 &&& 63)) :: st) N h) : am_A G d y mc ms post k n (pc) lv (.int z :: .long x :: st) N h := by
  intro p e s m args below meth c H locs ls X hW hlo hl
  exact lv_lshl X.1 X.2.1 hd rfl (kk p e s m args below meth c H locs ls X hW hlo hl)
theorem am_lshr {x : Int64} {z : Int32} (hd : decode y.2.1 pc = .ok (.lshr, 1))  (kk : am_A G d y mc ms post k n (pc + 1) lv (.long (x >>> (z.toInt64 &&& 63)) :: st) N h) : am_A G d y mc ms post k n (pc) lv (.int z :: .long x :: st) N h := by
  intro p e s m args below meth c H locs ls X hW hlo hl
  exact lv_lshr X.1 X.2.1 hd rfl (kk p e s m args below meth c H locs ls X hW hlo hl)
theorem am_i2l {x : Int32} (hd : decode y.2.1 pc = .ok (.i2l, 1))  (kk : am_A G d y mc ms post k n (pc + 1) lv (.long x.toInt64 :: st) N h) : am_A G d y mc ms post k n (pc) lv (.int x :: st) N h := by
  intro p e s m args below meth c H locs ls X hW hlo hl
  exact lv_i2l X.1 X.2.1 hd rfl (kk p e s m args below meth c H locs ls X hW hlo hl)
theorem am_l2i {x : Int64} (hd : decode y.2.1 pc = .ok (.l2i, 1))  (kk : am_A G d y mc ms post k n (pc + 1) lv (.int x.toInt32 :: st) N h) : am_A G d y mc ms post k n (pc) lv (.long x :: st) N h := by
  intro p e s m args below meth c H locs ls X hW hlo hl
  exact lv_l2i X.1 X.2.1 hd rfl (kk p e s m args below meth c H locs ls X hW hlo hl)
theorem am_lcmp {x z : Int64} (hd : decode y.2.1 pc = .ok (.lcmp, 1))  (kk : am_A G d y mc ms post k n (pc + 1) lv (.int (lg_cmp x z) :: st) N h) : am_A G d y mc ms post k n (pc) lv (.long z :: .long x :: st) N h := by
  intro p e s m args below meth c H locs ls X hW hlo hl
  exact W.lcmp X.1 X.2.1 hd (kk p e s m args below meth c H locs ls X hW hlo hl)
theorem am_dup {v : Value} (hd : decode y.2.1 pc = .ok (.dup, 1)) (hv : v.category = 1) (kk : am_A G d y mc ms post k n (pc + 1) lv (v :: v :: st) N h) : am_A G d y mc ms post k n (pc) lv (v :: st) N h := by
  intro p e s m args below meth c H locs ls X hW hlo hl
  exact lv_dup X.1 X.2.1 hd ((am_cat G v).trans hv) (kk p e s m args below meth c H locs ls X hW hlo hl)
theorem am_dup2 {v w : Value} (hd : decode y.2.1 pc = .ok (.dup2, 1)) (hv : v.category = 1) (hw : w.category = 1) (kk : am_A G d y mc ms post k n (pc + 1) lv (v :: w :: v :: w :: st) N h) : am_A G d y mc ms post k n (pc) lv (v :: w :: st) N h := by
  intro p e s m args below meth c H locs ls X hW hlo hl
  exact lv_dup2_11 X.1 X.2.1 hd ((am_cat G v).trans hv) ((am_cat G w).trans hw) (kk p e s m args below meth c H locs ls X hW hlo hl)
theorem am_ldcw {i : Nat} {v : Int32} (hd : decode y.2.1 pc = .ok (.ldc_w i, 3)) (hc : Cond.constant y.1.cls i v ∈ am_tbl) (kk : am_A G d y mc ms post k n (pc + 3) lv (.int v :: st) N h) : am_A G d y mc ms post k n (pc) lv (st) N h := by
  intro p e s m args below meth c H locs ls X hW hlo hl
  exact lv_ldcw X.1 X.2.1 X.2.2.2.2.1 (X.2.2.2.2.2.1 _ hc) hd (kk p e s m args below meth c H locs ls X hW hlo hl)
theorem am_ldc2 {i : Nat} {v : Int64} (hd : decode y.2.1 pc = .ok (.ldc2_w i, 3)) (hc : Cond.constantLong y.1.cls i v ∈ am_tbl) (kk : am_A G d y mc ms post k n (pc + 3) lv (.long v :: st) N h) : am_A G d y mc ms post k n (pc) lv (st) N h := by
  intro p e s m args below meth c H locs ls X hW hlo hl
  exact lv_ldc2 X.1 X.2.1 X.2.2.2.2.1 (X.2.2.2.2.2.1 _ hc) hd (kk p e s m args below meth c H locs ls X hW hlo hl)
def am_cmp (c : ClassFile.Cond) (x z : Int32) : Prop := match c with
  | .eq => x = z
  | .ne => ¬ x = z
  | .lt => x < z
  | .ge => z ≤ x
  | .gt => z < x
  | .le => x ≤ z
def am_cmpb (c : ClassFile.Cond) (x z : Int32) : Bool := match c with
  | .eq => decide (x = z)
  | .ne => !decide (x = z)
  | .lt => decide (x < z)
  | .ge => decide (z ≤ x)
  | .gt => decide (z < x)
  | .le => decide (x ≤ z)
theorem am_cmpb_iff (c : ClassFile.Cond) (x z : Int32) : am_cmpb c x z = true ↔ am_cmp c x z := by cases c <;> simp [am_cmpb, am_cmp]
theorem am_icmp_eq {x z : Int32} {off : Int} {tgt : Nat} (hd : decode y.2.1 pc = .ok (.if_icmp .eq off, 3)) (ht : (pc : Int) + off = (tgt : Int)) (kt : x = z → am_A G d y mc ms post k n (tgt) lv (st) N h) (kf : ¬ x = z → am_A G d y mc ms post k n (pc + 3) lv (st) N h) : am_A G d y mc ms post k n (pc) lv (.int z :: .int x :: st) N h := by
  intro p e s m args below meth c H locs ls X hW hlo hl
  exact lv_icmp_eq X.1 X.2.1 hd ht (fun q => kt q p e s m args below meth c H locs ls X hW hlo hl) (fun q => kf q p e s m args below meth c H locs ls X hW hlo hl)
theorem am_if_eq {x : Int32} {off : Int} {tgt : Nat} (hd : decode y.2.1 pc = .ok (.ifCond .eq off, 3)) (ht : (pc : Int) + off = (tgt : Int)) (kt : x = 0 → am_A G d y mc ms post k n (tgt) lv (st) N h) (kf : ¬ x = 0 → am_A G d y mc ms post k n (pc + 3) lv (st) N h) : am_A G d y mc ms post k n (pc) lv (.int x :: st) N h := by
  intro p e s m args below meth c H locs ls X hW hlo hl
  exact lv_if_eq X.1 X.2.1 hd ht (fun q => kt q p e s m args below meth c H locs ls X hW hlo hl) (fun q => kf q p e s m args below meth c H locs ls X hW hlo hl)
theorem am_icmp_ne {x z : Int32} {off : Int} {tgt : Nat} (hd : decode y.2.1 pc = .ok (.if_icmp .ne off, 3)) (ht : (pc : Int) + off = (tgt : Int)) (kt : ¬ x = z → am_A G d y mc ms post k n (tgt) lv (st) N h) (kf : x = z → am_A G d y mc ms post k n (pc + 3) lv (st) N h) : am_A G d y mc ms post k n (pc) lv (.int z :: .int x :: st) N h := by
  intro p e s m args below meth c H locs ls X hW hlo hl
  exact lv_icmp_ne X.1 X.2.1 hd ht (fun q => kt q p e s m args below meth c H locs ls X hW hlo hl) (fun q => kf q p e s m args below meth c H locs ls X hW hlo hl)
theorem am_if_ne {x : Int32} {off : Int} {tgt : Nat} (hd : decode y.2.1 pc = .ok (.ifCond .ne off, 3)) (ht : (pc : Int) + off = (tgt : Int)) (kt : ¬ x = 0 → am_A G d y mc ms post k n (tgt) lv (st) N h) (kf : x = 0 → am_A G d y mc ms post k n (pc + 3) lv (st) N h) : am_A G d y mc ms post k n (pc) lv (.int x :: st) N h := by
  intro p e s m args below meth c H locs ls X hW hlo hl
  exact lv_if_ne X.1 X.2.1 hd ht (fun q => kt q p e s m args below meth c H locs ls X hW hlo hl) (fun q => kf q p e s m args below meth c H locs ls X hW hlo hl)
theorem am_icmp_lt {x z : Int32} {off : Int} {tgt : Nat} (hd : decode y.2.1 pc = .ok (.if_icmp .lt off, 3)) (ht : (pc : Int) + off = (tgt : Int)) (kt : x < z → am_A G d y mc ms post k n (tgt) lv (st) N h) (kf : ¬ x < z → am_A G d y mc ms post k n (pc + 3) lv (st) N h) : am_A G d y mc ms post k n (pc) lv (.int z :: .int x :: st) N h := by
  intro p e s m args below meth c H locs ls X hW hlo hl
  exact lv_icmp_lt X.1 X.2.1 hd ht (fun q => kt q p e s m args below meth c H locs ls X hW hlo hl) (fun q => kf q p e s m args below meth c H locs ls X hW hlo hl)
theorem am_if_lt {x : Int32} {off : Int} {tgt : Nat} (hd : decode y.2.1 pc = .ok (.ifCond .lt off, 3)) (ht : (pc : Int) + off = (tgt : Int)) (kt : x < 0 → am_A G d y mc ms post k n (tgt) lv (st) N h) (kf : ¬ x < 0 → am_A G d y mc ms post k n (pc + 3) lv (st) N h) : am_A G d y mc ms post k n (pc) lv (.int x :: st) N h := by
  intro p e s m args below meth c H locs ls X hW hlo hl
  exact lv_if_lt X.1 X.2.1 hd ht (fun q => kt q p e s m args below meth c H locs ls X hW hlo hl) (fun q => kf q p e s m args below meth c H locs ls X hW hlo hl)
theorem am_icmp_ge {x z : Int32} {off : Int} {tgt : Nat} (hd : decode y.2.1 pc = .ok (.if_icmp .ge off, 3)) (ht : (pc : Int) + off = (tgt : Int)) (kt : z ≤ x → am_A G d y mc ms post k n (tgt) lv (st) N h) (kf : ¬ z ≤ x → am_A G d y mc ms post k n (pc + 3) lv (st) N h) : am_A G d y mc ms post k n (pc) lv (.int z :: .int x :: st) N h := by
  intro p e s m args below meth c H locs ls X hW hlo hl
  exact lv_icmp_ge X.1 X.2.1 hd ht (fun q => kt q p e s m args below meth c H locs ls X hW hlo hl) (fun q => kf q p e s m args below meth c H locs ls X hW hlo hl)
theorem am_if_ge {x : Int32} {off : Int} {tgt : Nat} (hd : decode y.2.1 pc = .ok (.ifCond .ge off, 3)) (ht : (pc : Int) + off = (tgt : Int)) (kt : 0 ≤ x → am_A G d y mc ms post k n (tgt) lv (st) N h) (kf : ¬ 0 ≤ x → am_A G d y mc ms post k n (pc + 3) lv (st) N h) : am_A G d y mc ms post k n (pc) lv (.int x :: st) N h := by
  intro p e s m args below meth c H locs ls X hW hlo hl
  exact lv_if_ge X.1 X.2.1 hd ht (fun q => kt q p e s m args below meth c H locs ls X hW hlo hl) (fun q => kf q p e s m args below meth c H locs ls X hW hlo hl)
theorem am_icmp_gt {x z : Int32} {off : Int} {tgt : Nat} (hd : decode y.2.1 pc = .ok (.if_icmp .gt off, 3)) (ht : (pc : Int) + off = (tgt : Int)) (kt : z < x → am_A G d y mc ms post k n (tgt) lv (st) N h) (kf : ¬ z < x → am_A G d y mc ms post k n (pc + 3) lv (st) N h) : am_A G d y mc ms post k n (pc) lv (.int z :: .int x :: st) N h := by
  intro p e s m args below meth c H locs ls X hW hlo hl
  exact lv_icmp_gt X.1 X.2.1 hd ht (fun q => kt q p e s m args below meth c H locs ls X hW hlo hl) (fun q => kf q p e s m args below meth c H locs ls X hW hlo hl)
theorem am_if_gt {x : Int32} {off : Int} {tgt : Nat} (hd : decode y.2.1 pc = .ok (.ifCond .gt off, 3)) (ht : (pc : Int) + off = (tgt : Int)) (kt : 0 < x → am_A G d y mc ms post k n (tgt) lv (st) N h) (kf : ¬ 0 < x → am_A G d y mc ms post k n (pc + 3) lv (st) N h) : am_A G d y mc ms post k n (pc) lv (.int x :: st) N h := by
  intro p e s m args below meth c H locs ls X hW hlo hl
  exact lv_if_gt X.1 X.2.1 hd ht (fun q => kt q p e s m args below meth c H locs ls X hW hlo hl) (fun q => kf q p e s m args below meth c H locs ls X hW hlo hl)
theorem am_icmp_le {x z : Int32} {off : Int} {tgt : Nat} (hd : decode y.2.1 pc = .ok (.if_icmp .le off, 3)) (ht : (pc : Int) + off = (tgt : Int)) (kt : x ≤ z → am_A G d y mc ms post k n (tgt) lv (st) N h) (kf : ¬ x ≤ z → am_A G d y mc ms post k n (pc + 3) lv (st) N h) : am_A G d y mc ms post k n (pc) lv (.int z :: .int x :: st) N h := by
  intro p e s m args below meth c H locs ls X hW hlo hl
  exact lv_icmp_le X.1 X.2.1 hd ht (fun q => kt q p e s m args below meth c H locs ls X hW hlo hl) (fun q => kf q p e s m args below meth c H locs ls X hW hlo hl)
theorem am_if_le {x : Int32} {off : Int} {tgt : Nat} (hd : decode y.2.1 pc = .ok (.ifCond .le off, 3)) (ht : (pc : Int) + off = (tgt : Int)) (kt : x ≤ 0 → am_A G d y mc ms post k n (tgt) lv (st) N h) (kf : ¬ x ≤ 0 → am_A G d y mc ms post k n (pc + 3) lv (st) N h) : am_A G d y mc ms post k n (pc) lv (.int x :: st) N h := by
  intro p e s m args below meth c H locs ls X hW hlo hl
  exact lv_if_le X.1 X.2.1 hd ht (fun q => kt q p e s m args below meth c H locs ls X hW hlo hl) (fun q => kf q p e s m args below meth c H locs ls X hW hlo hl)
theorem am_icmp {c : ClassFile.Cond} {x z : Int32} {off : Int} {tgt : Nat} (hd : decode y.2.1 pc = .ok (.if_icmp c off, 3)) (ht : (pc : Int) + off = (tgt : Int)) (kt : am_cmp c x z → am_A G d y mc ms post k n (tgt) lv (st) N h) (kf : ¬ am_cmp c x z → am_A G d y mc ms post k n (pc + 3) lv (st) N h) : am_A G d y mc ms post k n (pc) lv (.int z :: .int x :: st) N h := by
  cases c
  · exact am_icmp_eq hd ht kt kf
  · exact am_icmp_ne hd ht kt (fun q => kf (fun w => w q))
  · exact am_icmp_lt hd ht kt kf
  · exact am_icmp_ge hd ht kt kf
  · exact am_icmp_gt hd ht kt kf
  · exact am_icmp_le hd ht kt kf
theorem am_ifc {c : ClassFile.Cond} {x : Int32} {off : Int} {tgt : Nat} (hd : decode y.2.1 pc = .ok (.ifCond c off, 3)) (ht : (pc : Int) + off = (tgt : Int)) (kt : am_cmp c x 0 → am_A G d y mc ms post k n (tgt) lv (st) N h) (kf : ¬ am_cmp c x 0 → am_A G d y mc ms post k n (pc + 3) lv (st) N h) : am_A G d y mc ms post k n (pc) lv (.int x :: st) N h := by
  cases c
  · exact am_if_eq hd ht kt kf
  · exact am_if_ne hd ht kt (fun q => kf (fun w => w q))
  · exact am_if_lt hd ht kt kf
  · exact am_if_ge hd ht kt kf
  · exact am_if_gt hd ht kt kf
  · exact am_if_le hd ht kt kf
theorem am_goto {off : Int} {tgt : Nat} (hd : decode y.2.1 pc = .ok (.goto off, 3)) (ht : (pc : Int) + off = (tgt : Int)) (kk : am_A G d y mc ms post k n (tgt) lv (st) N h) : am_A G d y mc ms post k n (pc) lv (st) N h := by
  intro p e s m args below meth c H locs ls X hW hlo hl
  exact lv_goto X.1 X.2.1 hd ht (kk p e s m args below meth c H locs ls X hW hlo hl)
theorem am_tblIn {dflt lo hi : Int} {offs : Array Int} {len : Nat} {x : Int32} {off : Int} {tgt : Nat} (hd : decode y.2.1 pc = .ok (.tableswitch dflt lo hi offs, len)) (h1 : ¬ x.toInt < lo) (h2 : ¬ hi < x.toInt) (ho : offs[(x.toInt - lo).toNat]? = some off) (ht : (pc : Int) + off = (tgt : Int)) (kk : am_A G d y mc ms post k n (tgt) lv (st) N h) : am_A G d y mc ms post k n (pc) lv (.int x :: st) N h := by
  intro p e s m args below meth c H locs ls X hW hlo hl
  exact lv_tableIn X.1 X.2.1 hd h1 h2 ho ht (kk p e s m args below meth c H locs ls X hW hlo hl)
theorem am_tblOut {dflt lo hi : Int} {offs : Array Int} {len : Nat} {x : Int32} {tgt : Nat} (hd : decode y.2.1 pc = .ok (.tableswitch dflt lo hi offs, len)) (h0 : x.toInt < lo ∨ hi < x.toInt) (ht : (pc : Int) + dflt = (tgt : Int)) (kk : am_A G d y mc ms post k n (tgt) lv (st) N h) : am_A G d y mc ms post k n (pc) lv (.int x :: st) N h := by
  intro p e s m args below meth c H locs ls X hW hlo hl
  exact lv_tableOut X.1 X.2.1 hd h0 ht (kk p e s m args below meth c H locs ls X hW hlo hl)
theorem am_lookup {dflt : Int} {ps : Array (Int × Int)} {len : Nat} {x : Int32} {off : Int} {tgt : Nat} (hd : decode y.2.1 pc = .ok (.lookupswitch dflt ps, len)) (hp : (ps.toList.zip (ps.toList.drop 1)).all (fun (a, next) => a.1 < next.1) = true) (ho : Op.lookupswitch.offset ps.toList dflt x.toInt = off) (ht : (pc : Int) + off = (tgt : Int)) (kk : am_A G d y mc ms post k n (tgt) lv (st) N h) : am_A G d y mc ms post k n (pc) lv (.int x :: st) N h := by
  intro p e s m args below meth c H locs ls X hW hlo hl
  exact lv_lookup X.1 X.2.1 hd hp ho ht (kk p e s m args below meth c H locs ls X hW hlo hl)
end
end
section
section
variable {G : am_G} {d : Nat} {y : am_M} {mc ms : Nat} {post : am_T} {k n pc N : Nat} {lv lv' : List (Nat × Value)} {st : List Value} {h : am_H}
theorem inX0 : ∀ w ∈ u_ws RX0 TX0 4, w ∈ am_tbl := by decide +kernel
theorem inX1 : ∀ w ∈ u_ws RX1 TX1 1, w ∈ am_tbl := by decide +kernel
theorem inX2 : ∀ w ∈ u_ws RX2 TX2 2, w ∈ am_tbl := by decide +kernel
theorem inX3 : ∀ w ∈ u_ws RX3 TX3 3, w ∈ am_tbl := by decide +kernel
theorem inX4 : ∀ w ∈ u_ws RX4 TX4 2, w ∈ am_tbl := by decide +kernel
theorem inX5 : ∀ w ∈ u_ws RX5 TX5 6, w ∈ am_tbl := by decide +kernel
theorem inX6 : ∀ w ∈ u_ws RX6 TX6 10, w ∈ am_tbl := by decide +kernel
theorem inX7 : ∀ w ∈ u_ws RX7 TX7 5, w ∈ am_tbl := by decide +kernel
theorem inX8 : ∀ w ∈ u_ws RX8 TX8 13, w ∈ am_tbl := by decide +kernel
theorem inX9 : ∀ w ∈ u_ws RX9 TX9 28, w ∈ am_tbl := by decide +kernel
theorem am_cls {ci : Nat} {q : vw_C} (hc : am_cl[ci]? = some q) : (∀ w ∈ u_ws q.1 q.2.1 q.2.2, w ∈ am_tbl) ∧ (∃ ty : Nat → FieldType, ∀ k, k < q.2.2 → parseFieldDescriptor (q.2.1 k).2.2.1 = some (ty k)) ∧ (∀ a, a < q.2.2 → ∀ b, b < q.2.2 → a ≠ b → (q.2.1 a).2.1 ≠ (q.2.1 b).2.1) := by
  match ci, hc with
  | 0, hc => cases hc; exact ⟨inX0, ⟨tyX0, tyX0_ok⟩, nmX0⟩
  | 1, hc => cases hc; exact ⟨inX1, ⟨tyX1, tyX1_ok⟩, nmX1⟩
  | 2, hc => cases hc; exact ⟨inX2, ⟨tyX2, tyX2_ok⟩, nmX2⟩
  | 3, hc => cases hc; exact ⟨inX3, ⟨tyX3, tyX3_ok⟩, nmX3⟩
  | 4, hc => cases hc; exact ⟨inX4, ⟨tyX4, tyX4_ok⟩, nmX4⟩
  | 5, hc => cases hc; exact ⟨inX5, ⟨tyX5, tyX5_ok⟩, nmX5⟩
  | 6, hc => cases hc; exact ⟨inX6, ⟨tyX6, tyX6_ok⟩, nmX6⟩
  | 7, hc => cases hc; exact ⟨inX7, ⟨tyX7, tyX7_ok⟩, nmX7⟩
  | 8, hc => cases hc; exact ⟨inX8, ⟨tyX8, tyX8_ok⟩, nmX8⟩
  | 9, hc => cases hc; exact ⟨inX9, ⟨tyX9, tyX9_ok⟩, nmX9⟩
  | ci + 10, hc => simp at hc
theorem am_wsr {G : am_G} {N a : Nat} {h : am_H} {ci : Nat} {fs : List Value} (ha : a < N) (hr : h a = .inr (ci, fs)) : (am_ws G N h)[a]? = some (am_B G + a, .inr (ci, fs.map (am_cv G))) := by rw [am_ws_get G h ha, hr]; rfl
theorem am_wsl {G : am_G} {N a : Nat} {h : am_H} {t : Nat} {x : vp_A} (ha : a < N) (hr : h a = .inl (t, x)) : (am_ws G N h)[a]? = some (am_B G + a, .inl (am_aC G t, am_ca G x)) := by rw [am_ws_get G h ha, hr]; rfl
theorem am_S {G : am_G} {s : State} {N : Nat} {h : am_H} {H : Heap} {locs : List Loc} (hZ : am_Z G s) (hW : am_W G N h H) (hlo : ∀ q ∈ locs, am_B G ≤ q.base) : va_S (fun q => am_B G ≤ q) (am_H0 G) H locs :=
  ⟨by rw [hZ.2.2.2, hW.1]; exact Nat.le_add_right _ _, fun q h1 _ => hW.2.1 q (by rw [hZ.2.2.2] at h1; exact h1), hlo⟩
theorem am_loc {G : am_G} {locs : List Loc} {a k : Nat} (hlo : ∀ q ∈ locs, am_B G ≤ q.base) (ha : am_B G ≤ a) : ∀ q ∈ locs ++ [⟨a, k⟩], am_B G ≤ q.base := by
  intro q hq
  rcases List.mem_append.mp hq with h | h
  · exact hlo q h
  · rw [List.mem_singleton.mp h]; exact ha
theorem am_get {a ci j idx : Nat} {q : vw_C} {fs : List Value} {v : Value} (hd : decode y.2.1 pc = .ok (.getfield idx, 3)) (hc : am_cl[ci]? = some q) (hj : j < q.2.2) (hlk : Cond.fieldLink y.1.cls idx (q.2.1 j).1 (q.2.1 j).2.1 (q.2.1 j).2.2.1 ∈ am_tbl) (ha : a < N) (hr : h a = .inr (ci, fs)) (hv : fs[j]? = some v) (kk : am_A G d y mc ms post (k) (n) (pc + 3) lv (v :: st) (N) (h)) : am_A G d y mc ms post (k) (n) (pc) lv (.ref a :: st) (N) (h) := by
  intro p e s m args below meth c H locs ls X hW hlo hl
  have hx := X.1
  have hb := X.2.1
  have hown := X.2.2.2.2.1
  have hts := X.2.2.2.2.2.1
  have hK := X.2.2.2.2.2.2.2.2
  exact va_get hx hb hts (am_cls hc).1 hown hK.1 hW.2.2 a (am_wsr ha hr) hc j hj (hts _ hlk) (fun _ h9 => h9) (by rw [List.getElem?_map, hv]; rfl) hd (kk p e s m args below meth c H locs ls X hW hlo hl)
theorem am_put {a ci j idx : Nat} {q : vw_C} {fs : List Value} {v : Value} {ty : FieldType} (hd : decode y.2.1 pc = .ok (.putfield idx, 3)) (hc : am_cl[ci]? = some q) (hj : j < q.2.2) (hlk : Cond.fieldLink y.1.cls idx (q.2.1 j).1 (q.2.1 j).2.1 (q.2.1 j).2.2.1 ∈ am_tbl) (hfin : (q.2.1 j).2.2.2 = false) (hty : parseFieldDescriptor (q.2.1 j).2.2.1 = some ty) (hnv : narrow ty (am_cv G v) = am_cv G v) (hfv : fits ty (am_cv G v) = true) (ha : a < N) (hr : h a = .inr (ci, fs)) (hf : j < fs.length) (kk : am_A G d y mc ms post (k) (n) (pc + 3) lv (st) (N) (va_up h a (.inr (ci, fs.set j v)))) : am_A G d y mc ms post (k) (n) (pc) lv (v :: .ref a :: st) (N) (h) := by
  intro p e s m args below meth c H locs ls X hW hlo hl
  have hx := X.1
  have hb := X.2.1
  have hown := X.2.2.2.2.1
  have hts := X.2.2.2.2.2.1
  have hK := X.2.2.2.2.2.2.2.2
  obtain ⟨C, T, M⟩ := q
  obtain ⟨hin, ⟨ty0, hty0⟩, hnm⟩ := am_cls hc
  have hap := va_apart (own := y.1.cls) hts hin ty0 hty0 hnm hK.1 hc
  have he := am_wsr (G := G) ha hr
  obtain ⟨r, h1, cell, q1, q2, q3, q4⟩ := hW.2.2 a _ he
  have hre : r = (C, T, M) := Option.some.inj (h1.symm.trans hc)
  subst hre
  obtain ⟨hS, hfc, kC, hkC, hkind⟩ := hK.1.1 ci _ hc
  obtain ⟨cf, kf, fi, f, hi, hsl⟩ := hS j hj
  have hlay := hts _ (hin _ (u_in_lay hj))
  unfold u_lay at hlay
  rw [if_neg (by rw [hfin]; decide)] at hlay
  have hst := (u_facts hfc hkC (u_lays hts hin hj) hi).1
  have h6 := u_store hfc hkC hkind hlay hi hty hnv hfv
  refine W.putK hx hb (f := f) ⟨hown, hts _ hlk, ⟨_, _, _, hi⟩, hst⟩ (by rw [q2]; exact h6) q1 q3 (by rw [hsl]; exact k2_hasslot (q4 j hj)) rfl rfl hd fun H' e1 e2 e3 => ?_
  rw [hsl] at e1 ⊢
  refine kk p e s m args below meth c H' _ ls X (am_W_set hW ?_ e2 e3) (am_loc hlo (Nat.le_add_right _ _)) hl
  exact ⟨_, hc, t_OB.to (V := updV (vp_V (fs.map (am_cv G))) j (am_cv G v)) ⟨_, e1, q2, q3, t_set q4 hap hj _⟩ (fun z _ => by
    rw [vp_updV_set (by simpa using hf) (am_cv G v) z, List.map_set])⟩
theorem am_putF {a ci j idx : Nat} {q : vw_C} {fs : List Value} {v : Value} {ty : FieldType} (hd : decode y.2.1 pc = .ok (.putfield idx, 3)) (hc : am_cl[ci]? = some q) (hj : j < q.2.2) (hlk : Cond.fieldLink y.1.cls idx (q.2.1 j).1 (q.2.1 j).2.1 (q.2.1 j).2.2.1 ∈ am_tbl) (hfin : (q.2.1 j).2.2.2 = true) (hin2 : y.1.name = "<init>") (hdecl : (q.2.1 j).1 = y.1.cls) (hty : parseFieldDescriptor (q.2.1 j).2.2.1 = some ty) (hnv : narrow ty (am_cv G v) = am_cv G v) (hfv : fits ty (am_cv G v) = true) (ha : a < N) (hr : h a = .inr (ci, fs)) (hf : j < fs.length) (kk : am_A G d y mc ms post (k) (n) (pc + 3) lv (st) (N) (va_up h a (.inr (ci, fs.set j v)))) : am_A G d y mc ms post (k) (n) (pc) lv (v :: .ref a :: st) (N) (h) := by
  intro p e s m args below meth c H locs ls X hW hlo hl
  have hx := X.1
  have hb := X.2.1
  have hown := X.2.2.2.2.1
  have hts := X.2.2.2.2.2.1
  have hK := X.2.2.2.2.2.2.2.2
  obtain ⟨C, T, M⟩ := q
  obtain ⟨hin, ⟨ty0, hty0⟩, hnm⟩ := am_cls hc
  have hap := va_apart (own := y.1.cls) hts hin ty0 hty0 hnm hK.1 hc
  have he := am_wsr (G := G) ha hr
  obtain ⟨r, h1, cell, q1, q2, q3, q4⟩ := hW.2.2 a _ he
  have hre : r = (C, T, M) := Option.some.inj (h1.symm.trans hc)
  subst hre
  obtain ⟨hS, hfc, kC, hkC, hkind⟩ := hK.1.1 ci _ hc
  obtain ⟨cf, kf, fi, f, hi, hsl⟩ := hS j hj
  have hlay := hts _ (hin _ (u_in_lay hj))
  unfold u_lay at hlay
  rw [if_pos hfin] at hlay
  have hst := (u_facts hfc hkC (u_lays hts hin hj) hi).1
  have hcf : m.cls = cf := by
    obtain ⟨_, _, c', _, _, _, -, -, hf', -, -, -, hown2, -⟩ := Cond.laysFinal_spec hlay
    have e1 : c' = cf := by have := hi.symm.trans hf'; simp at this; exact this.1.symm
    rw [hdecl] at hown2
    rw [← e1]; exact Option.some.inj (hown.symm.trans hown2)
  have h6 := u_fits hfc hkC hkind (Or.inr hlay) hi hty hnv hfv
  have hin3 : meth.name = "<init>" := X.2.2.2.2.2.2.2.1.trans hin2
  refine W.putFinK hx hb hown (hts _ hlk) hi hst hcf hin3 (by rw [q2]; exact h6) q1 q3 (by rw [hsl]; exact k2_hasslot (q4 j hj)) rfl rfl hd fun H' e1 e2 e3 => ?_
  rw [hsl] at e1 ⊢
  refine kk p e s m args below meth c H' _ ls X (am_W_set hW ?_ e2 e3) (am_loc hlo (Nat.le_add_right _ _)) hl
  exact ⟨_, hc, t_OB.to (V := updV (vp_V (fs.map (am_cv G))) j (am_cv G v)) ⟨_, e1, q2, q3, t_set q4 hap hj _⟩ (fun z _ => by
    rw [vp_updV_set (by simpa using hf) (am_cv G v) z, List.map_set])⟩
theorem am_iald {a z : Nat} {f : Nat → Int32} {i : Int32} (hd : decode y.2.1 pc = .ok (.iaload, 1)) (ha : a < N) (hr : h a = .inl (0, z, .inl f)) (hi : vp_in i z) (kk : am_A G d y mc ms post (k) (n) (pc + 1) lv (.int (f i.toNatClampNeg) :: st) (N) (h)) : am_A G d y mc ms post (k) (n) (pc) lv (.int i :: .ref a :: st) (N) (h) := by
  intro p e s m args below meth c H locs ls X hW hlo hl
  have hx := X.1
  have hb := X.2.1
  have hown := X.2.2.2.2.1
  have hts := X.2.2.2.2.2.1
  have hK := X.2.2.2.2.2.2.2.2
  exact va_iald hx hb hK.1 hW.2.2 a 0 (am_wsl ha hr) rfl hi hd (kk p e s m args below meth c H locs ls X hW hlo hl)
theorem am_lald {a z : Nat} {f : Nat → Int64} {i : Int32} (hd : decode y.2.1 pc = .ok (.laload, 1)) (ha : a < N) (hr : h a = .inl (1, z, .inr (.inl f))) (hi : vp_in i z) (kk : am_A G d y mc ms post (k) (n) (pc + 1) lv (.long (f i.toNatClampNeg) :: st) (N) (h)) : am_A G d y mc ms post (k) (n) (pc) lv (.int i :: .ref a :: st) (N) (h) := by
  intro p e s m args below meth c H locs ls X hW hlo hl
  have hx := X.1
  have hb := X.2.1
  have hown := X.2.2.2.2.1
  have hts := X.2.2.2.2.2.1
  have hK := X.2.2.2.2.2.2.2.2
  exact va_lald hx hb hK.1 hW.2.2 a 1 (am_wsl ha hr) rfl hi hd (kk p e s m args below meth c H locs ls X hW hlo hl)
theorem am_tyq {G : am_G} {t : Nat} (h1 : 2 ≤ t) (h2 : t < 5) : ∃ C, (am_tys (am_aC G))[t]? = some (am_aC G t, .object C) := by
  match t, h1, h2 with
  | 2, _, _ => exact ⟨_, rfl⟩
  | 3, _, _ => exact ⟨_, rfl⟩
  | 4, _, _ => exact ⟨_, rfl⟩
theorem am_aald {a z t b : Nat} {f : Nat → Option Nat} {i : Int32} (hd : decode y.2.1 pc = .ok (.aaload, 1)) (h1 : 2 ≤ t) (h2 : t < 5) (ha : a < N) (hr : h a = .inl (t, z, .inr (.inr (.inr (.inr f))))) (hi : vp_in i z) (hv : f i.toNatClampNeg = some b) (kk : am_A G d y mc ms post (k) (n) (pc + 1) lv (.ref b :: st) (N) (h)) : am_A G d y mc ms post (k) (n) (pc) lv (.int i :: .ref a :: st) (N) (h) := by
  intro p e s m args below meth c H locs ls X hW hlo hl
  have hx := X.1
  have hb := X.2.1
  have hown := X.2.2.2.2.1
  have hts := X.2.2.2.2.2.1
  have hK := X.2.2.2.2.2.2.2.2
  obtain ⟨C, hC⟩ := am_tyq (G := G) h1 h2
  refine va_aldq hx hb hK.1 hW.2.2 a t (am_wsl ha hr) hC hi hd ?_
  show W p G.1 e _ s m args below meth c H locs k n _ (F0 m (pc + 1) ls (va_rf ((f i.toNatClampNeg).map _) :: _))
  rw [hv]
  exact (kk p e s m args below meth c H locs ls X hW hlo hl)
theorem am_alen {a t : Nat} {x : vp_A} (hd : decode y.2.1 pc = .ok (.arraylength, 1)) (ht : t < 5) (ha : a < N) (hr : h a = .inl (t, x)) (kk : am_A G d y mc ms post (k) (n) (pc + 1) lv (.int (Int32.ofNat x.1) :: st) (N) (h)) : am_A G d y mc ms post (k) (n) (pc) lv (.ref a :: st) (N) (h) := by
  intro p e s m args below meth c H locs ls X hW hlo hl
  have hx := X.1
  have hb := X.2.1
  have hown := X.2.2.2.2.1
  have hts := X.2.2.2.2.2.1
  have hK := X.2.2.2.2.2.2.2.2
  have ht2 : ∃ ty, (am_tys (am_aC G))[t]? = some (am_aC G t, ty) := by
    match t, ht with
    | 0, _ => exact ⟨_, rfl⟩
    | 1, _ => exact ⟨_, rfl⟩
    | 2, _ => exact ⟨_, rfl⟩
    | 3, _ => exact ⟨_, rfl⟩
    | 4, _ => exact ⟨_, rfl⟩
  obtain ⟨ty, hty⟩ := ht2
  exact va_alen hx hb hK.1 hW.2.2 a t (am_wsl ha hr) hty (by obtain ⟨z, f | f | f | f | f⟩ := x <;> rfl) hd (kk p e s m args below meth c H locs ls X hW hlo hl)
theorem am_iast {a z : Nat} {f : Nat → Int32} {i : Int32} {x : Int32} (hd : decode y.2.1 pc = .ok (.iastore, 1)) (ha : a < N) (hr : h a = .inl (0, z, .inl f)) (hi : vp_in i z) (kk : am_A G d y mc ms post (k) (n) (pc + 1) lv (st) (N) (va_up h a (.inl (0, z, .inl (upd f i.toNatClampNeg x))))) : am_A G d y mc ms post (k) (n) (pc) lv (.int x :: .int i :: .ref a :: st) (N) (h) := by
  intro p e s m args below meth c H locs ls X hW hlo hl
  have hx := X.1
  have hb := X.2.1
  have hown := X.2.2.2.2.1
  have hts := X.2.2.2.2.2.1
  have hK := X.2.2.2.2.2.2.2.2
  refine W.iast hx hb (hW.2.2 a _ (am_wsl ha hr)) ((hK.1.2 0 _ rfl).1 z (fun j => .int (f j))) (fun q => by cases q) (by show ¬ (i < 0 ∨ (arrV _ _ _).slots.size ≤ _); rw [arrV_size]; exact hi) rfl rfl hd fun H1 e1 e2 oq => ?_
  refine kk p e s m args below meth c H1 _ ls X (am_W_set hW ?_ e2 oq) (am_loc hlo (Nat.le_add_right _ _)) hl
  show H1[am_B G + a]? = some (vp_cell _ _)
  rw [e1]
  show some ((vp_cell _ _).setSlot _ _) = _
  rw [show am_ca G (z, .inl f) = (z, .inl f) from rfl, show am_ca G (z, .inl (upd f i.toNatClampNeg x)) = (z, .inl (upd f i.toNatClampNeg x)) from rfl, vp_cell_i, vp_cell_i, arrV_store]
  congr 2
  funext q
  by_cases hq : q = i.toNatClampNeg
  · subst hq
    simp [updV, upd]
  · simp [updV, upd, hq]
theorem am_last {a z : Nat} {f : Nat → Int64} {i : Int32} {x : Int64} (hd : decode y.2.1 pc = .ok (.lastore, 1)) (ha : a < N) (hr : h a = .inl (1, z, .inr (.inl f))) (hi : vp_in i z) (kk : am_A G d y mc ms post (k) (n) (pc + 1) lv (st) (N) (va_up h a (.inl (1, z, .inr (.inl (vp_updL f i.toNatClampNeg x)))))) : am_A G d y mc ms post (k) (n) (pc) lv (.long x :: .int i :: .ref a :: st) (N) (h) := by
  intro p e s m args below meth c H locs ls X hW hlo hl
  have hx := X.1
  have hb := X.2.1
  have hown := X.2.2.2.2.1
  have hts := X.2.2.2.2.2.1
  have hK := X.2.2.2.2.2.2.2.2
  refine W.last hx hb (hW.2.2 a _ (am_wsl ha hr)) ((hK.1.2 1 _ rfl).1 z (fun j => .long (f j))) (fun q => by cases q) (by show ¬ (i < 0 ∨ (arrV _ _ _).slots.size ≤ _); rw [arrV_size]; exact hi) rfl rfl hd fun H1 e1 e2 oq => ?_
  refine kk p e s m args below meth c H1 _ ls X (am_W_set hW ?_ e2 oq) (am_loc hlo (Nat.le_add_right _ _)) hl
  show H1[am_B G + a]? = some (vp_cell _ _)
  rw [e1]
  show some ((vp_cell _ _).setSlot _ _) = _
  rw [show am_ca G (z, .inr (.inl f)) = (z, .inr (.inl f)) from rfl, show am_ca G (z, .inr (.inl (vp_updL f i.toNatClampNeg x))) = (z, .inr (.inl (vp_updL f i.toNatClampNeg x))) from rfl, vp_cell_l, vp_cell_l, arrV_store]
  congr 2
  funext q
  by_cases hq : q = i.toNatClampNeg
  · subst hq
    simp [updV, vp_updL]
  · simp [updV, vp_updL, hq]
theorem am_aast {a z t b ci : Nat} {q : vw_C} {f : Nat → Option Nat} {i : Int32} {vs : List Value} (hd : decode y.2.1 pc = .ok (.aastore, 1)) (ht : (am_tys (am_aC G))[t]? = some (am_aC G t, .object q.1)) (hc : am_cl[ci]? = some q) (ha : a < N) (hr : h a = .inl (t, z, .inr (.inr (.inr (.inr f))))) (hb2 : b < N) (hrb : h b = .inr (ci, vs)) (hi : vp_in i z) (kk : am_A G d y mc ms post (k) (n) (pc + 1) lv (st) (N) (va_up h a (.inl (t, z, .inr (.inr (.inr (.inr (va_up f i.toNatClampNeg (some b))))))))) : am_A G d y mc ms post (k) (n) (pc) lv (.ref b :: .int i :: .ref a :: st) (N) (h) := by
  intro p e s m args below meth c H locs ls X hW hlo hl
  have hx := X.1
  have hb := X.2.1
  have hown := X.2.2.2.2.1
  have hts := X.2.2.2.2.2.1
  have hK := X.2.2.2.2.2.2.2.2
  have hlt : i.toNatClampNeg < z := Nat.not_le.mp fun q => hi (Or.inr q)
  have h0 : ¬ i < 0 := fun q => hi (Or.inl q)
  obtain ⟨r', hr', cellV, g1, g2, g3, -⟩ := hW.2.2 b _ (am_wsr hb2 hrb)
  have hcls := (hK.1.1 ci q hc).2
  obtain ⟨kA, comp, k1, k2, k3, -⟩ := (hK.1.2 t _ ht).2
  have hcomp : comp = (am_D G).1 ci := Option.some.inj (k3.symm.trans hcls.1)
  subst hcomp
  obtain ⟨kC, hkC, -⟩ := hcls.2
  refine W.aast hx hb (hW.2.2 a _ (am_wsl ha hr)) (fun q h => by cases h) (fun h => by cases h) k1 k2 rfl hkC ⟨h0, by show _ < (arrV _ _ _).slots.size; rw [arrV_size]; exact hlt⟩ g1 (fun q h => by rw [g3] at h; cases h) (by rw [g2]; exact hkC) (by rw [g2]; exact va_assign hcls) rfl rfl hd fun H1 e1 e2 oq => ?_
  refine kk p e s m args below meth c H1 _ ls X (am_W_set hW ?_ e2 oq) (am_loc hlo (Nat.le_add_right _ _)) hl
  show H1[am_B G + a]? = some (vp_cell _ _)
  rw [e1]
  show some ((arrV _ _ (fun j => va_rf ((f j).map _))).setSlot _ _) = some (arrV _ _ (fun j => va_rf ((va_up f i.toNatClampNeg (some b) j).map _)))
  rw [arrV_store]
  congr 2
  funext q
  by_cases hq : q = i.toNatClampNeg
  · subst hq
    simp [updV, va_up, va_rf]
  · simp [updV, va_up, hq]
end
end
section
section
variable {G : am_G} {d : Nat} {y : am_M} {mc ms : Nat} {post : am_T} {k n pc N : Nat} {lv lv' : List (Nat × Value)} {st : List Value} {h : am_H}
def am_df (ci : Nat) : List Value := match ci with
  | 0 => [.null, .int 0, .null, .null]
  | 1 => [.null]
  | 2 => [.null, .int 0]
  | 3 => [.null, .int 0, .int 0]
  | 4 => [.null, .int 0]
  | 5 => [.null, .null, .null, .null, .null, .int 0]
  | 6 => [.int 0, .int 0, .null, .null, .null, .int 0, .int 0, .int 0, .int 0, .int 0]
  | 7 => [.int 0, .null, .null, .null, .null]
  | 8 => [.null, .null, .null, .null, .null, .null, .null, .null, .null, .null, .null, .int 0, .int 0]
  | 9 => [.int 0, .int 0, .null, .int 0, .null, .null, .null, .null, .null, .int 0, .null, .int 0, .null, .int 0, .null, .int 0, .null, .int 0, .int 0, .int 0, .int 0, .null, .int 0, .null, .int 0, .null, .null, .null]
  | _ => []
theorem am_df_cv (G : am_G) (ci : Nat) : (am_df ci).map (am_cv G) = am_df ci := by
  unfold am_df
  split <;> rfl
theorem am_df_ok {ci : Nat} {q : vw_C} (hc : am_cl[ci]? = some q) : ∀ j, j < q.2.2 → (parseFieldDescriptor (q.2.1 j).2.2.1).map defaultValue = some (vp_V (am_df ci) j) := by
  match ci, hc with
  | 0, hc => cases hc; decide +kernel
  | 1, hc => cases hc; decide +kernel
  | 2, hc => cases hc; decide +kernel
  | 3, hc => cases hc; decide +kernel
  | 4, hc => cases hc; decide +kernel
  | 5, hc => cases hc; decide +kernel
  | 6, hc => cases hc; decide +kernel
  | 7, hc => cases hc; decide +kernel
  | 8, hc => cases hc; decide +kernel
  | 9, hc => cases hc; decide +kernel
  | ci + 10, hc => simp at hc
theorem am_new {ci idx : Nat} {q : vw_C} (hd : decode y.2.1 pc = .ok (.new idx, 3)) (hc : am_cl[ci]? = some q) (hlk : Cond.classLink y.1.cls idx q.1 ∈ am_tbl) (hin : Cond.instantiable q.1 q.2.2 ∈ am_tbl) (hini : Cond.initialized q.1 ∈ am_tbl) (hk : k + 1 ≤ mc) (hn : n + q.2.2 ≤ ms) (kk : am_A G d y mc ms post (k + 1) (n + q.2.2) (pc + 3) lv (.ref N :: st) (N + 1) (va_up h N (.inr (ci, am_df ci)))) : am_A G d y mc ms post (k) (n) (pc) lv (st) (N) (h) := by
  intro p e s m args below meth c H locs ls X hW hlo hl
  have hx := X.1
  have hb := X.2.1
  have hown := X.2.2.2.2.1
  have hts := X.2.2.2.2.2.1
  have hK := X.2.2.2.2.2.2.2.2
  obtain ⟨C, T, M⟩ := q
  obtain ⟨hin0, ⟨ty, hty⟩, -⟩ := am_cls hc
  have hKn := hK.1.1 ci _ hc
  refine W.newcK hx hb hown (hts _ hlk) (hts _ hin) (hts _ hini) rfl hd hk hn hKn.2.1 hW.1 fun H1 kC hkC e1 z1 o1 => ?_
  refine kk p e s m args below meth c H1 locs ls X (am_W_push hW ?_ (by rw [z1, hW.1]) (fun q hq => o1 q (by rw [← hW.1]; exact hq))) hlo hl
  refine ⟨_, hc, (u_born ty hts hin0 hKn hkC e1 hty).to (fun j hj => ?_)⟩
  show _ = vp_V ((am_df ci).map (am_cv G)) j
  rw [am_df_cv]
  have h2 := am_df_ok hc j hj
  rw [hty j hj] at h2
  exact Option.some.inj h2
theorem am_newi {x : Int32} {z : Nat} (hd : decode y.2.1 pc = .ok (.newarray .int, 2)) (harr : Cond.arrayClass .int ∈ am_tbl) (hx0 : ¬ x < 0) (hz : x.toNatClampNeg = z) (hby : z * 8 ≤ 536870912) (hk : k + 1 ≤ mc) (hn : n + z ≤ ms) (kk : am_A G d y mc ms post (k + 1) (n + z) (pc + 2) lv (.ref N :: st) (N + 1) (va_up h N (.inl (0, z, .inl (fun _ => 0))))) : am_A G d y mc ms post (k) (n) (pc) lv (.int x :: st) (N) (h) := by
  intro p e s m args below meth c H locs ls X hW hlo hl
  have hx := X.1
  have hb := X.2.1
  have hown := X.2.2.2.2.1
  have hts := X.2.2.2.2.2.1
  have hK := X.2.2.2.2.2.2.2.2
  refine va_newaK (atype := .int) hx hb (hts _ harr) rfl hd rfl hx0 hz (Nat.le_trans (Nat.mul_le_mul_left z (show componentBytes .int ≤ 8 by decide)) hby) hk hn hW.1 fun H1 cA e1 z1 o1 hAr hNm => ?_
  have hcA : cA = am_aC G 0 := Option.some.inj (hNm.symm.trans (show s.vm.findClass ("[" ++ (newarray.typeOf .int).toString) = some (am_aC G 0) from (hK.1.2 0 (am_aC G 0, .int) rfl).2))
  subst hcA
  refine kk p e s m args below meth c H1 locs ls X (am_W_push hW ?_ (by rw [z1, hW.1]) (fun q hq => o1 q (by rw [← hW.1]; exact hq))) hlo hl
  exact e1
theorem am_newl {x : Int32} {z : Nat} (hd : decode y.2.1 pc = .ok (.newarray .long, 2)) (harr : Cond.arrayClass .long ∈ am_tbl) (hx0 : ¬ x < 0) (hz : x.toNatClampNeg = z) (hby : z * 8 ≤ 536870912) (hk : k + 1 ≤ mc) (hn : n + z ≤ ms) (kk : am_A G d y mc ms post (k + 1) (n + z) (pc + 2) lv (.ref N :: st) (N + 1) (va_up h N (.inl (1, z, .inr (.inl (fun _ => 0)))))) : am_A G d y mc ms post (k) (n) (pc) lv (.int x :: st) (N) (h) := by
  intro p e s m args below meth c H locs ls X hW hlo hl
  have hx := X.1
  have hb := X.2.1
  have hown := X.2.2.2.2.1
  have hts := X.2.2.2.2.2.1
  have hK := X.2.2.2.2.2.2.2.2
  refine va_newaK (atype := .long) hx hb (hts _ harr) rfl hd rfl hx0 hz (Nat.le_trans (Nat.mul_le_mul_left z (show componentBytes .long ≤ 8 by decide)) hby) hk hn hW.1 fun H1 cA e1 z1 o1 hAr hNm => ?_
  have hcA : cA = am_aC G 1 := Option.some.inj (hNm.symm.trans (show s.vm.findClass ("[" ++ (newarray.typeOf .long).toString) = some (am_aC G 1) from (hK.1.2 1 (am_aC G 1, .long) rfl).2))
  subst hcA
  refine kk p e s m args below meth c H1 locs ls X (am_W_push hW ?_ (by rw [z1, hW.1]) (fun q hq => o1 q (by rw [← hW.1]; exact hq))) hlo hl
  exact e1
theorem am_AOt {G : am_G} {s : State} (hK : am_K G s) {t : Nat} {C : String} (ht : (am_tys (am_aC G))[t]? = some (am_aC G t, .object C)) : va_AO C s := by
  match t, ht with
  | 0, ht => simp [am_tys] at ht
  | 1, ht => simp [am_tys] at ht
  | 2, ht => simp [am_tys] at ht; rw [← ht]; exact hK.2.2.1
  | 3, ht => simp [am_tys] at ht; rw [← ht]; exact hK.2.2.2.1
  | 4, ht => simp [am_tys] at ht; rw [← ht]; exact hK.2.2.2.2
  | t + 5, ht => simp [am_tys] at ht
theorem am_newq {x : Int32} {z t idx : Nat} {C : String} (hd : decode y.2.1 pc = .ok (.anewarray idx, 3)) (ht : (am_tys (am_aC G))[t]? = some (am_aC G t, .object C)) (hlk : Cond.classLink y.1.cls idx C ∈ am_tbl) (hx0 : ¬ x < 0) (hz : x.toNatClampNeg = z) (hby : z * 4 ≤ 536870912) (hk : k + 1 ≤ mc) (hn : n + z ≤ ms) (kk : am_A G d y mc ms post (k + 1) (n + z) (pc + 3) lv (.ref N :: st) (N + 1) (va_up h N (.inl (t, z, .inr (.inr (.inr (.inr (fun _ => none)))))))) : am_A G d y mc ms post (k) (n) (pc) lv (.int x :: st) (N) (h) := by
  intro p e s m args below meth c H locs ls X hW hlo hl
  have hx := X.1
  have hb := X.2.1
  have hown := X.2.2.2.2.1
  have hts := X.2.2.2.2.2.1
  have hK := X.2.2.2.2.2.2.2.2
  subst hz
  refine W.anew hx hb hown (hts _ hlk) (va_AO.use (am_AOt hK ht)) rfl hd rfl hx0 hby hk hn fun cA kA comp f1 f2 f3 f4 => ?_
  obtain ⟨kA2, comp2, g1, g2, g3, g4⟩ := (hK.1.2 t _ ht).2
  have hcA : cA = am_aC G t := Option.some.inj (f1.symm.trans g4)
  subst hcA
  have hsz : H.size = am_B G + N := hW.1
  have hk2 := kk p e s m args below meth c (H.push ({ cls := am_aC G t, slots := Array.replicate x.toNatClampNeg .null, vm := .none } : Cell)) locs ls X (am_W_push hW (by
    have h9 : (H.push ({ cls := am_aC G t, slots := Array.replicate x.toNatClampNeg .null, vm := .none } : Cell))[am_B G + N]? = some (arrV (am_aC G t) x.toNatClampNeg (fun _ => .null)) := by rw [← hsz, Array.getElem?_push_size, ← arrV_new]
    exact h9) (by rw [Array.size_push]) (fun q hq => by rw [Array.getElem?_push, if_neg (Nat.ne_of_lt hq)])) hlo hl
  rw [hsz]
  exact hk2
theorem am_gets {idx : Nat} (hd : decode y.2.1 pc = .ok (.getstatic idx, 3)) (hlk : Cond.fieldLink y.1.cls idx RX1 "PLACES" "[I" ∈ am_tbl) (kk : am_A G d y mc ms post (k) (n) (pc + 3) lv (.retAddr 0 :: st) (N) (h)) : am_A G d y mc ms post (k) (n) (pc) lv (st) (N) (h) := by
  intro p e s m args below meth c H locs ls X hW hlo hl
  have hx := X.1
  have hb := X.2.1
  have hown := X.2.2.2.2.1
  have hts := X.2.2.2.2.2.1
  have hK := X.2.2.2.2.2.2.2.2
  obtain ⟨cf, kf, fi, f, a, cell, h1, h2, h3, h4, h5, h6, h7, h8⟩ := hK.2.1.1
  have ha : a < am_B G := Nat.lt_of_not_le h8
  exact W.gets hx hb hown (hts _ hlk) h1 h2 h3 h4 (by rw [hW.2.1 a ha]; exact h5) (fun e => by rw [e] at h6; cases h6) h7 rfl hd (kk p e s m args below meth c H locs ls X hW hlo hl)
theorem am_plald {x : Nat} {i : Int32} (hd : decode y.2.1 pc = .ok (.iaload, 1)) (hi : vp_in i 13) (kk : am_A G d y mc ms post (k) (n) (pc + 1) lv (.int (am_PL i.toNatClampNeg) :: st) (N) (h)) : am_A G d y mc ms post (k) (n) (pc) lv (.int i :: .retAddr x :: st) (N) (h) := by
  intro p e s m args below meth c H locs ls X hW hlo hl
  have hx := X.1
  have hb := X.2.1
  have hown := X.2.2.2.2.1
  have hts := X.2.2.2.2.2.1
  have hK := X.2.2.2.2.2.2.2.2
  exact va_sld hx hb hK.2.1.2.1 (by rw [hK.2.1.2.2.2]; exact hK.2.1.2.2.1) (Nat.not_le.mpr hK.2.1.2.2.1) (am_S hK.2.1 hW hlo) hi hd (kk p e s m args below meth c H locs ls X hW hlo hl)
theorem am_plen {x : Nat} (hd : decode y.2.1 pc = .ok (.arraylength, 1)) (kk : am_A G d y mc ms post (k) (n) (pc + 1) lv (.int 13 :: st) (N) (h)) : am_A G d y mc ms post (k) (n) (pc) lv (.retAddr x :: st) (N) (h) := by
  intro p e s m args below meth c H locs ls X hW hlo hl
  have hx := X.1
  have hb := X.2.1
  have hown := X.2.2.2.2.1
  have hts := X.2.2.2.2.2.1
  have hK := X.2.2.2.2.2.2.2.2
  exact va_slen hx hb hK.2.1.2.1 (by rw [hK.2.1.2.2.2]; exact hK.2.1.2.2.1) (Nat.not_le.mpr hK.2.1.2.2.1) (am_S hK.2.1 hW hlo) hd (kk p e s m args below meth c H locs ls X hW hlo hl)
theorem am_copy {a b z1 z2 idx : Nat} {f g : Nat → Int32} {sp dp x : Int32} (hd : decode y.2.1 pc = .ok (.invokestatic idx, 3)) (hlk : Cond.methodLink y.1.cls idx arraycopyName ∈ am_tbl) (hnat : Cond.native arraycopyName ∈ am_tbl) (hstat : Cond.static arraycopyName ∈ am_tbl) (hini : Cond.initialized "java/lang/System" ∈ am_tbl) (ha : a < N) (hr : h a = .inl (0, z1, .inl f)) (hbN : b < N) (hrb : h b = .inl (0, z2, .inl g)) (h1 : ¬ sp < 0) (h2 : ¬ dp < 0) (h3 : ¬ x < 0) (h4 : sp.toNatClampNeg + x.toNatClampNeg ≤ z1) (h5 : dp.toNatClampNeg + x.toNatClampNeg ≤ z2) (hdd : 1 ≤ d) (hrest : (st.map fun v => v.category).sum ≤ 20) (kk : am_A G d y mc ms post (k) (n) (pc + 3) lv (st) (N) (va_up h b (.inl (0, z2, .inl (va_cpy f g sp.toNatClampNeg dp.toNatClampNeg x.toNatClampNeg))))) : am_A G d y mc ms post (k) (n) (pc) lv (.int x :: .int dp :: .ref b :: .int sp :: .ref a :: st) (N) (h) := by
  intro p e s m args below meth c H locs ls X hW hlo hl
  have hx := X.1
  have hb := X.2.1
  have hown := X.2.2.2.2.1
  have hts := X.2.2.2.2.2.1
  have hK := X.2.2.2.2.2.2.2.2
  have nn : ∀ z : Int32, ¬ z < 0 → z.toInt = (z.toNatClampNeg : Int) := by
    intro z hz
    have hz0 : (0 : Int) ≤ z.toInt := by
      have := Int32.not_lt.mp hz
      simpa using Int32.le_iff_toInt_le.mp this
    show z.toInt = ((z.toInt.toNat : Nat) : Int)
    omega
  intro T hT Xs
  have hc0 : H[am_B G + a]? = some (vp_cell (am_aC G 0) (z1, .inl f)) := hW.2.2 a _ (am_wsl ha hr)
  have hc1 : H[am_B G + b]? = some (vp_cell (am_aC G 0) (z2, .inl g)) := hW.2.2 b _ (am_wsl hbN hrb)
  obtain ⟨-, k0, hk0, cm0, hkk0⟩ := (hK.1.2 0 _ rfl).1 z1 (fun j => .int (f j))
  obtain ⟨-, k1, hk1, cm1, hkk1⟩ := (hK.1.2 0 _ rfl).1 z2 (fun j => .int (g j))
  obtain ⟨vm', X', step⟩ := Xs.arraycopy hx hown (hts _ hlk) (hts _ hnat) (hts _ hstat) (hts _ hini) (src := am_B G + a) (dst := am_B G + b) (cs := vp_cell (am_aC G 0) (z1, .inl f)) (cd := vp_cell (am_aC G 0) (z2, .inl g)) (srcPos := sp) (destPos := dp) (n := x) (by rw [hT]; exact hc0) (by rw [hT]; exact hc1)
    (fun _ h => by cases h) (fun _ h => by cases h) (fun h => by cases h) (fun h => by cases h) hk0 hk1 hkk0 hkk1 (by simp [refKind]) h1 h2 h3
    (by rw [nn sp h1, nn x h3]; show ¬ _ > ((arrV (am_aC G 0) z1 (fun j => .int (f j))).slots.size : Int); rw [arrV_size]; omega)
    (by rw [nn dp h2, nn x h3]; show ¬ _ > ((arrV (am_aC G 0) z2 (fun j => .int (g j))).slots.size : Int); rw [arrV_size]; omega)
    (fun vm₁ _ i hi => by
      have e : (vp_cell (am_aC G 0) (z1, .inl f)).slots.getD (sp.toNatClampNeg + i) .null = .int (f (sp.toNatClampNeg + i)) := by
        show (arrV (am_aC G 0) z1 (fun j => .int (f j))).slots.getD _ _ = _
        rw [Array.getD_eq_getD_getElem?, arrV_read _ _ (by omega)]
        rfl
      refine ⟨?_, ?_⟩
      · rw [e]; rfl
      · rw [e]
        exact trivial)
    (g := F0 m pc ls (.int x :: .int dp :: .ref (am_B G + b) :: .int sp :: .ref (am_B G + a) :: st.map (am_cv G))) rfl (by rw [X.2.2.2.1]; exact hl.1) (rest := st.map (am_cv G)) rfl (by rw [hb]; exact hd) hdd (by
      show 2 * 0 + _ + _ ≤ 100 * d
      rw [List.map_map, show ((fun v => v.category) ∘ am_cv G) = (fun v : Value => v.category) from funext (am_cat G)]
      have hw : nativeFrameWords "java/lang/System" "arraycopy" 5 + 11 ≤ 70 := by decide
      omega)
  have e1 : copied (vp_cell (am_aC G 0) (z1, .inl f)) (vp_cell (am_aC G 0) (z2, .inl g)) sp dp x = vp_cell (am_aC G 0) (z2, .inl (va_cpy f g sp.toNatClampNeg dp.toNatClampNeg x.toNatClampNeg)) := va_copied (fun z => .int z) (am_aC G 0) (am_aC G 0) f g h4
  rw [e1] at X' step
  have hlb : am_B G + b < H.size := (Array.getElem?_eq_some_iff.mp hc1).1
  have hheap : ((T.setVm vm').setCell (am_B G + b) (vp_cell (am_aC G 0) (z2, .inl (va_cpy f g sp.toNatClampNeg dp.toNatClampNeg x.toNatClampNeg)))).heap = H.setIfInBounds (am_B G + b) (vp_cell (am_aC G 0) (z2, .inl (va_cpy f g sp.toNatClampNeg dp.toNatClampNeg x.toNatClampNeg))) := by rw [← hT]; rfl
  have oq : ∀ q : Nat, q ≠ am_B G + b → (H.setIfInBounds (am_B G + b) (vp_cell (am_aC G 0) (z2, .inl (va_cpy f g sp.toNatClampNeg dp.toNatClampNeg x.toNatClampNeg))))[q]? = H[q]? := fun q hq => by simp [Array.getElem?_setIfInBounds, Ne.symm hq]
  obtain ⟨t, a1, b1⟩ := kk p e s m args below meth c _ _ ls X (am_W_set hW (show (H.setIfInBounds (am_B G + b) _)[am_B G + b]? = some _ by simp [Array.getElem?_setIfInBounds, hlb]; rfl) (by simp) oq) (fun q hq => by
      rcases List.mem_append.mp hq with h | h
      · exact hlo q h
      · obtain ⟨z, -, hz⟩ := List.mem_map.mp h
        rw [← hz]
        exact Nat.le_add_right _ _) hl _ hheap X'
  exact ⟨t, step t a1, b1⟩
end
end
section
section
variable {G : am_G} {d : Nat} {y : am_M} {mc ms : Nat} {post : am_T} {k n pc N : Nat} {lv lv' : List (Nat × Value)} {st : List Value} {h : am_H}
def am_okM (y : am_M) (n : Nat) : Prop := plainName y.1.cls = true ∧ Cond.code y.1 y.2.1 y.2.2.1 y.2.2.2 ∈ am_tbl ∧ Cond.initialized y.1.cls ∈ am_tbl ∧ (y.1.cls ≠ "java/lang/invoke/MethodHandle" ∧ y.1.cls ≠ "java/lang/invoke/VarHandle" ∧ (parseMethodDescriptor y.1.desc).map (fun d => d.parameters.length) = some n) ∧ y.2.2.1 ≤ 60
theorem am_goody {y : am_M} (hc : Cond.code y.1 y.2.1 y.2.2.1 y.2.2.2 ∈ am_tbl) : GoodIn am_tbl (am_wy y) := fun w hw => by
  rcases List.mem_cons.mp hw with rfl | h
  · exact am_good _ hc
  · exact am_good _ h
theorem am_callB {y2 : am_M} {n2 d2 mc2 ms2 idx : Nat} {own : String} {s : State} {args : Array Value} (hts : ∀ w ∈ am_tbl, w.before args s = true) (ok : am_okM y2 n2) (hlk : Cond.methodLink own idx y2.1 ∈ am_tbl) (hd2 : d2 + 1 ≤ d) : CallB (am_R d mc ms) s args own idx y2.1 y2.2.1 y2.2.2.1 y2.2.2.2 (am_wy y2) (am_R d2 mc2 ms2) mc2 ms2 n2 :=
  callB_of n2 hts (am_goody ok.2.1) rfl rfl rfl (hts _ ok.2.2.1) (hts _ hlk) ok.2.2.2.1 ⟨hd2, by have := ok.2.2.2.2; show 8 + (y2.2.2.1 + 11) + 100 * d2 ≤ 100 * d; omega⟩
theorem am_blind (G : am_G) (N : Nat) (h : am_H) (as : List Value) : FrameBlind (am_P G N h as) := fun _ U _ _ q => ⟨q.1, q.2.1, am_K.moved (Vm.Alike.refl U.vm) q.2.2⟩
theorem am_catS (G : am_G) (st : List Value) : ((st.map (am_cv G)).map fun v => v.category).sum = (st.map fun v => v.category).sum := by
  rw [List.map_map, show ((fun v => v.category) ∘ am_cv G) = (fun v : Value => v.category) from funext (am_cat G)]
/-- behind a call -/
theorem am_after {p : Program} {e : Env} {s : State} {m : MethodId} {args a0 : Array Value} {below : List Frame} {meth : Method} {c : Code} {H : Heap} {locs : List Loc} {ls : Array Slot} {st0 : List Value} {rest : List Value} {mc2 ms2 : Nat} {post2 : am_T}
    (hr : va_Run p G.1 e (am_R d mc ms) s m args below meth c H locs k n mc2 ms2 (F0 m pc ls st0) (rest.map (am_cv G)) (am_Q G post2 a0) (fun q => am_B G ≤ q)) (X : am_X G y p s m args meth c) (hlo : ∀ q ∈ locs, am_B G ≤ q.base) (hl : lv_has ls y.2.2.1 (am_lv G lv))
    (kk : ∀ (r : Option Value) (N' : Nat) (h' : am_H), post2 r N' h' → am_A G d y mc ms post (k + mc2) (n + ms2) (pc + 3) lv (r.toList ++ rest) N' h') :
    W p G.1 e (am_R d mc ms) s m args below meth c H locs k n (MQ below (am_Q G post) args s mc ms (fun q => am_B G ≤ q)) (F0 m pc ls st0) := by
  intro T hT Xs
  obtain ⟨v, st₀, t, T', L, h0, X', hL, e1, e2, ⟨r, N', h', hv, hp, hw⟩, stp⟩ := hr T hT Xs
  have hv2 : v = r.map (am_cv G) := by cases hv; rfl
  subst hv2
  obtain ⟨t2, a1, b1⟩ := kk r N' h' hp p e s m args below meth c T'.heap (locs ++ L) ls X (by rw [e1]; exact hw) (fun q hq => by
    rcases List.mem_append.mp hq with h | h
    · exact hlo q h
    · exact hL q h) hl T' rfl X'
  refine ⟨t2, stp t2 ?_, b1⟩
  have e3 : (r.map (am_cv G)).toList ++ rest.map (am_cv G) = (r.toList ++ rest).map (am_cv G) := by cases r <;> rfl
  show Steps p.tables e below (T'.setTop (F0 m (pc + 3) ls ((r.map (am_cv G)).toList ++ rest.map (am_cv G)))) t2
  rw [e3]
  exact a1
theorem am_callV {y2 : am_M} {n2 d2 mc2 ms2 idx a ci : Nat} {q : vw_C} {fs as rest : List Value} {post2 : am_T} (hd : decode y.2.1 pc = .ok (.invokevirtual idx, 3)) (ok : am_okM y2 n2) (hlk : Cond.methodLink y.1.cls idx y2.1 ∈ am_tbl) (hin : Cond.instanceMethod y2.1 ∈ am_tbl) (hsel : Cond.selects y2.1.cls y2.1 y2.1 ∈ am_tbl) (hc : am_cl[ci]? = some q) (hcq : q.1 = y2.1.cls) (ha : a < N) (hr : h a = .inr (ci, fs)) (hst : st = as.reverse ++ .ref a :: rest) (hn2 : as.length = n2) (hrest : (rest.map fun v => v.category).sum ≤ 8) (hd2 : d2 + 1 ≤ d) (hk : k + mc2 ≤ mc) (hn : n + ms2 ≤ ms)
    (hC : am_C G d2 y2 mc2 ms2 (.ref a :: as) N h post2) (kk : ∀ (r : Option Value) (N' : Nat) (h' : am_H), post2 r N' h' → am_A G d y mc ms post (k + mc2) (n + ms2) (pc + 3) lv (r.toList ++ rest) N' h') : am_A G d y mc ms post (k) (n) (pc) lv (st) (N) (h) := by
  intro p e s m args below meth c H locs ls X hW hlo hl
  have hx := X.1
  have hb := X.2.1
  have hown := X.2.2.2.2.1
  have hts := X.2.2.2.2.2.1
  have hK := X.2.2.2.2.2.2.2.2
  subst hst
  refine am_after (va_runV (C := y2.1.cls) (b := am_B G + a) (As := as.map (am_cv G)) ⟨hx, hb, X.2.2.2.1, hown, hts⟩ hC ⟨am_callB hts ok hlk hd2, hts _ hin, hts _ hsel⟩ ⟨am_blind G N h _, ?_, fun U hU hWm => ⟨rfl, by rw [hU]; exact hW, am_K.moved hWm.alike hK⟩⟩ rfl (by simpa using hn2) hl.1 (by simp [am_cv]) (lv_room (by rw [am_catS]; exact hrest)) hd ⟨hk, hn⟩) X hlo hl kk
  have := va_recv hK.1 hW.2.2 hc (am_wsr ha hr)
  rw [hcq] at this
  exact this
theorem am_callS {y2 : am_M} {n2 d2 mc2 ms2 idx : Nat} {as rest : List Value} {post2 : am_T} (hd : decode y.2.1 pc = .ok (.invokestatic idx, 3)) (ok : am_okM y2 n2) (hlk : Cond.methodLink y.1.cls idx y2.1 ∈ am_tbl) (hin : Cond.static y2.1 ∈ am_tbl) (hst : st = as.reverse ++ rest) (hn2 : as.length = n2) (hrest : (rest.map fun v => v.category).sum ≤ 8) (hd2 : d2 + 1 ≤ d) (hk : k + mc2 ≤ mc) (hn : n + ms2 ≤ ms)
    (hC : am_C G d2 y2 mc2 ms2 as N h post2) (kk : ∀ (r : Option Value) (N' : Nat) (h' : am_H), post2 r N' h' → am_A G d y mc ms post (k + mc2) (n + ms2) (pc + 3) lv (r.toList ++ rest) N' h') : am_A G d y mc ms post (k) (n) (pc) lv (st) (N) (h) := by
  intro p e s m args below meth c H locs ls X hW hlo hl
  have hx := X.1
  have hb := X.2.1
  have hown := X.2.2.2.2.1
  have hts := X.2.2.2.2.2.1
  have hK := X.2.2.2.2.2.2.2.2
  subst hst
  exact am_after (va_runS (As := as.map (am_cv G)) ⟨hx, hb, X.2.2.2.1, hown, hts⟩ hC ⟨am_callB hts ok hlk hd2, hts _ hin⟩ ⟨am_blind G N h _, fun U hU hWm => ⟨rfl, by rw [hU]; exact hW, am_K.moved hWm.alike hK⟩⟩ rfl (by simpa using hn2) hl.1 (by simp) (lv_room (by rw [am_catS]; exact hrest)) hd ⟨hk, hn⟩) X hlo hl kk
theorem am_callI {y2 : am_M} {n2 d2 mc2 ms2 idx a : Nat} {as rest : List Value} {post2 : am_T} (hd : decode y.2.1 pc = .ok (.invokespecial idx, 3)) (ok : am_okM y2 n2) (hlk : Cond.methodLink y.1.cls idx y2.1 ∈ am_tbl) (hin : Cond.instanceMethod y2.1 ∈ am_tbl) (hy1 : y2.1.name = "<init>") (hret : y2.2.2.2 = none) (hst : st = as.reverse ++ .ref a :: rest) (hn2 : as.length = n2) (hrest : (rest.map fun v => v.category).sum ≤ 8) (hd2 : d2 + 1 ≤ d) (hk : k + mc2 ≤ mc) (hn : n + ms2 ≤ ms)
    (hC : am_C G d2 y2 mc2 ms2 (.ref a :: as) N h post2) (kk : ∀ (r : Option Value) (N' : Nat) (h' : am_H), post2 r N' h' → am_A G d y mc ms post (k + mc2) (n + ms2) (pc + 3) lv (r.toList ++ rest) N' h') : am_A G d y mc ms post (k) (n) (pc) lv (st) (N) (h) := by
  intro p e s m args below meth c H locs ls X hW hlo hl
  have hx := X.1
  have hb := X.2.1
  have hown := X.2.2.2.2.1
  have hts := X.2.2.2.2.2.1
  have hK := X.2.2.2.2.2.2.2.2
  subst hst
  obtain ⟨y2n, y2c, y2m, y2r⟩ := y2
  have hret : y2r = none := hret
  subst hret
  exact am_after (va_runI (b := am_B G + a) (As := as.map (am_cv G)) ⟨hx, hb, X.2.2.2.1, hown, hts⟩ hC ⟨am_callB hts ok hlk hd2, hy1, hts _ hin⟩ ⟨am_blind G N h _, fun U hU hWm => ⟨rfl, by rw [hU]; exact hW, am_K.moved hWm.alike hK⟩⟩ rfl (by simpa using hn2) hl.1 (by simp [am_cv]) (lv_room (by rw [am_catS]; exact hrest)) hd ⟨hk, hn⟩) X hlo hl kk
theorem am_obj {idx a : Nat} (hd : decode y.2.1 pc = .ok (.invokespecial idx, 3)) (hlk : Cond.methodLink y.1.cls idx objectInit ∈ am_tbl) (hin : Cond.instanceMethod objectInit ∈ am_tbl) (hcd : Cond.code objectInit ⟨#[0xb1]⟩ 1 none ∈ am_tbl) (hrest : (st.map fun v => v.category).sum ≤ 20) (hdd : 1 ≤ d) (kk : am_A G d y mc ms post (k) (n) (pc + 3) lv (st) (N) (h)) : am_A G d y mc ms post (k) (n) (pc) lv (.ref a :: st) (N) (h) := by
  intro p e s m args below meth c H locs ls X hW hlo hl
  have hx := X.1
  have hb := X.2.1
  have hown := X.2.2.2.2.1
  have hts := X.2.2.2.2.2.1
  have hK := X.2.2.2.2.2.2.2.2
  exact W.objInit hx hb hown (hts _ hlk) (hts _ hin) (hts _ hcd) rfl (by rw [X.2.2.2.1]; exact hl.1) rfl hd hdd (by
    show 2 * 0 + ((st.map (am_cv G)).map fun v => v.category).sum + 12 ≤ 100 * d
    rw [am_catS]; omega) (kk p e s m args below meth c H locs ls X hW hlo hl)
theorem am_iret {v : Int32} {ty : FieldType} (hd : decode y.2.1 pc = .ok (.ireturn, 1)) (hrt : y.2.2.2 = some ty) (hnr : narrow ty (.int v) = .int v) (hk : k ≤ mc) (hn : n ≤ ms) (hp : post (some (.int v)) N h) : am_A G d y mc ms post (k) (n) (pc) lv ([.int v]) (N) (h) := by
  intro p e s m args below meth c H locs ls X hW hlo hl
  have hx := X.1
  have hb := X.2.1
  have hown := X.2.2.2.2.1
  have hts := X.2.2.2.2.2.1
  have hK := X.2.2.2.2.2.2.2.2
  refine W.widen hk hn ?_
  exact W.zret hx hb (X.2.2.1.trans hrt) hnr (fun t ht _ => ⟨some (.int v), N, h, rfl, hp, by rw [ht]; exact hW⟩) hlo hd X.2.2.2.2.2.2.1
theorem am_lret {v : Int64} (hd : decode y.2.1 pc = .ok (.lreturn, 1)) (hrt : y.2.2.2 = some .long) (hk : k ≤ mc) (hn : n ≤ ms) (hp : post (some (.long v)) N h) : am_A G d y mc ms post (k) (n) (pc) lv ([.long v]) (N) (h) := by
  intro p e s m args below meth c H locs ls X hW hlo hl
  have hx := X.1
  have hb := X.2.1
  have hown := X.2.2.2.2.1
  have hts := X.2.2.2.2.2.1
  have hK := X.2.2.2.2.2.2.2.2
  refine W.widen hk hn ?_
  exact W.lret hx hb (X.2.2.1.trans hrt) (fun t ht _ => ⟨some (.long v), N, h, rfl, hp, by rw [ht]; exact hW⟩) hlo hd X.2.2.2.2.2.2.1
theorem am_vret (hd : decode y.2.1 pc = .ok (.return_, 1)) (hrt : y.2.2.2 = none) (hk : k ≤ mc) (hn : n ≤ ms) (hp : post none N h) : am_A G d y mc ms post (k) (n) (pc) lv ([]) (N) (h) := by
  intro p e s m args below meth c H locs ls X hW hlo hl
  have hx := X.1
  have hb := X.2.1
  have hown := X.2.2.2.2.1
  have hts := X.2.2.2.2.2.1
  have hK := X.2.2.2.2.2.2.2.2
  refine W.widen hk hn ?_
  exact W.vret hx hb (X.2.2.1.trans hrt) (fun t ht _ => ⟨none, N, h, rfl, hp, by rw [ht]; exact hW⟩) hlo hd X.2.2.2.2.2.2.1
theorem am_args (G : am_G) (as : List Value) : ∀ i, lv_args i (as.map (am_cv G)) = am_lv G (lv_args i as) := by
  induction as with
  | nil => intro i; rfl
  | cons v vs ih =>
    intro i
    simp only [List.map_cons, lv_args, am_cat]
    rw [ih]
    rfl
/-- a contract out of a walk from the entry -/
theorem am_ofA {n2 : Nat} {as : List Value} (ok : am_okM y n2) (hlen : (lg_sl as).length ≤ y.2.2.1) (kk : am_A G d y mc ms post 0 0 0 (lv_args 0 as) [] N h) : am_C G d y mc ms as N h post := by
  refine Met.ofW (cc := y.2.1) (maxL := y.2.2.1) (ret := y.2.2.2) ok.1 rfl ?_
  intro p e s m args below meth c s₁ B hml hv
  obtain ⟨rfl, hW, hK⟩ := hv
  have hls : (lg_sl (as.map (am_cv G))).length ≤ y.2.2.1 := by
    have e : ∀ l : List Value, (lg_sl (l.map (am_cv G))).length = (lg_sl l).length := by
      intro l
      induction l with
      | nil => rfl
      | cons v vs ih =>
        have ih2 := ih
        simp only [lg_sl] at ih2 ⊢
        simp only [List.map_cons, List.flatMap_cons, List.length_append, ih2, am_cat]
        split <;> rfl
    rw [e]; exact hlen
  have hl := lv_entry (as.map (am_cv G)) (n := y.2.2.1) hls
  rw [lg_entry_eq]
  rw [am_args] at hl
  exact kk p e s m _ below meth c s.heap [] _ ⟨B.exec, B.bytes, B.returns, hml, findClass_of_methodNamed B.named, fun w hw => atoms_spec (ws := am_wy y) B.pre w (List.mem_cons_of_mem _ hw), B.notSynchronized, (name_of_methodNamed B.named B.method).1, hK⟩ hW (fun _ h => by cases h) hl
theorem am_C.mono {as : List Value} {post2 : am_T} (hC : am_C G d y mc ms as N h post) (hp : ∀ r N' h', post r N' h' → post2 r N' h') : am_C G d y mc ms as N h post2 := by
  intro p e ha hc hk s m args below hf happ hP hK0
  obtain ⟨t, o, a1, b1, b2, ⟨⟨r, N', h', q1, q2, q3⟩, b4⟩⟩ := hC p e ha hc hk s m args below hf happ hP hK0
  exact ⟨t, o, a1, b1, b2, ⟨⟨r, N', h', q1, hp _ _ _ q2, q3⟩, b4⟩⟩
end
end
section
noncomputable section
/-! ===== a machine that the kernel can run: heaps are lists of lists, arrays are lists; ints may be unknown, within bounds ===== -/
abbrev ri_A : Type := List Int32 ⊕ (List Int64 ⊕ List (Option Nat))
abbrev ri_E : Type := (Nat × ri_A) ⊕ (Nat × List Value)
/-- how many cells, how many slots, the cells in rows of eight -/
abbrev ri_L : Type := Nat × Nat × List (List ri_E)
def ri_nth {α : Type} (l : List α) : Nat → Option α := List.rec (motive := fun _ => Nat → Option α) (fun _ => none) (fun x _ ih n => Nat.rec (motive := fun _ => Option α) (some x) (fun m _ => ih m) n) l
theorem ri_nth_eq {α : Type} : ∀ (l : List α) (n : Nat), ri_nth l n = l[n]?
  | [], n => by simp [ri_nth]
  | x :: t, 0 => rfl
  | x :: t, n + 1 => by
    have := ri_nth_eq t n
    simp only [List.getElem?_cons_succ]
    exact this
def ri_upd {α : Type} (l : List α) : Nat → α → List α := List.rec (motive := fun _ => Nat → α → List α) (fun _ _ => []) (fun x t ih n v => Nat.rec (motive := fun _ => List α) (v :: t) (fun m _ => x :: ih m v) n) l
theorem ri_upd_eq {α : Type} : ∀ (l : List α) (n : Nat) (v : α), ri_upd l n v = l.set n v
  | [], n, v => by simp [ri_upd]
  | x :: t, 0, v => rfl
  | x :: t, n + 1, v => by
    have := ri_upd_eq t n v
    simp only [List.set_cons_succ]
    show x :: ri_upd t n v = _
    rw [this]
def ri_get (C : List (List ri_E)) (k : Nat) : Option ri_E := match ri_nth C (k / 8) with
  | some c => ri_nth c (k % 8)
  | none => none
def ri_put (C : List (List ri_E)) (k : Nat) (e : ri_E) : List (List ri_E) := match ri_nth C (k / 8) with
  | some c => ri_upd C (k / 8) (ri_upd c (k % 8) e)
  | none => C
def ri_va (x : ri_A) : vp_A := match x with
  | .inl l => (l.length, .inl (fun j => l.getD j 0))
  | .inr (.inl l) => (l.length, .inr (.inl (fun j => l.getD j 0)))
  | .inr (.inr l) => (l.length, .inr (.inr (.inr (.inr (fun j => l.getD j none)))))
def ri_e (e : ri_E) : am_E := match e with
  | .inl (t, x) => .inl (t, ri_va x)
  | .inr (c, fs) => .inr (c, fs)
def ri_h (L : ri_L) : am_H := fun k => match ri_get L.2.2 k with
  | some e => ri_e e
  | none => .inr (0, [])
/-- pc, instruction, length, three numbers, a whole number, row numbers of targets -/
abbrev ri_row : Type := Nat × Instr × Nat × Nat × Nat × Nat × Int × List Nat
/-- a number, made plain ahead of what follows -/
def ri_fi {α : Type} (x : Int32) (k : Int32 → α) : α := Nat.rec (motive := fun _ => α) (k (Int32.ofNat 0)) (fun m _ => k (Int32.ofNat (m + 1))) x.toBitVec.toNat
theorem ri_fi_eq {α : Type} (x : Int32) (k : Int32 → α) : ri_fi x k = k x := by
  have e : Int32.ofNat x.toBitVec.toNat = x := by
    apply Int32.toBitVec_inj.mp
    show BitVec.ofNat 32 _ = _
    simp
  have h2 : ∀ m : Nat, (Nat.rec (motive := fun _ => α) (k (Int32.ofNat 0)) (fun m _ => k (Int32.ofNat (m + 1))) m : α) = k (Int32.ofNat m) := by
    intro m
    cases m <;> rfl
  unfold ri_fi
  rw [h2, e]
def ri_fl {α : Type} (x : Int64) (k : Int64 → α) : α := Nat.rec (motive := fun _ => α) (k (Int64.ofNat 0)) (fun m _ => k (Int64.ofNat (m + 1))) x.toBitVec.toNat
theorem ri_fl_eq {α : Type} (x : Int64) (k : Int64 → α) : ri_fl x k = k x := by
  have e : Int64.ofNat x.toBitVec.toNat = x := by
    apply Int64.toBitVec_inj.mp
    show BitVec.ofNat 64 _ = _
    simp
  have h2 : ∀ m : Nat, (Nat.rec (motive := fun _ => α) (k (Int64.ofNat 0)) (fun m _ => k (Int64.ofNat (m + 1))) m : α) = k (Int64.ofNat m) := by
    intro m
    cases m <;> rfl
  unfold ri_fl
  rw [h2, e]
/-- a number as a plain literal -/
def ri_fn {α : Type} (x : Nat) (k : Nat → α) : α := Nat.rec (motive := fun _ => α) (k 0) (fun m _ => k (m + 1)) x
theorem ri_fn_eq {α : Type} (x : Nat) (k : Nat → α) : ri_fn x k = k x := by cases x <;> rfl
def ri_le (m : Nat) {α : Type} (l : List α) : Bool := match m with
  | 0 => true
  | m + 1 => (ri_nth l m).isSome
theorem ri_le_iff {m : Nat} {α : Type} {l : List α} : ri_le m l = true ↔ m ≤ l.length := by
  cases m with
  | zero => simp [ri_le]
  | succ m => simp [ri_le, ri_nth_eq]; omega
/-- locals: a list of values, .null where there is none -/
def ri_lv (ls : List Value) : List (Nat × Value) := (ls.zipIdx.filter (fun q => decide (q.1 ≠ .null))).map (fun q => (q.2, q.1))
theorem ri_lv_mem {ls : List Value} {i : Nat} {v : Value} : (i, v) ∈ ri_lv ls ↔ ls[i]? = some v ∧ v ≠ .null := by
  unfold ri_lv
  simp only [List.mem_map, List.mem_filter, decide_eq_true_eq]
  constructor
  · rintro ⟨⟨w, j⟩, ⟨h1, h2⟩, h3⟩
    cases h3
    rw [List.mem_zipIdx_iff_getElem?] at h1
    exact ⟨h1, h2⟩
  · rintro ⟨h1, h2⟩
    exact ⟨(v, i), ⟨by rw [List.mem_zipIdx_iff_getElem?]; exact h1, h2⟩, rfl⟩
def ri_c2 (v : Value) : Bool := match v with
  | .long _ => true
  | .double _ => true
  | _ => false
/-- a value of one word into place i: a value of two words at i - 1 goes -/
def ri_s1 (ls : List Value) (i : Nat) (v : Value) : List Value := match i with
  | 0 => ri_upd ls 0 v
  | i + 1 => match ri_nth ls i with
    | some w => if ri_c2 w then ri_upd (ri_upd ls i .null) (i + 1) v else ri_upd ls (i + 1) v
    | none => []
def ri_s2 (ls : List Value) (i : Nat) (v : Value) : List Value := ri_upd (ri_s1 ls i v) (i + 1) .null
abbrev ri_N : Type := Option (Option Nat × List Value × List Value × ri_L)
/-- an int on the stack: known or not -/
def ri_isI (v : Value) : Bool := match v with
  | .int _ => true
  | .float _ => true
  | _ => false
def ri_isL (v : Value) : Bool := match v with
  | .long _ => true
  | .double _ => true
  | _ => false
abbrev ri_Env : Type := List (Int × Int)
def ri_iv (E : ri_Env) (v : Value) : Option (Int × Int) := match v with
  | .int x => some (x.toInt, x.toInt)
  | .float b => ri_nth E b.toNat
  | .long x => some (x.toInt, x.toInt)
  | .double b => ri_nth E b.toNat
  | _ => none
/-- what is known of a comparison -/
def ri_dec (c : ClassFile.Cond) (a b : Int × Int) : Option Bool := match c with
  | .eq => if a.2 < b.1 ∨ b.2 < a.1 then some false else if a.1 = b.1 ∧ a.2 = b.2 ∧ a.1 = a.2 then some true else none
  | .ne => if a.2 < b.1 ∨ b.2 < a.1 then some true else if a.1 = b.1 ∧ a.2 = b.2 ∧ a.1 = a.2 then some false else none
  | .lt => if a.2 < b.1 then some true else if b.2 ≤ a.1 then some false else none
  | .ge => if b.2 ≤ a.1 then some true else if a.2 < b.1 then some false else none
  | .gt => if b.2 < a.1 then some true else if a.2 ≤ b.1 then some false else none
  | .le => if a.2 ≤ b.1 then some true else if b.2 < a.1 then some false else none
def ri_cmp (E : ri_Env) (c : ClassFile.Cond) (v w : Value) : Option Bool := match v, w with
  | .int x, .int z => some (am_cmpb c x z)
  | v, w => if ri_isI v && ri_isI w then match ri_iv E v, ri_iv E w with
    | some a, some b => ri_dec c a b
    | _, _ => none
    else none
/-- one instruction that is neither a call nor an end: a function each, so that the kernel makes the body of one alone -/
def st_iconst (z : Int) (E : ri_Env) (r : ri_row) (lv st : List Value) (L : ri_L) : ri_N := ri_fi (Int32.ofInt z) (fun x => some (none, lv, .int x :: st, L))
def st_bipush (z : Int) (E : ri_Env) (r : ri_row) (lv st : List Value) (L : ri_L) : ri_N := ri_fi (Int8.ofInt z).toInt32 (fun x => some (none, lv, .int x :: st, L))
def st_sipush (z : Int) (E : ri_Env) (r : ri_row) (lv st : List Value) (L : ri_L) : ri_N := ri_fi (Int16.ofInt z).toInt32 (fun x => some (none, lv, .int x :: st, L))
def st_lconst (z : Fin 2) (E : ri_Env) (r : ri_row) (lv st : List Value) (L : ri_L) : ri_N := ri_fl (Int64.ofNat (z : Nat)) (fun x => some (none, lv, .long x :: st, L))
def st_ldc_w (E : ri_Env) (r : ri_row) (lv st : List Value) (L : ri_L) : ri_N := ri_fi (Int32.ofInt r.2.2.2.2.2.2.1) (fun x => some (none, lv, .int x :: st, L))
def st_ldc2_w (E : ri_Env) (r : ri_row) (lv st : List Value) (L : ri_L) : ri_N := ri_fl (Int64.ofInt r.2.2.2.2.2.2.1) (fun x => some (none, lv, .long x :: st, L))
def st_iload_n (i : Fin 4) (E : ri_Env) (r : ri_row) (lv st : List Value) (L : ri_L) : ri_N := match ri_nth lv i with
  | some v => if ri_isI v then some (none, lv, v :: st, L) else none
  | _ => none
def st_iload (i : Nat) (E : ri_Env) (r : ri_row) (lv st : List Value) (L : ri_L) : ri_N := match ri_nth lv i with
  | some v => if ri_isI v then some (none, lv, v :: st, L) else none
  | _ => none
def st_lload_n (i : Fin 4) (E : ri_Env) (r : ri_row) (lv st : List Value) (L : ri_L) : ri_N := match ri_nth lv i with
  | some v => if ri_isL v then some (none, lv, v :: st, L) else none
  | _ => none
def st_lload (i : Nat) (E : ri_Env) (r : ri_row) (lv st : List Value) (L : ri_L) : ri_N := match ri_nth lv i with
  | some v => if ri_isL v then some (none, lv, v :: st, L) else none
  | _ => none
def st_aload_n (i : Fin 4) (E : ri_Env) (r : ri_row) (lv st : List Value) (L : ri_L) : ri_N := match ri_nth lv i with
  | some (.ref x) => some (none, lv, .ref x :: st, L)
  | _ => none
def st_aload (i : Nat) (E : ri_Env) (r : ri_row) (lv st : List Value) (L : ri_L) : ri_N := match ri_nth lv i with
  | some (.ref x) => some (none, lv, .ref x :: st, L)
  | _ => none
def st_istore_n (i : Fin 4) (E : ri_Env) (r : ri_row) (lv st : List Value) (L : ri_L) : ri_N := match st with
  | v :: st => if ri_isI v then some (none, ri_s1 lv i v, st, L) else none
  | _ => none
def st_istore (i : Nat) (E : ri_Env) (r : ri_row) (lv st : List Value) (L : ri_L) : ri_N := match st with
  | v :: st => if ri_isI v then some (none, ri_s1 lv i v, st, L) else none
  | _ => none
def st_lstore_n (i : Fin 4) (E : ri_Env) (r : ri_row) (lv st : List Value) (L : ri_L) : ri_N := match st with
  | v :: st => if ri_isL v then some (none, ri_s2 lv i v, st, L) else none
  | _ => none
def st_lstore (i : Nat) (E : ri_Env) (r : ri_row) (lv st : List Value) (L : ri_L) : ri_N := match st with
  | v :: st => if ri_isL v then some (none, ri_s2 lv i v, st, L) else none
  | _ => none
def st_astore_n (i : Fin 4) (E : ri_Env) (r : ri_row) (lv st : List Value) (L : ri_L) : ri_N := match st with
  | .ref x :: st => some (none, ri_s1 lv i (.ref x), st, L)
  | _ => none
def st_astore (i : Nat) (E : ri_Env) (r : ri_row) (lv st : List Value) (L : ri_L) : ri_N := match st with
  | .ref x :: st => some (none, ri_s1 lv i (.ref x), st, L)
  | _ => none
def st_iinc (i : Nat) (z : Int) (E : ri_Env) (r : ri_row) (lv st : List Value) (L : ri_L) : ri_N := match ri_nth lv i with
  | some (.int x) => ri_fi (x + Int32.ofInt z) (fun x => some (none, ri_s1 lv i (.int x), st, L))
  | _ => none
def st_iadd (E : ri_Env) (r : ri_row) (lv st : List Value) (L : ri_L) : ri_N := match st with
  | .int z :: .int x :: st => ri_fi (x + z) (fun x => some (none, lv, .int x :: st, L))
  | _ => none
def st_isub (E : ri_Env) (r : ri_row) (lv st : List Value) (L : ri_L) : ri_N := match st with
  | .int z :: .int x :: st => ri_fi (x - z) (fun x => some (none, lv, .int x :: st, L))
  | _ => none
def st_imul (E : ri_Env) (r : ri_row) (lv st : List Value) (L : ri_L) : ri_N := match st with
  | .int z :: .int x :: st => ri_fi (x * z) (fun x => some (none, lv, .int x :: st, L))
  | _ => none
def st_iand (E : ri_Env) (r : ri_row) (lv st : List Value) (L : ri_L) : ri_N := match st with
  | .int z :: .int x :: st => ri_fi (x &&& z) (fun x => some (none, lv, .int x :: st, L))
  | _ => none
def st_ixor (E : ri_Env) (r : ri_row) (lv st : List Value) (L : ri_L) : ri_N := match st with
  | .int z :: .int x :: st => ri_fi (x ^^^ z) (fun x => some (none, lv, .int x :: st, L))
  | _ => none
def st_ishl (E : ri_Env) (r : ri_row) (lv st : List Value) (L : ri_L) : ri_N := match st with
  | .int z :: .int x :: st => ri_fi (x <<< (z &&& 31)) (fun x => some (none, lv, .int x :: st, L))
  | _ => none
def st_ishr (E : ri_Env) (r : ri_row) (lv st : List Value) (L : ri_L) : ri_N := match st with
  | .int z :: .int x :: st => ri_fi (x >>> (z &&& 31)) (fun x => some (none, lv, .int x :: st, L))
  | .int z :: .float b :: st => if z = 0 then some (none, lv, .float b :: st, L) else none
  | _ => none
def st_iushr (E : ri_Env) (r : ri_row) (lv st : List Value) (L : ri_L) : ri_N := match st with
  | .int z :: .int x :: st => ri_fi ((x.toUInt32 >>> (z.toUInt32 &&& Int32.toUInt32 31)).toInt32) (fun x => some (none, lv, .int x :: st, L))
  | _ => none
def st_idiv (E : ri_Env) (r : ri_row) (lv st : List Value) (L : ri_L) : ri_N := match st with
  | .int z :: .int x :: st => if z = 0 then none else ri_fi (x / z) (fun x => some (none, lv, .int x :: st, L))
  | _ => none
def st_irem (E : ri_Env) (r : ri_row) (lv st : List Value) (L : ri_L) : ri_N := match st with
  | .int z :: .int x :: st => if z = 0 then none else ri_fi (x - x / z * z) (fun x => some (none, lv, .int x :: st, L))
  | _ => none
def st_ineg (E : ri_Env) (r : ri_row) (lv st : List Value) (L : ri_L) : ri_N := match st with
  | .int x :: st => ri_fi (-x) (fun x => some (none, lv, .int x :: st, L))
  | _ => none
def st_ladd (E : ri_Env) (r : ri_row) (lv st : List Value) (L : ri_L) : ri_N := match st with
  | .long z :: .long x :: st => ri_fl (x + z) (fun x => some (none, lv, .long x :: st, L))
  | _ => none
def st_lmul (E : ri_Env) (r : ri_row) (lv st : List Value) (L : ri_L) : ri_N := match st with
  | .long z :: .long x :: st => ri_fl (x * z) (fun x => some (none, lv, .long x :: st, L))
  | _ => none
def st_i2l (E : ri_Env) (r : ri_row) (lv st : List Value) (L : ri_L) : ri_N := match st with
  | .int x :: st => ri_fl x.toInt64 (fun x => some (none, lv, .long x :: st, L))
  | .float b :: st => some (none, lv, .double b.toUInt64 :: st, L)
  | _ => none
def st_lcmp (E : ri_Env) (r : ri_row) (lv st : List Value) (L : ri_L) : ri_N := match st with
  | .long z :: .long x :: st => ri_fi (lg_cmp x z) (fun x => some (none, lv, .int x :: st, L))
  | .long z :: .double b :: st => match ri_nth E b.toNat with
    | some (lo, hi) => if hi < z.toInt then some (none, lv, .int (-1) :: st, L) else if z.toInt < lo then some (none, lv, .int 1 :: st, L) else if lo = z.toInt ∧ hi = z.toInt then some (none, lv, .int 0 :: st, L) else none
    | none => none
  | _ => none
def st_dup (E : ri_Env) (r : ri_row) (lv st : List Value) (L : ri_L) : ri_N := match st with
  | .int x :: st => some (none, lv, .int x :: .int x :: st, L)
  | .ref x :: st => some (none, lv, .ref x :: .ref x :: st, L)
  | _ => none
def st_dup2 (E : ri_Env) (r : ri_row) (lv st : List Value) (L : ri_L) : ri_N := match st with
  | .int x :: .ref z :: st => some (none, lv, .int x :: .ref z :: .int x :: .ref z :: st, L)
  | _ => none
def st_if_icmp (c : ClassFile.Cond) (E : ri_Env) (r : ri_row) (lv st : List Value) (L : ri_L) : ri_N := match st with
  | z :: x :: st => match ri_cmp E c x z with
    | some true => some (some r.2.2.2.1, lv, st, L)
    | some false => some (none, lv, st, L)
    | none => none
  | _ => none
def st_ifCond (c : ClassFile.Cond) (E : ri_Env) (r : ri_row) (lv st : List Value) (L : ri_L) : ri_N := match st with
  | x :: st => match ri_cmp E c x (.int 0) with
    | some true => some (some r.2.2.2.1, lv, st, L)
    | some false => some (none, lv, st, L)
    | none => none
  | _ => none
def st_goto (E : ri_Env) (r : ri_row) (lv st : List Value) (L : ri_L) : ri_N := some (some r.2.2.2.1, lv, st, L)
def st_getfield (E : ri_Env) (r : ri_row) (lv st : List Value) (L : ri_L) : ri_N := match st with
  | .ref a :: st => match ri_get L.2.2 a with
    | some (.inr (ci, fs)) => if Nat.ble L.1 a then none else if Nat.beq ci r.2.2.2.1 then match ri_nth fs r.2.2.2.2.1 with
        | some v => some (none, lv, v :: st, L)
        | none => none
      else none
    | _ => none
  | _ => none
def st_putfield (E : ri_Env) (r : ri_row) (lv st : List Value) (L : ri_L) : ri_N := match st with
  | .int x :: .ref a :: st => match ri_get L.2.2 a with
    | some (.inr (ci, fs)) => if Nat.ble L.1 a then none else if Nat.beq ci r.2.2.2.1 && ((r.2.2.2.2.2.2.1 == 0 || (r.2.2.2.2.2.2.1 == 1 && (x == 0 || x == 1))) && (ri_nth fs r.2.2.2.2.1).isSome) then some (none, lv, st, (L.1, L.2.1, ri_put L.2.2 a (.inr (ci, ri_upd fs r.2.2.2.2.1 (.int x))))) else none
    | _ => none
  | .ref x :: .ref a :: st => match ri_get L.2.2 a with
    | some (.inr (ci, fs)) => if Nat.ble L.1 a then none else if Nat.beq ci r.2.2.2.1 && (r.2.2.2.2.2.2.1 == 2 && (ri_nth fs r.2.2.2.2.1).isSome) then some (none, lv, st, (L.1, L.2.1, ri_put L.2.2 a (.inr (ci, ri_upd fs r.2.2.2.2.1 (.ref x))))) else none
    | _ => none
  | _ => none
def st_iaload (E : ri_Env) (r : ri_row) (lv st : List Value) (L : ri_L) : ri_N := match st with
  | .int i :: .ref a :: st => match ri_get L.2.2 a with
    | some (.inl (0, .inl l)) => if Nat.ble L.1 a then none else if i < 0 then none else match ri_nth l i.toNatClampNeg with
        | some x => ri_fi x (fun x => some (none, lv, .int x :: st, L))
        | none => none
    | _ => none
  | .int i :: .retAddr _ :: st => if i < 0 then none else if i.toNatClampNeg < 13 then ri_fi (am_PL i.toNatClampNeg) (fun x => some (none, lv, .int x :: st, L)) else none
  | _ => none
def st_iastore (E : ri_Env) (r : ri_row) (lv st : List Value) (L : ri_L) : ri_N := match st with
  | .int x :: .int i :: .ref a :: st => match ri_get L.2.2 a with
    | some (.inl (0, .inl l)) => if Nat.ble L.1 a then none else if i < 0 then none else if ri_le (i.toNatClampNeg + 1) l then some (none, lv, st, (L.1, L.2.1, ri_put L.2.2 a (.inl (0, .inl (ri_upd l i.toNatClampNeg x))))) else none
    | _ => none
  | _ => none
def st_laload (E : ri_Env) (r : ri_row) (lv st : List Value) (L : ri_L) : ri_N := match st with
  | .int i :: .ref a :: st => match ri_get L.2.2 a with
    | some (.inl (1, .inr (.inl l))) => if Nat.ble L.1 a then none else if i < 0 then none else match ri_nth l i.toNatClampNeg with
        | some x => ri_fl x (fun x => some (none, lv, .long x :: st, L))
        | none => none
    | _ => none
  | _ => none
def st_lastore (E : ri_Env) (r : ri_row) (lv st : List Value) (L : ri_L) : ri_N := match st with
  | .long x :: .int i :: .ref a :: st => match ri_get L.2.2 a with
    | some (.inl (1, .inr (.inl l))) => if Nat.ble L.1 a then none else if i < 0 then none else if ri_le (i.toNatClampNeg + 1) l then some (none, lv, st, (L.1, L.2.1, ri_put L.2.2 a (.inl (1, .inr (.inl (ri_upd l i.toNatClampNeg x)))))) else none
    | _ => none
  | _ => none
def st_aaload (E : ri_Env) (r : ri_row) (lv st : List Value) (L : ri_L) : ri_N := match st with
  | .int i :: .ref a :: st => match ri_get L.2.2 a with
    | some (.inl (t, .inr (.inr l))) => if Nat.ble L.1 a then none else if Nat.ble 2 t && Nat.ble t 4 then if i < 0 then none else match ri_nth l i.toNatClampNeg with
        | some (some b) => some (none, lv, .ref b :: st, L)
        | _ => none
      else none
    | _ => none
  | _ => none
def st_aastore (E : ri_Env) (r : ri_row) (lv st : List Value) (L : ri_L) : ri_N := match st with
  | .ref b :: .int i :: .ref a :: st => match ri_get L.2.2 a, ri_get L.2.2 b with
    | some (.inl (t, .inr (.inr l))), some (.inr (ci, _)) => if Nat.ble L.1 a || Nat.ble L.1 b then none else if (Nat.beq t 2 && Nat.beq ci 4) || ((Nat.beq t 3 && Nat.beq ci 3) || (Nat.beq t 4 && Nat.beq ci 2)) then if i < 0 then none else if ri_le (i.toNatClampNeg + 1) l then some (none, lv, st, (L.1, L.2.1, ri_put L.2.2 a (.inl (t, .inr (.inr (ri_upd l i.toNatClampNeg (some b))))))) else none else none
    | _, _ => none
  | _ => none
def st_arraylength (E : ri_Env) (r : ri_row) (lv st : List Value) (L : ri_L) : ri_N := match st with
  | .ref a :: st => match ri_get L.2.2 a with
    | some (.inl (0, .inl l)) => if Nat.ble L.1 a then none else ri_fi (Int32.ofNat l.length) (fun x => some (none, lv, .int x :: st, L))
    | _ => none
  | .retAddr _ :: st => some (none, lv, .int 13 :: st, L)
  | _ => none
def st_getstatic (E : ri_Env) (r : ri_row) (lv st : List Value) (L : ri_L) : ri_N := some (none, lv, .retAddr 0 :: st, L)
def st_new (E : ri_Env) (r : ri_row) (lv st : List Value) (L : ri_L) : ri_N := if (ri_get L.2.2 L.1).isSome then ri_fn (L.1 + 1) (fun n => ri_fn (L.2.1 + (am_df r.2.2.2.1).length) (fun s => some (none, lv, .ref L.1 :: st, (n, s, ri_put L.2.2 L.1 (.inr (r.2.2.2.1, am_df r.2.2.2.1)))))) else none
def st_newarray (ty : ArrayType) (E : ri_Env) (r : ri_row) (lv st : List Value) (L : ri_L) : ri_N := match ty, st with
  | .int, .int x :: st => if x < 0 then none else if Nat.ble x.toNatClampNeg 10000 && (ri_get L.2.2 L.1).isSome then ri_fn (L.1 + 1) (fun n => ri_fn (L.2.1 + x.toNatClampNeg) (fun s => some (none, lv, .ref L.1 :: st, (n, s, ri_put L.2.2 L.1 (.inl (0, .inl (List.replicate x.toNatClampNeg 0))))))) else none
  | .long, .int x :: st => if x < 0 then none else if Nat.ble x.toNatClampNeg 10000 && (ri_get L.2.2 L.1).isSome then ri_fn (L.1 + 1) (fun n => ri_fn (L.2.1 + x.toNatClampNeg) (fun s => some (none, lv, .ref L.1 :: st, (n, s, ri_put L.2.2 L.1 (.inl (1, .inr (.inl (List.replicate x.toNatClampNeg 0)))))))) else none
  | _, _ => none
def st_anewarray (E : ri_Env) (r : ri_row) (lv st : List Value) (L : ri_L) : ri_N := match st with
  | .int x :: st => if x < 0 then none else if Nat.ble x.toNatClampNeg 10000 && (ri_get L.2.2 L.1).isSome then ri_fn (L.1 + 1) (fun n => ri_fn (L.2.1 + x.toNatClampNeg) (fun s => some (none, lv, .ref L.1 :: st, (n, s, ri_put L.2.2 L.1 (.inl (r.2.2.2.1, .inr (.inr (List.replicate x.toNatClampNeg none)))))))) else none
  | _ => none
def st_tableswitch (lo : Int) (hi : Int) (E : ri_Env) (r : ri_row) (lv st : List Value) (L : ri_L) : ri_N := match st with
  | .int x :: st => if x.toInt < lo ∨ hi < x.toInt then some (some r.2.2.2.1, lv, st, L) else match ri_nth r.2.2.2.2.2.2.2 (x.toInt - lo).toNat with
    | some t => some (some t, lv, st, L)
    | none => none
  | .float b :: st => match ri_nth E b.toNat with
    | some (l0, h0) => if h0 < lo ∨ hi < l0 then some (some r.2.2.2.1, lv, st, L) else none
    | none => none
  | _ => none
def st_none (_ : ri_Env) (_ : ri_row) (_ _ : List Value) (_ : ri_L) : ri_N := none
def ri_sel (ins : Instr) : ri_Env → ri_row → List Value → List Value → ri_L → ri_N := match ins with
  | .iconst z => st_iconst z
  | .bipush z => st_bipush z
  | .sipush z => st_sipush z
  | .lconst z => st_lconst z
  | .ldc_w _ => st_ldc_w
  | .ldc2_w _ => st_ldc2_w
  | .iload_n i => st_iload_n i
  | .iload i => st_iload i
  | .lload_n i => st_lload_n i
  | .lload i => st_lload i
  | .aload_n i => st_aload_n i
  | .aload i => st_aload i
  | .istore_n i => st_istore_n i
  | .istore i => st_istore i
  | .lstore_n i => st_lstore_n i
  | .lstore i => st_lstore i
  | .astore_n i => st_astore_n i
  | .astore i => st_astore i
  | .iinc i z => st_iinc i z
  | .iadd => st_iadd
  | .isub => st_isub
  | .imul => st_imul
  | .iand => st_iand
  | .ixor => st_ixor
  | .ishl => st_ishl
  | .ishr => st_ishr
  | .iushr => st_iushr
  | .idiv => st_idiv
  | .irem => st_irem
  | .ineg => st_ineg
  | .ladd => st_ladd
  | .lmul => st_lmul
  | .i2l => st_i2l
  | .lcmp => st_lcmp
  | .dup => st_dup
  | .dup2 => st_dup2
  | .if_icmp c _ => st_if_icmp c
  | .ifCond c _ => st_ifCond c
  | .goto _ => st_goto
  | .getfield _ => st_getfield
  | .putfield _ => st_putfield
  | .iaload => st_iaload
  | .iastore => st_iastore
  | .laload => st_laload
  | .lastore => st_lastore
  | .aaload => st_aaload
  | .aastore => st_aastore
  | .arraylength => st_arraylength
  | .getstatic _ => st_getstatic
  | .new _ => st_new
  | .newarray ty => st_newarray ty
  | .anewarray _ => st_anewarray
  | .tableswitch _ lo hi _ => st_tableswitch lo hi
  | _ => st_none
def ri_stp (E : ri_Env) (r : ri_row) (lv : List Value) (st : List Value) (L : ri_L) : ri_N := ri_sel r.2.1 E r lv st L
end
end
section
noncomputable section
/-! ===== plain facts of the runnable machine ===== -/
theorem ri_get_put {C : List (List ri_E)} {k : Nat} {e0 : ri_E} (e : ri_E) (h : ri_get C k = some e0) (j : Nat) : ri_get (ri_put C k e) j = if j = k then some e else ri_get C j := by
  unfold ri_get at h
  split at h
  · rename_i c hc
    have hl1 : k / 8 < C.length := by rw [ri_nth_eq] at hc; exact (List.getElem?_eq_some_iff.mp hc).1
    have hl2 : k % 8 < c.length := by rw [ri_nth_eq] at h; exact (List.getElem?_eq_some_iff.mp h).1
    unfold ri_put ri_get
    simp only [hc, ri_upd_eq]
    simp only [ri_nth_eq] at hc ⊢
    by_cases h1 : j / 8 = k / 8
    · rw [h1, List.getElem?_set_self hl1]
      simp only [hc]
      by_cases h2 : j % 8 = k % 8
      · rw [h2, List.getElem?_set_self hl2, if_pos (by omega)]
      · rw [List.getElem?_set_ne (Ne.symm h2), if_neg (fun e => h2 (by rw [e]))]
    · rw [List.getElem?_set_ne (Ne.symm h1), if_neg (fun e => h1 (by rw [e]))]
  · cases h
theorem ri_h_at {L : ri_L} {a : Nat} {e : ri_E} (h : ri_get L.2.2 a = some e) : ri_h L a = ri_e e := by simp [ri_h, h]
theorem ri_h_put {C : List (List ri_E)} {k : Nat} {e0 : ri_E} (e : ri_E) (h : ri_get C k = some e0) (n s n2 s2 : Nat) : ri_h (n, s, ri_put C k e) = va_up (ri_h (n2, s2, C)) k (ri_e e) := by
  funext j
  simp only [ri_h, ri_get_put e h j, va_up]
  by_cases hj : j = k
  · simp [hj]
  · simp [hj]
theorem ri_lt {L : ri_L} {a : Nat} (h : ¬ Nat.ble L.1 a = true) : a < L.1 := by
  rw [Nat.ble_eq] at h
  omega
theorem ri_fu_i (l : List Int32) {i : Nat} (x : Int32) (h : i < l.length) : (fun j => (l.set i x).getD j 0) = upd (fun j => l.getD j 0) i x := by
  funext j
  by_cases hj : j = i
  · subst hj
    simp [upd, List.getD, h]
  · simp [upd, List.getD, hj, List.getElem?_set_ne (Ne.symm hj)]
theorem ri_fu_l (l : List Int64) {i : Nat} (x : Int64) (h : i < l.length) : (fun j => (l.set i x).getD j 0) = vp_updL (fun j => l.getD j 0) i x := by
  funext j
  by_cases hj : j = i
  · subst hj
    simp [vp_updL, List.getD, h]
  · simp [vp_updL, List.getD, hj, List.getElem?_set_ne (Ne.symm hj)]
theorem ri_fu_q (l : List (Option Nat)) {i : Nat} (x : Option Nat) (h : i < l.length) : (fun j => (l.set i x).getD j none) = va_up (fun j => l.getD j none) i x := by
  funext j
  by_cases hj : j = i
  · subst hj
    simp [va_up, List.getD, h]
  · simp [va_up, List.getD, hj, List.getElem?_set_ne (Ne.symm hj)]
def ri_cpy (l1 l2 : List Int32) (sp dp n : Nat) : List Int32 := l2.take dp ++ ((l1.drop sp).take n ++ l2.drop (dp + n))
theorem ri_cpy_len {l1 l2 : List Int32} {sp dp n : Nat} (h1 : sp + n ≤ l1.length) (h2 : dp + n ≤ l2.length) : (ri_cpy l1 l2 sp dp n).length = l2.length := by
  simp [ri_cpy]; omega
theorem ri_cpy_eq {l1 l2 : List Int32} {sp dp n : Nat} (h1 : sp + n ≤ l1.length) (h2 : dp + n ≤ l2.length) : (fun j => (ri_cpy l1 l2 sp dp n).getD j 0) = va_cpy (fun j => l1.getD j 0) (fun j => l2.getD j 0) sp dp n := by
  funext j
  simp only [va_cpy, ri_cpy, List.getD]
  have e1 : (l2.take dp).length = dp := by simp; omega
  have e2 : ((l1.drop sp).take n).length = n := by simp; omega
  by_cases c1 : j < dp
  · rw [List.getElem?_append_left (by omega), if_neg (by omega), List.getElem?_take_of_lt c1]
  · rw [List.getElem?_append_right (by omega), e1]
    by_cases c2 : j < dp + n
    · rw [List.getElem?_append_left (by omega), if_pos ⟨by omega, c2⟩, List.getElem?_take_of_lt (by omega), List.getElem?_drop]
    · rw [List.getElem?_append_right (by omega), e2, if_neg (by omega), List.getElem?_drop]
      congr 2
      omega
theorem ri_in {i : Int32} {n : Nat} (h0 : ¬ i < 0) (h : i.toNatClampNeg < n) : vp_in i n := fun q => q.elim h0 (fun q => absurd h (Nat.not_lt.mpr q))
def ri_lw (pl : Nat) (w : Cond) : Bool := decide (lw_tbl[pl]? = some w) && goodWord w
theorem ri_lw_in {pl : Nat} {w : Cond} (h : ri_lw pl w = true) : w ∈ am_tbl := by
  unfold ri_lw at h
  rw [Bool.and_eq_true, decide_eq_true_eq] at h
  exact am_mem pl h.1 h.2
/-- what the tables must say of a row of a method's list -/
def ri_rok1 (y : am_M) (pcs : List Nat) (r : ri_row) : Bool := match r.2.1 with
  | .istore_n i => decide ((i : Nat) < y.2.2.1)
  | .istore i => decide (i < y.2.2.1)
  | .lstore_n i => decide ((i : Nat) + 1 < y.2.2.1)
  | .lstore i => decide (i + 1 < y.2.2.1)
  | .astore_n i => decide ((i : Nat) < y.2.2.1)
  | .astore i => decide (i < y.2.2.1)
  | .iinc i _ => decide (i < y.2.2.1)
  | .if_icmp _ off => decide ((pcs[r.2.2.2.1]?).map Int.ofNat = some ((r.1 : Int) + off))
  | .ifCond _ off => decide ((pcs[r.2.2.2.1]?).map Int.ofNat = some ((r.1 : Int) + off))
  | .goto off => decide ((pcs[r.2.2.2.1]?).map Int.ofNat = some ((r.1 : Int) + off))
  | .getfield idx => match am_cl[r.2.2.2.1]? with
    | some q => decide (r.2.2.2.2.1 < q.2.2) && ri_lw r.2.2.2.2.2.1 (.fieldLink y.1.cls idx (q.2.1 r.2.2.2.2.1).1 (q.2.1 r.2.2.2.2.1).2.1 (q.2.1 r.2.2.2.2.1).2.2.1)
    | none => false
  | .putfield idx => match am_cl[r.2.2.2.1]? with
    | some q => decide (r.2.2.2.2.1 < q.2.2) && ri_lw r.2.2.2.2.2.1 (.fieldLink y.1.cls idx (q.2.1 r.2.2.2.2.1).1 (q.2.1 r.2.2.2.2.1).2.1 (q.2.1 r.2.2.2.2.1).2.2.1) && (!(q.2.1 r.2.2.2.2.1).2.2.2 || (decide (y.1.name = "<init>") && decide ((q.2.1 r.2.2.2.2.1).1 = y.1.cls))) &&
      (match parseFieldDescriptor (q.2.1 r.2.2.2.2.1).2.2.1 with
        | some .int => r.2.2.2.2.2.2.1 == 0
        | some .boolean => r.2.2.2.2.2.2.1 == 1
        | some (.array _) => r.2.2.2.2.2.2.1 == 2
        | some (.object _) => r.2.2.2.2.2.2.1 == 2
        | _ => false)
    | none => false
  | .new idx => match am_cl[r.2.2.2.1]? with
    | some q => ri_lw r.2.2.2.2.2.1 (.classLink y.1.cls idx q.1)
    | none => false
  | .anewarray idx => match r.2.2.2.1 with
    | 2 => ri_lw r.2.2.2.2.2.1 (.classLink y.1.cls idx RX4)
    | 3 => ri_lw r.2.2.2.2.2.1 (.classLink y.1.cls idx RX3)
    | 4 => ri_lw r.2.2.2.2.2.1 (.classLink y.1.cls idx RX2)
    | _ => false
  | .getstatic idx => ri_lw r.2.2.2.2.2.1 (.fieldLink y.1.cls idx RX1 "PLACES" "[I")
  | .ldc_w idx => ri_lw r.2.2.2.2.2.1 (.constant y.1.cls idx (Int32.ofInt r.2.2.2.2.2.2.1))
  | .ldc2_w idx => ri_lw r.2.2.2.2.2.1 (.constantLong y.1.cls idx (Int64.ofInt r.2.2.2.2.2.2.1))
  | .tableswitch dflt _ _ offs => decide ((pcs[r.2.2.2.1]?).map Int.ofNat = some ((r.1 : Int) + dflt)) && decide (r.2.2.2.2.2.2.2.map (fun t => (pcs[t]?).map Int.ofNat) = offs.toList.map (fun off => some ((r.1 : Int) + off)))
  | .ireturn => match y.2.2.2 with
    | some .int => r.2.2.2.2.1 == 0
    | some .boolean => r.2.2.2.2.1 == 1
    | _ => false
  | .lreturn => decide (y.2.2.2 = some .long)
  | .return_ => decide (y.2.2.2 = none)
  | _ => true
def ri_end (i : Instr) : Bool := match i with
  | .ireturn => true
  | .lreturn => true
  | .return_ => true
  | .goto _ => true
  | .tableswitch .. => true
  | .lookupswitch .. => true
  | _ => false
def ri_sw (i : Instr) : Bool := match i with
  | .tableswitch .. => true
  | .lookupswitch .. => true
  | _ => false
def ri_ln (i : Instr) : Nat := match i with
  | .bipush _ => 2
  | .sipush _ => 3
  | .ldc_w _ => 3
  | .ldc2_w _ => 3
  | .iload _ => 2
  | .lload _ => 2
  | .aload _ => 2
  | .istore _ => 2
  | .lstore _ => 2
  | .astore _ => 2
  | .iinc .. => 3
  | .if_icmp .. => 3
  | .ifCond .. => 3
  | .goto _ => 3
  | .getfield _ => 3
  | .putfield _ => 3
  | .getstatic _ => 3
  | .new _ => 3
  | .newarray _ => 2
  | .anewarray _ => 3
  | .invokevirtual _ => 3
  | .invokestatic _ => 3
  | .invokespecial _ => 3
  | _ => 1
def ri_rok (y : am_M) (pcs : List Nat) (i : Nat) (r : ri_row) : Bool :=
  decide (decode y.2.1 r.1 = .ok (r.2.1, r.2.2.1)) && (decide (pcs[i]? = some r.1) && ((ri_end r.2.1 || decide (pcs[i + 1]? = some (r.1 + r.2.2.1))) && ((ri_sw r.2.1 || r.2.2.1 == ri_ln r.2.1) && ri_rok1 y pcs r)))

def am_Env (G : am_G) (E : ri_Env) : Prop := ∀ (b : Nat) (lo hi : Int), E[b]? = some (lo, hi) → lo ≤ (am_rho G b).toInt ∧ (am_rho G b).toInt ≤ hi
def am_xi (G : am_G) (v : Value) : Int32 := match v with
  | .int x => x
  | .float b => am_rho G b.toNat
  | _ => 0
theorem am_xi_cv (G : am_G) {v : Value} (h : ri_isI v = true) : am_cv G v = .int (am_xi G v) := by cases v <;> first | rfl | (simp [ri_isI] at h)
theorem am_stc {G : am_G} {d : Nat} {y : am_M} {mc ms : Nat} {post : am_T} {k n pc N : Nat} {lv : List (Nat × Value)} {st st2 : List Value} {h : am_H} (he : st.map (am_cv G) = st2.map (am_cv G)) (kk : am_A G d y mc ms post k n pc lv st2 N h) : am_A G d y mc ms post k n pc lv st N h := by
  intro p e s m args below meth c H locs ls X hW hlo hl
  rw [he]
  exact kk p e s m args below meth c H locs ls X hW hlo hl
theorem am_lvs {G : am_G} {d : Nat} {y : am_M} {mc ms : Nat} {post : am_T} {k n pc N : Nat} {lv lv2 : List (Nat × Value)} {st : List Value} {h : am_H} (hs : ∀ q ∈ lv2, q ∈ lv) (kk : am_A G d y mc ms post k n pc lv2 st N h) : am_A G d y mc ms post k n pc lv st N h := by
  intro p e s m args below meth c H locs ls X hW hlo hl
  refine kk p e s m args below meth c H locs ls X hW hlo ⟨hl.1, hl.2.1, fun q hq => ?_⟩
  obtain ⟨q2, h2, rfl⟩ := List.mem_map.mp hq
  exact hl.2.2 _ (List.mem_map.mpr ⟨q2, hs q2 h2, rfl⟩)
theorem ri_iv_ok {G : am_G} {E : ri_Env} (hE : am_Env G E) {v : Value} {a : Int × Int} (hI : ri_isI v = true) (h : ri_iv E v = some a) : a.1 ≤ (am_xi G v).toInt ∧ (am_xi G v).toInt ≤ a.2 := by
  cases v <;> simp only [ri_isI] at hI <;> (try (cases hI))
  · rename_i x
    simp only [ri_iv, Option.some.injEq] at h
    subst h
    exact ⟨Int.le_refl _, Int.le_refl _⟩
  · rename_i b
    simp only [ri_iv, ri_nth_eq] at h
    exact hE _ _ _ h
theorem ri_dec_ok {c : ClassFile.Cond} {a b : Int × Int} {x z : Int32} {r : Bool} (hx : a.1 ≤ x.toInt ∧ x.toInt ≤ a.2) (hz : b.1 ≤ z.toInt ∧ z.toInt ≤ b.2) (h : ri_dec c a b = some r) : r = true ↔ am_cmp c x z := by
  have e1 : x = z ↔ x.toInt = z.toInt := Int32.toInt_inj.symm
  cases c <;> simp only [ri_dec] at h <;> simp only [am_cmp, Int32.lt_iff_toInt_lt, Int32.le_iff_toInt_le, e1] <;> (split at h <;> (try (split at h)) <;> (try (cases h; done)) <;> (cases h; simp; omega))
theorem ri_cmp_ok {G : am_G} {E : ri_Env} (hE : am_Env G E) {c : ClassFile.Cond} {v w : Value} {r : Bool} (h : ri_cmp E c v w = some r) : ri_isI v = true ∧ ri_isI w = true ∧ (r = true ↔ am_cmp c (am_xi G v) (am_xi G w)) := by
  unfold ri_cmp at h
  split at h
  · refine ⟨rfl, rfl, ?_⟩
    rw [Option.some.injEq] at h
    subst h
    exact am_cmpb_iff _ _ _
  · split at h
    · rename_i hI
      rw [Bool.and_eq_true] at hI
      split at h
      · rename_i a b ha hb
        exact ⟨hI.1, hI.2, ri_dec_ok (ri_iv_ok hE hI.1 ha) (ri_iv_ok hE hI.2 hb) h⟩
      · cases h
    · cases h
theorem ri_c2_cat (v : Value) : ri_c2 v = true ↔ v.category = 2 := by cases v <;> simp [ri_c2, Value.category]
theorem ri_s1_sub {ls : List Value} {i : Nat} {v : Value} : ∀ q ∈ ri_lv (ri_s1 ls i v), q ∈ (i, v) :: (ri_lv ls).filter (am_f1 i) := by
  rintro ⟨j, w⟩ hq
  rw [ri_lv_mem] at hq
  obtain ⟨h1, h2⟩ := hq
  rw [List.mem_cons, List.mem_filter, ri_lv_mem]
  unfold ri_s1 at h1
  split at h1
  · rw [ri_upd_eq] at h1
    by_cases hj : j = 0
    · subst hj
      rw [List.getElem?_set] at h1
      split at h1
      · split at h1
        · cases h1; exact Or.inl rfl
        · cases h1
      · omega
    · rw [List.getElem?_set_ne (Ne.symm hj)] at h1
      exact Or.inr ⟨⟨h1, h2⟩, by simp [am_f1, hj]⟩
  · rename_i i'
    split at h1
    · rename_i w0 hw0
      rw [ri_nth_eq] at hw0
      split at h1
      · simp only [ri_upd_eq] at h1
        by_cases hj : j = i' + 1
        · subst hj
          rw [List.getElem?_set] at h1
          split at h1
          · split at h1
            · cases h1; exact Or.inl rfl
            · cases h1
          · omega
        · rw [List.getElem?_set_ne (Ne.symm hj)] at h1
          by_cases hj2 : j = i'
          · subst hj2
            rw [List.getElem?_set] at h1
            split at h1
            · split at h1
              · cases h1; exact absurd rfl h2
              · cases h1
            · omega
          · rw [List.getElem?_set_ne (Ne.symm hj2)] at h1
            exact Or.inr ⟨⟨h1, h2⟩, by simp [am_f1, hj, hj2]⟩
      · rename_i hc
        rw [ri_upd_eq] at h1
        by_cases hj : j = i' + 1
        · subst hj
          rw [List.getElem?_set] at h1
          split at h1
          · split at h1
            · cases h1; exact Or.inl rfl
            · cases h1
          · omega
        · rw [List.getElem?_set_ne (Ne.symm hj)] at h1
          refine Or.inr ⟨⟨h1, h2⟩, ?_⟩
          by_cases hj2 : j = i'
          · subst hj2
            cases hw0.symm.trans h1
            rw [ri_c2_cat] at hc
            simp [am_f1, hc]
          · simp [am_f1, hj, hj2]
    · simp at h1
theorem ri_s2_sub {ls : List Value} {i : Nat} {v : Value} : ∀ q ∈ ri_lv (ri_s2 ls i v), q ∈ (i, v) :: (ri_lv ls).filter (am_f2 i) := by
  rintro ⟨j, w⟩ hq
  rw [ri_lv_mem] at hq
  obtain ⟨h1, h2⟩ := hq
  unfold ri_s2 at h1
  rw [ri_upd_eq] at h1
  by_cases hj : j = i + 1
  · subst hj
    rw [List.getElem?_set] at h1
    split at h1
    · split at h1
      · cases h1; exact absurd rfl h2
      · cases h1
    · omega
  · rw [List.getElem?_set_ne (Ne.symm hj)] at h1
    have h3 := ri_s1_sub (j, w) (ri_lv_mem.mpr ⟨h1, h2⟩)
    rw [List.mem_cons, List.mem_filter] at h3 ⊢
    rcases h3 with h3 | ⟨h3, h4⟩
    · exact Or.inl h3
    · refine Or.inr ⟨h3, ?_⟩
      simp [am_f1] at h4
      simp [am_f2, hj, h4]
section
variable {G : am_G} {d : Nat} {y : am_M} {mc ms : Nat} {post : am_T} {k n pc N : Nat} {lv lv' : List (Nat × Value)} {st : List Value} {h : am_H}
theorem am_iload_nG {v : Value} {j : Fin 4} {i : Nat} (hI : ri_isI v = true) (hd : decode y.2.1 pc = .ok (.iload_n j, 1)) (hi : (j : Nat) = i) (hv : (i, v) ∈ lv) (kk : am_A G d y mc ms post k n (pc + 1) lv (v :: st) N h) : am_A G d y mc ms post k n (pc) lv (st) N h := by
  cases v <;> simp only [ri_isI] at hI <;> (try (cases hI))
  · intro p e s m args below meth c H locs ls X hW hlo hl
    exact lv_iload_n X.1 X.2.1 hd hi (am_ld G hl hv) (kk p e s m args below meth c H locs ls X hW hlo hl)
  · intro p e s m args below meth c H locs ls X hW hlo hl
    exact lv_iload_n X.1 X.2.1 hd hi (am_ld G hl hv) (kk p e s m args below meth c H locs ls X hW hlo hl)
theorem am_istore_nG {v : Value} {j : Fin 4} {i : Nat} (hI : ri_isI v = true) (hd : decode y.2.1 pc = .ok (.istore_n j, 1)) (hi : (j : Nat) = i) (hn : i < y.2.2.1) (kk : am_A G d y mc ms post k n (pc + 1) ((i, v) :: lv.filter (am_f1 i)) (st) N h) : am_A G d y mc ms post k n (pc) lv (v :: st) N h := by
  cases v <;> simp only [ri_isI] at hI <;> (try (cases hI))
  · rename_i b
    intro p e s m args below meth c H locs ls X hW hlo hl
    exact lv_istore_n X.1 X.2.1 hd hi hl hn (am_flt1 G i (.int b) lv) (fun ls' hl' => kk p e s m args below meth c H locs ls' X hW hlo hl')
  · rename_i b
    intro p e s m args below meth c H locs ls X hW hlo hl
    exact lv_istore_n X.1 X.2.1 hd hi hl hn (am_flt1 G i (.float b) lv) (fun ls' hl' => kk p e s m args below meth c H locs ls' X hW hlo hl')
theorem am_iloadG {v : Value} {i : Nat} (hI : ri_isI v = true) (hd : decode y.2.1 pc = .ok (.iload i, 2)) (hv : (i, v) ∈ lv) (kk : am_A G d y mc ms post k n (pc + 2) lv (v :: st) N h) : am_A G d y mc ms post k n (pc) lv (st) N h := by
  cases v <;> simp only [ri_isI] at hI <;> (try (cases hI))
  · intro p e s m args below meth c H locs ls X hW hlo hl
    exact lv_iload X.1 X.2.1 hd (am_ld G hl hv) (kk p e s m args below meth c H locs ls X hW hlo hl)
  · intro p e s m args below meth c H locs ls X hW hlo hl
    exact lv_iload X.1 X.2.1 hd (am_ld G hl hv) (kk p e s m args below meth c H locs ls X hW hlo hl)
theorem am_istoreG {v : Value} {i : Nat} (hI : ri_isI v = true) (hd : decode y.2.1 pc = .ok (.istore i, 2)) (hn : i < y.2.2.1) (kk : am_A G d y mc ms post k n (pc + 2) ((i, v) :: lv.filter (am_f1 i)) (st) N h) : am_A G d y mc ms post k n (pc) lv (v :: st) N h := by
  cases v <;> simp only [ri_isI] at hI <;> (try (cases hI))
  · rename_i b
    intro p e s m args below meth c H locs ls X hW hlo hl
    exact lv_istore X.1 X.2.1 hd hl hn (am_flt1 G i (.int b) lv) (fun ls' hl' => kk p e s m args below meth c H locs ls' X hW hlo hl')
  · rename_i b
    intro p e s m args below meth c H locs ls X hW hlo hl
    exact lv_istore X.1 X.2.1 hd hl hn (am_flt1 G i (.float b) lv) (fun ls' hl' => kk p e s m args below meth c H locs ls' X hW hlo hl')
theorem am_lload_nG {v : Value} {j : Fin 4} {i : Nat} (hI : ri_isL v = true) (hd : decode y.2.1 pc = .ok (.lload_n j, 1)) (hi : (j : Nat) = i) (hv : (i, v) ∈ lv) (kk : am_A G d y mc ms post k n (pc + 1) lv (v :: st) N h) : am_A G d y mc ms post k n (pc) lv (st) N h := by
  cases v <;> simp only [ri_isL] at hI <;> (try (cases hI))
  · intro p e s m args below meth c H locs ls X hW hlo hl
    exact lv_lload_n X.1 X.2.1 hd hi (am_ld G hl hv) (kk p e s m args below meth c H locs ls X hW hlo hl)
  · intro p e s m args below meth c H locs ls X hW hlo hl
    exact lv_lload_n X.1 X.2.1 hd hi (am_ld G hl hv) (kk p e s m args below meth c H locs ls X hW hlo hl)
theorem am_lstore_nG {v : Value} {j : Fin 4} {i : Nat} (hI : ri_isL v = true) (hd : decode y.2.1 pc = .ok (.lstore_n j, 1)) (hi : (j : Nat) = i) (hn : i + 1 < y.2.2.1) (kk : am_A G d y mc ms post k n (pc + 1) ((i, v) :: lv.filter (am_f2 i)) (st) N h) : am_A G d y mc ms post k n (pc) lv (v :: st) N h := by
  cases v <;> simp only [ri_isL] at hI <;> (try (cases hI))
  · rename_i b
    intro p e s m args below meth c H locs ls X hW hlo hl
    exact lv_lstore_n X.1 X.2.1 hd hi hl hn (am_flt2 G i (.long b) lv) (fun ls' hl' => kk p e s m args below meth c H locs ls' X hW hlo hl')
  · rename_i b
    intro p e s m args below meth c H locs ls X hW hlo hl
    exact lv_lstore_n X.1 X.2.1 hd hi hl hn (am_flt2 G i (.double b) lv) (fun ls' hl' => kk p e s m args below meth c H locs ls' X hW hlo hl')
theorem am_lloadG {v : Value} {i : Nat} (hI : ri_isL v = true) (hd : decode y.2.1 pc = .ok (.lload i, 2)) (hv : (i, v) ∈ lv) (kk : am_A G d y mc ms post k n (pc + 2) lv (v :: st) N h) : am_A G d y mc ms post k n (pc) lv (st) N h := by
  cases v <;> simp only [ri_isL] at hI <;> (try (cases hI))
  · intro p e s m args below meth c H locs ls X hW hlo hl
    exact lv_lload X.1 X.2.1 hd (am_ld G hl hv) (kk p e s m args below meth c H locs ls X hW hlo hl)
  · intro p e s m args below meth c H locs ls X hW hlo hl
    exact lv_lload X.1 X.2.1 hd (am_ld G hl hv) (kk p e s m args below meth c H locs ls X hW hlo hl)
theorem am_lstoreG {v : Value} {i : Nat} (hI : ri_isL v = true) (hd : decode y.2.1 pc = .ok (.lstore i, 2)) (hn : i + 1 < y.2.2.1) (kk : am_A G d y mc ms post k n (pc + 2) ((i, v) :: lv.filter (am_f2 i)) (st) N h) : am_A G d y mc ms post k n (pc) lv (v :: st) N h := by
  cases v <;> simp only [ri_isL] at hI <;> (try (cases hI))
  · rename_i b
    intro p e s m args below meth c H locs ls X hW hlo hl
    exact lv_lstore X.1 X.2.1 hd hl hn (am_flt2 G i (.long b) lv) (fun ls' hl' => kk p e s m args below meth c H locs ls' X hW hlo hl')
  · rename_i b
    intro p e s m args below meth c H locs ls X hW hlo hl
    exact lv_lstore X.1 X.2.1 hd hl hn (am_flt2 G i (.double b) lv) (fun ls' hl' => kk p e s m args below meth c H locs ls' X hW hlo hl')
end
end
end
section
theorem am_inst {ci : Nat} {q : vw_C} (hc : am_cl[ci]? = some q) : Cond.instantiable q.1 q.2.2 ∈ am_tbl ∧ Cond.initialized q.1 ∈ am_tbl ∧ (am_df ci).length = q.2.2 := by
  match ci, hc with
  | 0, hc => cases hc; exact ⟨by decide +kernel, by decide +kernel, rfl⟩
  | 1, hc => cases hc; exact ⟨by decide +kernel, by decide +kernel, rfl⟩
  | 2, hc => cases hc; exact ⟨by decide +kernel, by decide +kernel, rfl⟩
  | 3, hc => cases hc; exact ⟨by decide +kernel, by decide +kernel, rfl⟩
  | 4, hc => cases hc; exact ⟨by decide +kernel, by decide +kernel, rfl⟩
  | 5, hc => cases hc; exact ⟨by decide +kernel, by decide +kernel, rfl⟩
  | 6, hc => cases hc; exact ⟨by decide +kernel, by decide +kernel, rfl⟩
  | 7, hc => cases hc; exact ⟨by decide +kernel, by decide +kernel, rfl⟩
  | 8, hc => cases hc; exact ⟨by decide +kernel, by decide +kernel, rfl⟩
  | 9, hc => cases hc; exact ⟨by decide +kernel, by decide +kernel, rfl⟩
  | ci + 10, hc => simp at hc
theorem am_arrI : Cond.arrayClass .int ∈ am_tbl := by decide +kernel
theorem am_arrL : Cond.arrayClass .long ∈ am_tbl := by decide +kernel
theorem ri_rep_i (n : Nat) : (fun j => (List.replicate n (0 : Int32)).getD j 0) = fun _ => 0 := by
  funext j
  by_cases h : j < n <;> simp [List.getD, List.getElem?_replicate, h]
theorem ri_rep_l (n : Nat) : (fun j => (List.replicate n (0 : Int64)).getD j 0) = fun _ => 0 := by
  funext j
  by_cases h : j < n <;> simp [List.getD, List.getElem?_replicate, h]
theorem ri_rep_q (n : Nat) : (fun j => (List.replicate n (none : Option Nat)).getD j none) = fun _ => none := by
  funext j
  by_cases h : j < n <;> simp [List.getD, List.getElem?_replicate, h]
def ri_nx (pcs : List Nat) (i : Nat) (jt : Option Nat) (pc' : Nat) : Prop := match jt with
  | none => pcs[i + 1]? = some pc'
  | some t => pcs[t]? = some pc'
def ri_Ok (E : ri_Env) (y : am_M) (pcs : List Nat) (i pc : Nat) (lv : List Value) (st : List Value) (L : ri_L) (jt : Option Nat) (lv' : List Value) (st' : List Value) (L' : ri_L) : Prop :=
  L.1 ≤ L'.1 ∧ L.2.1 ≤ L'.2.1 ∧ ∀ (G : am_G), am_Env G E → ∀ (d mc ms : Nat) (post : am_T) (k n pc' : Nat), ri_nx pcs i jt pc' → 1 ≤ d → k + (L'.1 - L.1) ≤ mc → n + (L'.2.1 - L.2.1) ≤ ms →
    am_A G d y mc ms post (k + (L'.1 - L.1)) (n + (L'.2.1 - L.2.1)) pc' (ri_lv lv') st' L'.1 (ri_h L') → am_A G d y mc ms post k n pc (ri_lv lv) st L.1 (ri_h L)
theorem ri_simple {E : ri_Env} {y : am_M} {pcs : List Nat} {i pc pc2 : Nat} {lv lv' : List Value} {st st' : List Value} {L : ri_L} {jt : Option Nat} (hnx : ri_nx pcs i jt pc2) (kk : ∀ (G : am_G), am_Env G E → ∀ (d mc ms : Nat) (post : am_T) (k n : Nat), 1 ≤ d → k ≤ mc → n ≤ ms → am_A G d y mc ms post k n pc2 (ri_lv lv') st' L.1 (ri_h L) → am_A G d y mc ms post k n pc (ri_lv lv) st L.1 (ri_h L)) : ri_Ok E y pcs i pc lv st L jt lv' st' L := by
  refine ⟨Nat.le_refl _, Nat.le_refl _, fun G hE d mc ms post k n pc' h1 h2 h3 h4 h5 => ?_⟩
  have e : pc' = pc2 := by
    cases jt with
    | none => exact Option.some.inj (h1.symm.trans hnx)
    | some t => exact Option.some.inj (h1.symm.trans hnx)
  subst e
  simp only [Nat.sub_self, Nat.add_zero] at h5
  exact kk G hE d mc ms post k n h2 (by omega) (by omega) h5
theorem ri_wr {E : ri_Env} {y : am_M} {pcs : List Nat} {i pc pc2 a : Nat} {lv lv' : List Value} {st st' : List Value} {L : ri_L} {e0 e : ri_E} (h0 : ri_get L.2.2 a = some e0) (hnx : ri_nx pcs i none pc2) (kk : ∀ (G : am_G) (d mc ms : Nat) (post : am_T) (k n : Nat), 1 ≤ d → am_A G d y mc ms post k n pc2 (ri_lv lv') st' L.1 (va_up (ri_h L) a (ri_e e)) → am_A G d y mc ms post k n pc (ri_lv lv) st L.1 (ri_h L)) : ri_Ok E y pcs i pc lv st L none lv' st' (L.1, L.2.1, ri_put L.2.2 a e) := by
  refine ⟨Nat.le_refl _, Nat.le_refl _, fun G hE d mc ms post k n pc' h1 h2 _ _ h5 => ?_⟩
  have e3 : pc' = pc2 := Option.some.inj (h1.symm.trans hnx)
  subst e3
  rw [ri_h_put e h0 L.1 L.2.1 L.1 L.2.1] at h5
  simp only [Nat.sub_self, Nat.add_zero] at h5
  exact kk G d mc ms post k n h2 h5
theorem ri_psh {E : ri_Env} {y : am_M} {pcs : List Nat} {i pc pc2 z : Nat} {lv lv' : List Value} {st st' : List Value} {L : ri_L} {e : ri_E} (h0 : (ri_get L.2.2 L.1).isSome = true) (hnx : ri_nx pcs i none pc2) (kk : ∀ (G : am_G) (d mc ms : Nat) (post : am_T) (k n : Nat), 1 ≤ d → k + 1 ≤ mc → n + z ≤ ms → am_A G d y mc ms post (k + 1) (n + z) pc2 (ri_lv lv') st' (L.1 + 1) (va_up (ri_h L) L.1 (ri_e e)) → am_A G d y mc ms post k n pc (ri_lv lv) st L.1 (ri_h L)) : ri_Ok E y pcs i pc lv st L none lv' st' (L.1 + 1, L.2.1 + z, ri_put L.2.2 L.1 e) := by
  rw [Option.isSome_iff_exists] at h0
  obtain ⟨e0, h0⟩ := h0
  refine ⟨Nat.le_succ _, Nat.le_add_right _ _, fun G hE d mc ms post k n pc' h1 h2 h3 h4 h5 => ?_⟩
  have e3 : pc' = pc2 := Option.some.inj (h1.symm.trans hnx)
  subst e3
  rw [ri_h_put e h0 (L.1 + 1) (L.2.1 + z) L.1 L.2.1] at h5
  dsimp only at h3 h4 h5
  rw [Nat.add_sub_cancel_left, Nat.add_sub_cancel_left] at h5
  rw [Nat.add_sub_cancel_left] at h3 h4
  exact kk G d mc ms post k n h2 h3 h4 h5
set_option maxHeartbeats 8000000 in
theorem ri_stp_ok {E : ri_Env} {y : am_M} {pcs : List Nat} {i : Nat} {r : ri_row} {lv lv' : List Value} {st st' : List Value} {L L' : ri_L} {jt : Option Nat} (hr : ri_rok y pcs i r = true) (h : ri_stp E r lv st L = some (jt, lv', st', L')) : ri_Ok E y pcs i r.1 lv st L jt lv' st' L' := by
  obtain ⟨pc, ins, len, a, b, pl, v, ts⟩ := r
  unfold ri_rok at hr
  simp only [Bool.and_eq_true, decide_eq_true_eq, Bool.or_eq_true, beq_iff_eq] at hr
  obtain ⟨hd, -, hnx, hln, hr1⟩ := hr
  dsimp only at *
  cases ins <;> (try (cases h; done))
  case iconst z =>
    replace hnx := hnx.resolve_left (by simp [ri_end])
    replace hln := hln.resolve_left (by simp [ri_sw])
    simp only [ri_ln] at hln
    subst hln
    simp only [ri_stp, ri_sel, st_iconst, ri_fi_eq] at h
    simp only [Option.some.injEq, Prod.mk.injEq] at h
    obtain ⟨rfl, rfl, rfl, rfl⟩ := h
    exact ri_simple hnx (fun G hE d mc ms post k n hd1 hk9 hn9 kk => am_iconst hd rfl kk)
  case bipush z =>
    replace hnx := hnx.resolve_left (by simp [ri_end])
    replace hln := hln.resolve_left (by simp [ri_sw])
    simp only [ri_ln] at hln
    subst hln
    simp only [ri_stp, ri_sel, st_bipush, ri_fi_eq] at h
    simp only [Option.some.injEq, Prod.mk.injEq] at h
    obtain ⟨rfl, rfl, rfl, rfl⟩ := h
    exact ri_simple hnx (fun G hE d mc ms post k n hd1 hk9 hn9 kk => am_bipush hd rfl kk)
  case sipush z =>
    replace hnx := hnx.resolve_left (by simp [ri_end])
    replace hln := hln.resolve_left (by simp [ri_sw])
    simp only [ri_ln] at hln
    subst hln
    simp only [ri_stp, ri_sel, st_sipush, ri_fi_eq] at h
    simp only [Option.some.injEq, Prod.mk.injEq] at h
    obtain ⟨rfl, rfl, rfl, rfl⟩ := h
    exact ri_simple hnx (fun G hE d mc ms post k n hd1 hk9 hn9 kk => am_sipush hd rfl kk)
  case lconst z =>
    replace hnx := hnx.resolve_left (by simp [ri_end])
    replace hln := hln.resolve_left (by simp [ri_sw])
    simp only [ri_ln] at hln
    subst hln
    simp only [ri_stp, ri_sel, st_lconst, ri_fl_eq] at h
    simp only [Option.some.injEq, Prod.mk.injEq] at h
    obtain ⟨rfl, rfl, rfl, rfl⟩ := h
    exact ri_simple hnx (fun G hE d mc ms post k n hd1 hk9 hn9 kk => am_lconst hd rfl kk)
  case ldc_w z =>
    replace hnx := hnx.resolve_left (by simp [ri_end])
    replace hln := hln.resolve_left (by simp [ri_sw])
    simp only [ri_ln] at hln
    subst hln
    simp only [ri_stp, ri_sel, st_ldc_w, ri_fi_eq] at h
    simp only [Option.some.injEq, Prod.mk.injEq] at h
    obtain ⟨rfl, rfl, rfl, rfl⟩ := h
    exact ri_simple hnx (fun G hE d mc ms post k n hd1 hk9 hn9 kk => am_ldcw hd (ri_lw_in hr1) kk)
  case ldc2_w z =>
    replace hnx := hnx.resolve_left (by simp [ri_end])
    replace hln := hln.resolve_left (by simp [ri_sw])
    simp only [ri_ln] at hln
    subst hln
    simp only [ri_stp, ri_sel, st_ldc2_w, ri_fl_eq] at h
    simp only [Option.some.injEq, Prod.mk.injEq] at h
    obtain ⟨rfl, rfl, rfl, rfl⟩ := h
    exact ri_simple hnx (fun G hE d mc ms post k n hd1 hk9 hn9 kk => am_ldc2 hd (ri_lw_in hr1) kk)
  case iload_n z =>
    replace hnx := hnx.resolve_left (by simp [ri_end])
    replace hln := hln.resolve_left (by simp [ri_sw])
    simp only [ri_ln] at hln
    subst hln
    simp only [ri_stp, ri_sel, st_iload_n] at h
    split at h
    · rename_i w hx
      split at h
      · rename_i hI
        simp only [Option.some.injEq, Prod.mk.injEq] at h
        obtain ⟨rfl, rfl, rfl, rfl⟩ := h
        rw [ri_nth_eq] at hx
        exact ri_simple hnx (fun G hE d mc ms post k n hd1 hk9 hn9 kk => am_iload_nG hI hd rfl (ri_lv_mem.mpr ⟨hx, fun e => by subst e; cases hI⟩) kk)
      · cases h
    · cases h
  case istore_n z =>
    replace hnx := hnx.resolve_left (by simp [ri_end])
    replace hln := hln.resolve_left (by simp [ri_sw])
    simp only [ri_ln] at hln
    subst hln
    simp only [ri_rok1, decide_eq_true_eq] at hr1
    simp only [ri_stp, ri_sel, st_istore_n] at h
    split at h
    · split at h
      · rename_i hI
        simp only [Option.some.injEq, Prod.mk.injEq] at h
        obtain ⟨rfl, rfl, rfl, rfl⟩ := h
        exact ri_simple hnx (fun G hE d mc ms post k n hd1 hk9 hn9 kk => am_istore_nG hI hd rfl hr1 (am_lvs ri_s1_sub kk))
      · cases h
    · cases h
  case iload z =>
    replace hnx := hnx.resolve_left (by simp [ri_end])
    replace hln := hln.resolve_left (by simp [ri_sw])
    simp only [ri_ln] at hln
    subst hln
    simp only [ri_stp, ri_sel, st_iload] at h
    split at h
    · rename_i w hx
      split at h
      · rename_i hI
        simp only [Option.some.injEq, Prod.mk.injEq] at h
        obtain ⟨rfl, rfl, rfl, rfl⟩ := h
        rw [ri_nth_eq] at hx
        exact ri_simple hnx (fun G hE d mc ms post k n hd1 hk9 hn9 kk => am_iloadG hI hd (ri_lv_mem.mpr ⟨hx, fun e => by subst e; cases hI⟩) kk)
      · cases h
    · cases h
  case istore z =>
    replace hnx := hnx.resolve_left (by simp [ri_end])
    replace hln := hln.resolve_left (by simp [ri_sw])
    simp only [ri_ln] at hln
    subst hln
    simp only [ri_rok1, decide_eq_true_eq] at hr1
    simp only [ri_stp, ri_sel, st_istore] at h
    split at h
    · split at h
      · rename_i hI
        simp only [Option.some.injEq, Prod.mk.injEq] at h
        obtain ⟨rfl, rfl, rfl, rfl⟩ := h
        exact ri_simple hnx (fun G hE d mc ms post k n hd1 hk9 hn9 kk => am_istoreG hI hd hr1 (am_lvs ri_s1_sub kk))
      · cases h
    · cases h
  case lload_n z =>
    replace hnx := hnx.resolve_left (by simp [ri_end])
    replace hln := hln.resolve_left (by simp [ri_sw])
    simp only [ri_ln] at hln
    subst hln
    simp only [ri_stp, ri_sel, st_lload_n] at h
    split at h
    · rename_i w hx
      split at h
      · rename_i hI
        simp only [Option.some.injEq, Prod.mk.injEq] at h
        obtain ⟨rfl, rfl, rfl, rfl⟩ := h
        rw [ri_nth_eq] at hx
        exact ri_simple hnx (fun G hE d mc ms post k n hd1 hk9 hn9 kk => am_lload_nG hI hd rfl (ri_lv_mem.mpr ⟨hx, fun e => by subst e; cases hI⟩) kk)
      · cases h
    · cases h
  case lstore_n z =>
    replace hnx := hnx.resolve_left (by simp [ri_end])
    replace hln := hln.resolve_left (by simp [ri_sw])
    simp only [ri_ln] at hln
    subst hln
    simp only [ri_rok1, decide_eq_true_eq] at hr1
    simp only [ri_stp, ri_sel, st_lstore_n] at h
    split at h
    · split at h
      · rename_i hI
        simp only [Option.some.injEq, Prod.mk.injEq] at h
        obtain ⟨rfl, rfl, rfl, rfl⟩ := h
        exact ri_simple hnx (fun G hE d mc ms post k n hd1 hk9 hn9 kk => am_lstore_nG hI hd rfl hr1 (am_lvs ri_s2_sub kk))
      · cases h
    · cases h
  case lload z =>
    replace hnx := hnx.resolve_left (by simp [ri_end])
    replace hln := hln.resolve_left (by simp [ri_sw])
    simp only [ri_ln] at hln
    subst hln
    simp only [ri_stp, ri_sel, st_lload] at h
    split at h
    · rename_i w hx
      split at h
      · rename_i hI
        simp only [Option.some.injEq, Prod.mk.injEq] at h
        obtain ⟨rfl, rfl, rfl, rfl⟩ := h
        rw [ri_nth_eq] at hx
        exact ri_simple hnx (fun G hE d mc ms post k n hd1 hk9 hn9 kk => am_lloadG hI hd (ri_lv_mem.mpr ⟨hx, fun e => by subst e; cases hI⟩) kk)
      · cases h
    · cases h
  case lstore z =>
    replace hnx := hnx.resolve_left (by simp [ri_end])
    replace hln := hln.resolve_left (by simp [ri_sw])
    simp only [ri_ln] at hln
    subst hln
    simp only [ri_rok1, decide_eq_true_eq] at hr1
    simp only [ri_stp, ri_sel, st_lstore] at h
    split at h
    · split at h
      · rename_i hI
        simp only [Option.some.injEq, Prod.mk.injEq] at h
        obtain ⟨rfl, rfl, rfl, rfl⟩ := h
        exact ri_simple hnx (fun G hE d mc ms post k n hd1 hk9 hn9 kk => am_lstoreG hI hd hr1 (am_lvs ri_s2_sub kk))
      · cases h
    · cases h
  case aload_n z =>
    replace hnx := hnx.resolve_left (by simp [ri_end])
    replace hln := hln.resolve_left (by simp [ri_sw])
    simp only [ri_ln] at hln
    subst hln
    simp only [ri_stp, ri_sel, st_aload_n] at h
    split at h
    · rename_i x hx
      simp only [Option.some.injEq, Prod.mk.injEq] at h
      obtain ⟨rfl, rfl, rfl, rfl⟩ := h
      rw [ri_nth_eq] at hx
      exact ri_simple hnx (fun G hE d mc ms post k n hd1 hk9 hn9 kk => am_aload_n hd rfl (ri_lv_mem.mpr ⟨hx, by simp⟩) kk)
    · cases h
  case astore_n z =>
    replace hnx := hnx.resolve_left (by simp [ri_end])
    replace hln := hln.resolve_left (by simp [ri_sw])
    simp only [ri_ln] at hln
    subst hln
    simp only [ri_rok1, decide_eq_true_eq] at hr1
    simp only [ri_stp, ri_sel, st_astore_n] at h
    split at h
    · simp only [Option.some.injEq, Prod.mk.injEq] at h
      obtain ⟨rfl, rfl, rfl, rfl⟩ := h
      exact ri_simple hnx (fun G hE d mc ms post k n hd1 hk9 hn9 kk => am_astore_n hd rfl hr1 rfl (am_lvs ri_s1_sub kk))
    · cases h
  case aload z =>
    replace hnx := hnx.resolve_left (by simp [ri_end])
    replace hln := hln.resolve_left (by simp [ri_sw])
    simp only [ri_ln] at hln
    subst hln
    simp only [ri_stp, ri_sel, st_aload] at h
    split at h
    · rename_i x hx
      simp only [Option.some.injEq, Prod.mk.injEq] at h
      obtain ⟨rfl, rfl, rfl, rfl⟩ := h
      rw [ri_nth_eq] at hx
      exact ri_simple hnx (fun G hE d mc ms post k n hd1 hk9 hn9 kk => am_aload hd (ri_lv_mem.mpr ⟨hx, by simp⟩) kk)
    · cases h
  case astore z =>
    replace hnx := hnx.resolve_left (by simp [ri_end])
    replace hln := hln.resolve_left (by simp [ri_sw])
    simp only [ri_ln] at hln
    subst hln
    simp only [ri_rok1, decide_eq_true_eq] at hr1
    simp only [ri_stp, ri_sel, st_astore] at h
    split at h
    · simp only [Option.some.injEq, Prod.mk.injEq] at h
      obtain ⟨rfl, rfl, rfl, rfl⟩ := h
      exact ri_simple hnx (fun G hE d mc ms post k n hd1 hk9 hn9 kk => am_astore hd hr1 rfl (am_lvs ri_s1_sub kk))
    · cases h
  case iinc z w =>
    replace hnx := hnx.resolve_left (by simp [ri_end])
    replace hln := hln.resolve_left (by simp [ri_sw])
    simp only [ri_ln] at hln
    subst hln
    simp only [ri_rok1, decide_eq_true_eq] at hr1
    simp only [ri_stp, ri_sel, st_iinc] at h
    split at h
    · rename_i x hx
      rw [ri_fi_eq] at h
      simp only [Option.some.injEq, Prod.mk.injEq] at h
      obtain ⟨rfl, rfl, rfl, rfl⟩ := h
      rw [ri_nth_eq] at hx
      exact ri_simple hnx (fun G hE d mc ms post k n hd1 hk9 hn9 kk => am_iinc hd (ri_lv_mem.mpr ⟨hx, by simp⟩) rfl hr1 rfl (am_lvs ri_s1_sub kk))
    · cases h
  case iadd  =>
    replace hnx := hnx.resolve_left (by simp [ri_end])
    replace hln := hln.resolve_left (by simp [ri_sw])
    simp only [ri_ln] at hln
    subst hln
    simp only [ri_stp, ri_sel, st_iadd] at h
    split at h
    · rw [ri_fi_eq] at h
      simp only [Option.some.injEq, Prod.mk.injEq] at h
      obtain ⟨rfl, rfl, rfl, rfl⟩ := h
      exact ri_simple hnx (fun G hE d mc ms post k n hd1 hk9 hn9 kk => am_iadd hd kk)
    · cases h
  case isub  =>
    replace hnx := hnx.resolve_left (by simp [ri_end])
    replace hln := hln.resolve_left (by simp [ri_sw])
    simp only [ri_ln] at hln
    subst hln
    simp only [ri_stp, ri_sel, st_isub] at h
    split at h
    · rw [ri_fi_eq] at h
      simp only [Option.some.injEq, Prod.mk.injEq] at h
      obtain ⟨rfl, rfl, rfl, rfl⟩ := h
      exact ri_simple hnx (fun G hE d mc ms post k n hd1 hk9 hn9 kk => am_isub hd kk)
    · cases h
  case imul  =>
    replace hnx := hnx.resolve_left (by simp [ri_end])
    replace hln := hln.resolve_left (by simp [ri_sw])
    simp only [ri_ln] at hln
    subst hln
    simp only [ri_stp, ri_sel, st_imul] at h
    split at h
    · rw [ri_fi_eq] at h
      simp only [Option.some.injEq, Prod.mk.injEq] at h
      obtain ⟨rfl, rfl, rfl, rfl⟩ := h
      exact ri_simple hnx (fun G hE d mc ms post k n hd1 hk9 hn9 kk => am_imul hd kk)
    · cases h
  case iand  =>
    replace hnx := hnx.resolve_left (by simp [ri_end])
    replace hln := hln.resolve_left (by simp [ri_sw])
    simp only [ri_ln] at hln
    subst hln
    simp only [ri_stp, ri_sel, st_iand] at h
    split at h
    · rw [ri_fi_eq] at h
      simp only [Option.some.injEq, Prod.mk.injEq] at h
      obtain ⟨rfl, rfl, rfl, rfl⟩ := h
      exact ri_simple hnx (fun G hE d mc ms post k n hd1 hk9 hn9 kk => am_iand hd kk)
    · cases h
  case ixor  =>
    replace hnx := hnx.resolve_left (by simp [ri_end])
    replace hln := hln.resolve_left (by simp [ri_sw])
    simp only [ri_ln] at hln
    subst hln
    simp only [ri_stp, ri_sel, st_ixor] at h
    split at h
    · rw [ri_fi_eq] at h
      simp only [Option.some.injEq, Prod.mk.injEq] at h
      obtain ⟨rfl, rfl, rfl, rfl⟩ := h
      exact ri_simple hnx (fun G hE d mc ms post k n hd1 hk9 hn9 kk => am_ixor hd kk)
    · cases h
  case ishl  =>
    replace hnx := hnx.resolve_left (by simp [ri_end])
    replace hln := hln.resolve_left (by simp [ri_sw])
    simp only [ri_ln] at hln
    subst hln
    simp only [ri_stp, ri_sel, st_ishl] at h
    split at h
    · rw [ri_fi_eq] at h
      simp only [Option.some.injEq, Prod.mk.injEq] at h
      obtain ⟨rfl, rfl, rfl, rfl⟩ := h
      exact ri_simple hnx (fun G hE d mc ms post k n hd1 hk9 hn9 kk => am_ishl hd kk)
    · cases h
  case iushr  =>
    replace hnx := hnx.resolve_left (by simp [ri_end])
    replace hln := hln.resolve_left (by simp [ri_sw])
    simp only [ri_ln] at hln
    subst hln
    simp only [ri_stp, ri_sel, st_iushr] at h
    split at h
    · rw [ri_fi_eq] at h
      simp only [Option.some.injEq, Prod.mk.injEq] at h
      obtain ⟨rfl, rfl, rfl, rfl⟩ := h
      exact ri_simple hnx (fun G hE d mc ms post k n hd1 hk9 hn9 kk => am_iushr hd kk)
    · cases h
  case ineg  =>
    replace hnx := hnx.resolve_left (by simp [ri_end])
    replace hln := hln.resolve_left (by simp [ri_sw])
    simp only [ri_ln] at hln
    subst hln
    simp only [ri_stp, ri_sel, st_ineg] at h
    split at h
    · rw [ri_fi_eq] at h
      simp only [Option.some.injEq, Prod.mk.injEq] at h
      obtain ⟨rfl, rfl, rfl, rfl⟩ := h
      exact ri_simple hnx (fun G hE d mc ms post k n hd1 hk9 hn9 kk => am_ineg hd kk)
    · cases h
  case ishr  =>
    replace hnx := hnx.resolve_left (by simp [ri_end])
    replace hln := hln.resolve_left (by simp [ri_sw])
    simp only [ri_ln] at hln
    subst hln
    simp only [ri_stp, ri_sel, st_ishr] at h
    split at h
    · rw [ri_fi_eq] at h
      simp only [Option.some.injEq, Prod.mk.injEq] at h
      obtain ⟨rfl, rfl, rfl, rfl⟩ := h
      exact ri_simple hnx (fun G hE d mc ms post k n hd1 hk9 hn9 kk => am_ishr hd kk)
    · split at h
      · rename_i z b st0 hz
        simp only [Option.some.injEq, Prod.mk.injEq] at h
        obtain ⟨rfl, rfl, rfl, rfl⟩ := h
        subst hz
        refine ri_simple hnx (fun G hE d mc ms post k n hd1 hk9 hn9 kk => am_stc (st2 := .int 0 :: .int (am_rho G b.toNat) :: st0) rfl (am_ishr hd (am_stc (st2 := .float b :: st0) ?_ kk)))
        simp only [List.map_cons, am_cv, sb_shr0]
      · cases h
    · cases h
  case ladd  =>
    replace hnx := hnx.resolve_left (by simp [ri_end])
    replace hln := hln.resolve_left (by simp [ri_sw])
    simp only [ri_ln] at hln
    subst hln
    simp only [ri_stp, ri_sel, st_ladd] at h
    split at h
    · rw [ri_fl_eq] at h
      simp only [Option.some.injEq, Prod.mk.injEq] at h
      obtain ⟨rfl, rfl, rfl, rfl⟩ := h
      exact ri_simple hnx (fun G hE d mc ms post k n hd1 hk9 hn9 kk => am_ladd hd kk)
    · cases h
  case lmul  =>
    replace hnx := hnx.resolve_left (by simp [ri_end])
    replace hln := hln.resolve_left (by simp [ri_sw])
    simp only [ri_ln] at hln
    subst hln
    simp only [ri_stp, ri_sel, st_lmul] at h
    split at h
    · rw [ri_fl_eq] at h
      simp only [Option.some.injEq, Prod.mk.injEq] at h
      obtain ⟨rfl, rfl, rfl, rfl⟩ := h
      exact ri_simple hnx (fun G hE d mc ms post k n hd1 hk9 hn9 kk => am_lmul hd kk)
    · cases h
  case i2l  =>
    replace hnx := hnx.resolve_left (by simp [ri_end])
    replace hln := hln.resolve_left (by simp [ri_sw])
    simp only [ri_ln] at hln
    subst hln
    simp only [ri_stp, ri_sel, st_i2l] at h
    split at h
    · rw [ri_fl_eq] at h
      simp only [Option.some.injEq, Prod.mk.injEq] at h
      obtain ⟨rfl, rfl, rfl, rfl⟩ := h
      exact ri_simple hnx (fun G hE d mc ms post k n hd1 hk9 hn9 kk => am_i2l hd kk)
    · rename_i b st0
      simp only [Option.some.injEq, Prod.mk.injEq] at h
      obtain ⟨rfl, rfl, rfl, rfl⟩ := h
      refine ri_simple hnx (fun G hE d mc ms post k n hd1 hk9 hn9 kk => am_stc (st2 := .int (am_rho G b.toNat) :: st0) rfl (am_i2l hd (am_stc (st2 := .double b.toUInt64 :: st0) ?_ kk)))
      simp only [List.map_cons, am_cv, UInt32.toNat_toUInt64]
    · cases h
  case lcmp  =>
    replace hnx := hnx.resolve_left (by simp [ri_end])
    replace hln := hln.resolve_left (by simp [ri_sw])
    simp only [ri_ln] at hln
    subst hln
    simp only [ri_stp, ri_sel, st_lcmp] at h
    split at h
    · rw [ri_fi_eq] at h
      simp only [Option.some.injEq, Prod.mk.injEq] at h
      obtain ⟨rfl, rfl, rfl, rfl⟩ := h
      exact ri_simple hnx (fun G hE d mc ms post k n hd1 hk9 hn9 kk => am_lcmp hd kk)
    · rename_i z b st0
      split at h
      · rename_i lo hi hiv
        rw [ri_nth_eq] at hiv
        have key : ∀ (G : am_G), am_Env G E → lo ≤ (am_rho G b.toNat).toInt64.toInt ∧ (am_rho G b.toNat).toInt64.toInt ≤ hi := fun G hE => by
          rw [Int32.toInt_toInt64]
          exact hE _ _ _ hiv
        split at h
        · rename_i hc
          simp only [Option.some.injEq, Prod.mk.injEq] at h
          obtain ⟨rfl, rfl, rfl, rfl⟩ := h
          refine ri_simple hnx (fun G hE d mc ms post k n hd1 hk9 hn9 kk => am_stc (st2 := .long z :: .long (am_rho G b.toNat).toInt64 :: st0) rfl (am_lcmp hd (am_stc (st2 := .int (-1) :: st0) ?_ kk)))
          have e : lg_cmp (am_rho G b.toNat).toInt64 z = -1 := by
            have := key G hE
            unfold lg_cmp
            rw [if_neg (by rw [gt_iff_lt, Int64.lt_iff_toInt_lt]; omega), if_neg (by rw [← Int64.toInt_inj]; omega)]
          rw [e]
        · split at h
          · rename_i hc
            simp only [Option.some.injEq, Prod.mk.injEq] at h
            obtain ⟨rfl, rfl, rfl, rfl⟩ := h
            refine ri_simple hnx (fun G hE d mc ms post k n hd1 hk9 hn9 kk => am_stc (st2 := .long z :: .long (am_rho G b.toNat).toInt64 :: st0) rfl (am_lcmp hd (am_stc (st2 := .int 1 :: st0) ?_ kk)))
            have e : lg_cmp (am_rho G b.toNat).toInt64 z = 1 := by
              have := key G hE
              unfold lg_cmp
              rw [if_pos (by rw [gt_iff_lt, Int64.lt_iff_toInt_lt]; omega)]
            rw [e]
          · split at h
            · rename_i hc
              simp only [Option.some.injEq, Prod.mk.injEq] at h
              obtain ⟨rfl, rfl, rfl, rfl⟩ := h
              refine ri_simple hnx (fun G hE d mc ms post k n hd1 hk9 hn9 kk => am_stc (st2 := .long z :: .long (am_rho G b.toNat).toInt64 :: st0) rfl (am_lcmp hd (am_stc (st2 := .int 0 :: st0) ?_ kk)))
              have e : lg_cmp (am_rho G b.toNat).toInt64 z = 0 := by
                have := key G hE
                unfold lg_cmp
                rw [if_neg (by rw [gt_iff_lt, Int64.lt_iff_toInt_lt]; omega), if_pos (by rw [← Int64.toInt_inj]; omega)]
              rw [e]
            · cases h
      · cases h
    · cases h
  case idiv  =>
    replace hnx := hnx.resolve_left (by simp [ri_end])
    replace hln := hln.resolve_left (by simp [ri_sw])
    simp only [ri_ln] at hln
    subst hln
    simp only [ri_stp, ri_sel, st_idiv] at h
    split at h
    · split at h
      · cases h
      · rename_i hz
        rw [ri_fi_eq] at h
        simp only [Option.some.injEq, Prod.mk.injEq] at h
        obtain ⟨rfl, rfl, rfl, rfl⟩ := h
        exact ri_simple hnx (fun G hE d mc ms post k n hd1 hk9 hn9 kk => am_idiv hd hz kk)
    · cases h
  case irem  =>
    replace hnx := hnx.resolve_left (by simp [ri_end])
    replace hln := hln.resolve_left (by simp [ri_sw])
    simp only [ri_ln] at hln
    subst hln
    simp only [ri_stp, ri_sel, st_irem] at h
    split at h
    · split at h
      · cases h
      · rename_i hz
        rw [ri_fi_eq] at h
        simp only [Option.some.injEq, Prod.mk.injEq] at h
        obtain ⟨rfl, rfl, rfl, rfl⟩ := h
        exact ri_simple hnx (fun G hE d mc ms post k n hd1 hk9 hn9 kk => am_irem hd hz kk)
    · cases h
  case dup  =>
    replace hnx := hnx.resolve_left (by simp [ri_end])
    replace hln := hln.resolve_left (by simp [ri_sw])
    simp only [ri_ln] at hln
    subst hln
    simp only [ri_stp, ri_sel, st_dup] at h
    split at h
    · simp only [Option.some.injEq, Prod.mk.injEq] at h
      obtain ⟨rfl, rfl, rfl, rfl⟩ := h
      exact ri_simple hnx (fun G hE d mc ms post k n hd1 hk9 hn9 kk => am_dup hd rfl kk)
    · simp only [Option.some.injEq, Prod.mk.injEq] at h
      obtain ⟨rfl, rfl, rfl, rfl⟩ := h
      exact ri_simple hnx (fun G hE d mc ms post k n hd1 hk9 hn9 kk => am_dup hd rfl kk)
    · cases h
  case dup2  =>
    replace hnx := hnx.resolve_left (by simp [ri_end])
    replace hln := hln.resolve_left (by simp [ri_sw])
    simp only [ri_ln] at hln
    subst hln
    simp only [ri_stp, ri_sel, st_dup2] at h
    split at h
    · simp only [Option.some.injEq, Prod.mk.injEq] at h
      obtain ⟨rfl, rfl, rfl, rfl⟩ := h
      exact ri_simple hnx (fun G hE d mc ms post k n hd1 hk9 hn9 kk => am_dup2 hd rfl rfl kk)
    · cases h
  case if_icmp c off =>
    replace hnx := hnx.resolve_left (by simp [ri_end])
    replace hln := hln.resolve_left (by simp [ri_sw])
    simp only [ri_ln] at hln
    subst hln
    simp only [ri_rok1, decide_eq_true_eq, Option.map_eq_some_iff] at hr1
    obtain ⟨tp, ht1, ht2⟩ := hr1
    simp only [ri_stp, ri_sel, st_if_icmp] at h
    split at h
    · rename_i z x st0
      split at h
      · rename_i hc
        simp only [Option.some.injEq, Prod.mk.injEq] at h
        obtain ⟨rfl, rfl, rfl, rfl⟩ := h
        refine ri_simple (pc2 := tp) ht1 (fun G hE d mc ms post k n hd1 hk9 hn9 kk => ?_)
        obtain ⟨i1, i2, i3⟩ := ri_cmp_ok hE hc
        exact am_stc (st2 := .int (am_xi G z) :: .int (am_xi G x) :: st0) (by simp only [List.map_cons, am_xi_cv G i1, am_xi_cv G i2]; rfl) (am_icmp hd ht2.symm (fun _ => kk) (fun q => absurd (i3.mp rfl) q))
      · rename_i hc
        simp only [Option.some.injEq, Prod.mk.injEq] at h
        obtain ⟨rfl, rfl, rfl, rfl⟩ := h
        refine ri_simple hnx (fun G hE d mc ms post k n hd1 hk9 hn9 kk => ?_)
        obtain ⟨i1, i2, i3⟩ := ri_cmp_ok hE hc
        exact am_stc (st2 := .int (am_xi G z) :: .int (am_xi G x) :: st0) (by simp only [List.map_cons, am_xi_cv G i1, am_xi_cv G i2]; rfl) (am_icmp hd ht2.symm (fun q => absurd (i3.mpr q) (by decide)) (fun _ => kk))
      · cases h
    · cases h
  case ifCond c off =>
    replace hnx := hnx.resolve_left (by simp [ri_end])
    replace hln := hln.resolve_left (by simp [ri_sw])
    simp only [ri_ln] at hln
    subst hln
    simp only [ri_rok1, decide_eq_true_eq, Option.map_eq_some_iff] at hr1
    obtain ⟨tp, ht1, ht2⟩ := hr1
    simp only [ri_stp, ri_sel, st_ifCond] at h
    split at h
    · rename_i x st0
      split at h
      · rename_i hc
        simp only [Option.some.injEq, Prod.mk.injEq] at h
        obtain ⟨rfl, rfl, rfl, rfl⟩ := h
        refine ri_simple (pc2 := tp) ht1 (fun G hE d mc ms post k n hd1 hk9 hn9 kk => ?_)
        obtain ⟨i1, i2, i3⟩ := ri_cmp_ok hE hc
        exact am_stc (st2 := .int (am_xi G x) :: st0) (by simp only [List.map_cons, am_xi_cv G i1]; rfl) (am_ifc hd ht2.symm (fun _ => kk) (fun q => absurd (i3.mp rfl) q))
      · rename_i hc
        simp only [Option.some.injEq, Prod.mk.injEq] at h
        obtain ⟨rfl, rfl, rfl, rfl⟩ := h
        refine ri_simple hnx (fun G hE d mc ms post k n hd1 hk9 hn9 kk => ?_)
        obtain ⟨i1, i2, i3⟩ := ri_cmp_ok hE hc
        exact am_stc (st2 := .int (am_xi G x) :: st0) (by simp only [List.map_cons, am_xi_cv G i1]; rfl) (am_ifc hd ht2.symm (fun q => absurd (i3.mpr q) (by decide)) (fun _ => kk))
      · cases h
    · cases h
  case goto off =>
    replace hln := hln.resolve_left (by simp [ri_sw])
    simp only [ri_ln] at hln
    subst hln
    simp only [ri_rok1, decide_eq_true_eq, Option.map_eq_some_iff] at hr1
    obtain ⟨tp, ht1, ht2⟩ := hr1
    simp only [ri_stp, ri_sel, st_goto] at h
    simp only [Option.some.injEq, Prod.mk.injEq] at h
    obtain ⟨rfl, rfl, rfl, rfl⟩ := h
    exact ri_simple (pc2 := tp) ht1 (fun G hE d mc ms post k n hd1 hk9 hn9 kk => am_goto hd ht2.symm kk)
  case tableswitch df lo hi offs =>
    simp only [ri_rok1, decide_eq_true_eq, Option.map_eq_some_iff, Bool.and_eq_true] at hr1
    obtain ⟨⟨tp, ht1, ht2⟩, ht3⟩ := hr1
    simp only [ri_stp, ri_sel, st_tableswitch] at h
    split at h
    · split at h
      · rename_i hc
        simp only [Option.some.injEq, Prod.mk.injEq] at h
        obtain ⟨rfl, rfl, rfl, rfl⟩ := h
        exact ri_simple (pc2 := tp) ht1 (fun G hE d mc ms post k n hd1 hk9 hn9 kk => am_tblOut hd hc ht2.symm kk)
      · rename_i x st0 hc
        rw [not_or] at hc
        split at h
        · rename_i t htt
          rw [ri_nth_eq] at htt
          simp only [Option.some.injEq, Prod.mk.injEq] at h
          obtain ⟨rfl, rfl, rfl, rfl⟩ := h
          have h9 := congrArg (fun l => l[(x.toInt - lo).toNat]?) ht3
          simp only [List.getElem?_map, htt, Option.map_some] at h9
          have h10 : ∃ off, offs[(x.toInt - lo).toNat]? = some off := by
            cases ho : offs[(x.toInt - lo).toNat]? with
            | none =>
              rw [Array.getElem?_toList (xs := offs), ho] at h9
              simp at h9
            | some off => exact ⟨off, rfl⟩
          obtain ⟨off, ho⟩ := h10
          rw [Array.getElem?_toList (xs := offs), ho] at h9
          simp only [Option.map_some, Option.some.injEq, Option.map_eq_some_iff] at h9
          obtain ⟨tp2, g1, g2⟩ := h9
          exact ri_simple (pc2 := tp2) g1 (fun G hE d mc ms post k n hd1 hk9 hn9 kk => am_tblIn hd hc.1 hc.2 ho g2.symm kk)
        · cases h
    · rename_i b st0
      split at h
      · rename_i l0 h0 hiv
        rw [ri_nth_eq] at hiv
        split at h
        · rename_i hc
          simp only [Option.some.injEq, Prod.mk.injEq] at h
          obtain ⟨rfl, rfl, rfl, rfl⟩ := h
          refine ri_simple (pc2 := tp) ht1 (fun G hE d mc ms post k n hd1 hk9 hn9 kk => am_stc (st2 := .int (am_rho G b.toNat) :: st0) rfl (am_tblOut hd ?_ ht2.symm kk))
          have := hE _ _ _ hiv
          omega
        · cases h
      · cases h
    · cases h
  case getfield idx =>
    replace hnx := hnx.resolve_left (by simp [ri_end])
    replace hln := hln.resolve_left (by simp [ri_sw])
    simp only [ri_ln] at hln
    subst hln
    simp only [ri_rok1] at hr1
    simp only [ri_stp, ri_sel, st_getfield] at h
    split at h
    · split at h
      · rename_i ci fs hL
        split at h
        · cases h
        · rename_i hb
          split at h
          · rename_i hci
            have hci : ci = a := by simpa using hci
            subst hci
            split at h
            · rename_i w hw
              rw [ri_nth_eq] at hw
              simp only [Option.some.injEq, Prod.mk.injEq] at h
              obtain ⟨rfl, rfl, rfl, rfl⟩ := h
              split at hr1
              · rename_i q hq
                simp only [Bool.and_eq_true, decide_eq_true_eq] at hr1
                exact ri_simple hnx (fun G hE d mc ms post k n hd1 hk9 hn9 kk => am_get hd hq hr1.1 (ri_lw_in hr1.2) (ri_lt hb) (ri_h_at hL) hw kk)
              · cases hr1
            · cases h
          · cases h
      · cases h
    · cases h
  case putfield idx =>
    replace hnx := hnx.resolve_left (by simp [ri_end])
    replace hln := hln.resolve_left (by simp [ri_sw])
    simp only [ri_ln] at hln
    subst hln
    simp only [ri_rok1] at hr1
    simp only [ri_stp, ri_sel, st_putfield] at h
    split at h
    · split at h
      · rename_i x a2 st0 xx ci fs hL
        split at h
        · cases h
        · rename_i hbl
          split at h
          · rename_i hci
            simp only [Bool.and_eq_true, Bool.or_eq_true, beq_iff_eq, Nat.beq_eq] at hci
            simp only [Option.some.injEq, Prod.mk.injEq] at h
            obtain ⟨rfl, rfl, rfl, rfl⟩ := h
            obtain ⟨hci0, hv0, hfs⟩ := hci
            subst hci0
            split at hr1
            · rename_i q hq
              simp only [Bool.and_eq_true, decide_eq_true_eq, Bool.or_eq_true, Bool.not_eq_true'] at hr1
              obtain ⟨⟨⟨hj, hlk⟩, hfin⟩, hty⟩ := hr1
              have hfl : b < fs.length := by
                rw [Option.isSome_iff_exists, ri_nth_eq] at hfs
                obtain ⟨z, hz⟩ := hfs
                exact (List.getElem?_eq_some_iff.mp hz).1
              have hnf : ∃ ty, parseFieldDescriptor (q.2.1 b).2.2.1 = some ty ∧ ∀ G : am_G, narrow ty (am_cv G (.int x)) = am_cv G (.int x) ∧ fits ty (am_cv G (.int x)) = true := by
                split at hty
                · rename_i he
                  exact ⟨_, he, fun G => ⟨rfl, rfl⟩⟩
                · rename_i he
                  have hty : v = 1 := by simpa using hty
                  subst hty
                  have hv1 : x = 0 ∨ x = 1 := by simpa using hv0
                  refine ⟨_, he, fun G => ?_⟩
                  rcases hv1 with rfl | rfl
                  · exact ⟨rfl, rfl⟩
                  · exact ⟨rfl, rfl⟩
                · rename_i he
                  have hty : v = 2 := by simpa using hty
                  subst hty
                  simp at hv0
                · rename_i he
                  have hty : v = 2 := by simpa using hty
                  subst hty
                  simp at hv0
                · cases hty
              obtain ⟨ty, hty1, hty2⟩ := hnf
              refine ri_wr hL hnx (fun G d mc ms post k n hd1 kk => ?_)
              rw [ri_upd_eq] at kk
              rcases hfin with hf | hf
              · exact am_put hd hq hj (ri_lw_in hlk) hf hty1 (hty2 G).1 (hty2 G).2 (ri_lt hbl) (ri_h_at hL) hfl kk
              · cases hfb : (q.2.1 b).2.2.2 with
                | false => exact am_put hd hq hj (ri_lw_in hlk) hfb hty1 (hty2 G).1 (hty2 G).2 (ri_lt hbl) (ri_h_at hL) hfl kk
                | true => exact am_putF hd hq hj (ri_lw_in hlk) hfb hf.1 hf.2 hty1 (hty2 G).1 (hty2 G).2 (ri_lt hbl) (ri_h_at hL) hfl kk
            · cases hr1
          · cases h
      · cases h
    · split at h
      · rename_i x a2 st0 xx ci fs hL
        split at h
        · cases h
        · rename_i hbl
          split at h
          · rename_i hci
            simp only [Bool.and_eq_true, Bool.or_eq_true, beq_iff_eq, Nat.beq_eq] at hci
            simp only [Option.some.injEq, Prod.mk.injEq] at h
            obtain ⟨rfl, rfl, rfl, rfl⟩ := h
            obtain ⟨hci0, hv0, hfs⟩ := hci
            subst hci0
            split at hr1
            · rename_i q hq
              simp only [Bool.and_eq_true, decide_eq_true_eq, Bool.or_eq_true, Bool.not_eq_true'] at hr1
              obtain ⟨⟨⟨hj, hlk⟩, hfin⟩, hty⟩ := hr1
              have hfl : b < fs.length := by
                rw [Option.isSome_iff_exists, ri_nth_eq] at hfs
                obtain ⟨z, hz⟩ := hfs
                exact (List.getElem?_eq_some_iff.mp hz).1
              have hnf : ∃ ty, parseFieldDescriptor (q.2.1 b).2.2.1 = some ty ∧ ∀ G : am_G, narrow ty (am_cv G (.ref x)) = am_cv G (.ref x) ∧ fits ty (am_cv G (.ref x)) = true := by
                split at hty
                · rename_i he
                  have hty : v = 0 := by simpa using hty
                  subst hty
                  simp at hv0
                · rename_i he
                  have hty : v = 1 := by simpa using hty
                  subst hty
                  simp at hv0
                · rename_i he
                  exact ⟨_, he, fun G => ⟨rfl, rfl⟩⟩
                · rename_i he
                  exact ⟨_, he, fun G => ⟨rfl, rfl⟩⟩
                · cases hty
              obtain ⟨ty, hty1, hty2⟩ := hnf
              refine ri_wr hL hnx (fun G d mc ms post k n hd1 kk => ?_)
              rw [ri_upd_eq] at kk
              rcases hfin with hf | hf
              · exact am_put hd hq hj (ri_lw_in hlk) hf hty1 (hty2 G).1 (hty2 G).2 (ri_lt hbl) (ri_h_at hL) hfl kk
              · cases hfb : (q.2.1 b).2.2.2 with
                | false => exact am_put hd hq hj (ri_lw_in hlk) hfb hty1 (hty2 G).1 (hty2 G).2 (ri_lt hbl) (ri_h_at hL) hfl kk
                | true => exact am_putF hd hq hj (ri_lw_in hlk) hfb hf.1 hf.2 hty1 (hty2 G).1 (hty2 G).2 (ri_lt hbl) (ri_h_at hL) hfl kk
            · cases hr1
          · cases h
      · cases h
    · cases h
  case iaload  =>
    replace hnx := hnx.resolve_left (by simp [ri_end])
    replace hln := hln.resolve_left (by simp [ri_sw])
    simp only [ri_ln] at hln
    subst hln
    simp only [ri_stp, ri_sel, st_iaload] at h
    split at h
    · split at h
      · rename_i l hL
        split at h
        · cases h
        · rename_i hbl
          split at h
          · cases h
          · rename_i h0
            split at h
            · rename_i x hx
              rw [ri_nth_eq] at hx
              rw [ri_fi_eq] at h
              simp only [Option.some.injEq, Prod.mk.injEq] at h
              obtain ⟨rfl, rfl, rfl, rfl⟩ := h
              have hlt := (List.getElem?_eq_some_iff.mp hx).1
              refine ri_simple hnx (fun G hE d mc ms post k n hd1 hk9 hn9 kk => am_iald hd (ri_lt hbl) (ri_h_at hL) (ri_in h0 hlt) ?_)
              show am_A G d y mc ms post k n _ _ (.int (l.getD _ 0) :: _) _ _
              rw [List.getD_eq_getElem?_getD, hx]
              exact kk
            · cases h
      · cases h
    · split at h
      · cases h
      · rename_i h0
        split at h
        · rename_i h1
          rw [ri_fi_eq] at h
          simp only [Option.some.injEq, Prod.mk.injEq] at h
          obtain ⟨rfl, rfl, rfl, rfl⟩ := h
          exact ri_simple hnx (fun G hE d mc ms post k n hd1 hk9 hn9 kk => am_plald hd (ri_in h0 h1) kk)
        · cases h
    · cases h
  case laload  =>
    replace hnx := hnx.resolve_left (by simp [ri_end])
    replace hln := hln.resolve_left (by simp [ri_sw])
    simp only [ri_ln] at hln
    subst hln
    simp only [ri_stp, ri_sel, st_laload] at h
    split at h
    · split at h
      · rename_i l hL
        split at h
        · cases h
        · rename_i hbl
          split at h
          · cases h
          · rename_i h0
            split at h
            · rename_i x hx
              rw [ri_nth_eq] at hx
              rw [ri_fl_eq] at h
              simp only [Option.some.injEq, Prod.mk.injEq] at h
              obtain ⟨rfl, rfl, rfl, rfl⟩ := h
              have hlt := (List.getElem?_eq_some_iff.mp hx).1
              refine ri_simple hnx (fun G hE d mc ms post k n hd1 hk9 hn9 kk => am_lald hd (ri_lt hbl) (ri_h_at hL) (ri_in h0 hlt) ?_)
              show am_A G d y mc ms post k n _ _ (.long (l.getD _ 0) :: _) _ _
              rw [List.getD_eq_getElem?_getD, hx]
              exact kk
            · cases h
      · cases h
    · cases h
  case aaload  =>
    replace hnx := hnx.resolve_left (by simp [ri_end])
    replace hln := hln.resolve_left (by simp [ri_sw])
    simp only [ri_ln] at hln
    subst hln
    simp only [ri_stp, ri_sel, st_aaload] at h
    split at h
    · split at h
      · rename_i t l hL
        split at h
        · cases h
        · rename_i hbl
          split at h
          · rename_i ht
            simp only [Bool.and_eq_true, Nat.ble_eq] at ht
            split at h
            · cases h
            · rename_i h0
              split at h
              · rename_i x hx
                rw [ri_nth_eq] at hx
                simp only [Option.some.injEq, Prod.mk.injEq] at h
                obtain ⟨rfl, rfl, rfl, rfl⟩ := h
                have hlt := (List.getElem?_eq_some_iff.mp hx).1
                refine ri_simple hnx (fun G hE d mc ms post k n hd1 hk9 hn9 kk => am_aald hd ht.1 (by omega) (ri_lt hbl) (ri_h_at hL) (ri_in h0 hlt) ?_ kk)
                show l.getD _ none = _
                rw [List.getD_eq_getElem?_getD, hx]
                rfl
              · cases h
          · cases h
      · cases h
    · cases h
  case iastore  =>
    replace hnx := hnx.resolve_left (by simp [ri_end])
    replace hln := hln.resolve_left (by simp [ri_sw])
    simp only [ri_ln] at hln
    subst hln
    simp only [ri_stp, ri_sel, st_iastore] at h
    split at h
    · split at h
      · rename_i l hL
        split at h
        · cases h
        · rename_i hbl
          split at h
          · cases h
          · rename_i h0
            split at h
            · rename_i hle
              simp only [Option.some.injEq, Prod.mk.injEq] at h
              obtain ⟨rfl, rfl, rfl, rfl⟩ := h
              have hlt : _ < l.length := ri_le_iff.mp hle
              refine ri_wr hL hnx (fun G d mc ms post k n hd1 kk => am_iast hd (ri_lt hbl) (ri_h_at hL) (ri_in h0 hlt) ?_)
              simp only [ri_e, ri_va, ri_upd_eq, List.length_set, ri_fu_i l _ hlt] at kk
              exact kk
            · cases h
      · cases h
    · cases h
  case lastore  =>
    replace hnx := hnx.resolve_left (by simp [ri_end])
    replace hln := hln.resolve_left (by simp [ri_sw])
    simp only [ri_ln] at hln
    subst hln
    simp only [ri_stp, ri_sel, st_lastore] at h
    split at h
    · split at h
      · rename_i l hL
        split at h
        · cases h
        · rename_i hbl
          split at h
          · cases h
          · rename_i h0
            split at h
            · rename_i hle
              simp only [Option.some.injEq, Prod.mk.injEq] at h
              obtain ⟨rfl, rfl, rfl, rfl⟩ := h
              have hlt : _ < l.length := ri_le_iff.mp hle
              refine ri_wr hL hnx (fun G d mc ms post k n hd1 kk => am_last hd (ri_lt hbl) (ri_h_at hL) (ri_in h0 hlt) ?_)
              simp only [ri_e, ri_va, ri_upd_eq, List.length_set, ri_fu_l l _ hlt] at kk
              exact kk
            · cases h
      · cases h
    · cases h
  case aastore  =>
    replace hnx := hnx.resolve_left (by simp [ri_end])
    replace hln := hln.resolve_left (by simp [ri_sw])
    simp only [ri_ln] at hln
    subst hln
    simp only [ri_stp, ri_sel, st_aastore] at h
    split at h
    · split at h
      · rename_i t l ci vs hL hLb
        split at h
        · cases h
        · rename_i hbl
          rw [Bool.or_eq_true, not_or] at hbl
          split at h
          · rename_i ht
            split at h
            · cases h
            · rename_i h0
              split at h
              · rename_i hle
                simp only [Option.some.injEq, Prod.mk.injEq] at h
                obtain ⟨rfl, rfl, rfl, rfl⟩ := h
                have hlt : _ < l.length := ri_le_iff.mp hle
                have hq : ∀ G : am_G, ∃ q : vw_C, am_cl[ci]? = some q ∧ (am_tys (am_aC G))[t]? = some (am_aC G t, .object q.1) := by
                  intro G
                  simp only [Bool.or_eq_true, Bool.and_eq_true, Nat.beq_eq] at ht
                  rcases ht with ⟨rfl, rfl⟩ | ⟨rfl, rfl⟩ | ⟨rfl, rfl⟩
                  · exact ⟨_, rfl, rfl⟩
                  · exact ⟨_, rfl, rfl⟩
                  · exact ⟨_, rfl, rfl⟩
                refine ri_wr hL hnx (fun G d mc ms post k n hd1 kk => ?_)
                obtain ⟨q, hq1, hq2⟩ := hq G
                refine am_aast hd hq2 hq1 (ri_lt hbl.1) (ri_h_at hL) (ri_lt hbl.2) (ri_h_at hLb) (ri_in h0 hlt) ?_
                simp only [ri_e, ri_va, ri_upd_eq, List.length_set, ri_fu_q l _ hlt] at kk
                exact kk
              · cases h
          · cases h
      · cases h
    · cases h
  case arraylength  =>
    replace hnx := hnx.resolve_left (by simp [ri_end])
    replace hln := hln.resolve_left (by simp [ri_sw])
    simp only [ri_ln] at hln
    subst hln
    simp only [ri_stp, ri_sel, st_arraylength] at h
    split at h
    · split at h
      · rename_i l hL
        split at h
        · cases h
        · rename_i hbl
          rw [ri_fi_eq] at h
          simp only [Option.some.injEq, Prod.mk.injEq] at h
          obtain ⟨rfl, rfl, rfl, rfl⟩ := h
          exact ri_simple hnx (fun G hE d mc ms post k n hd1 hk9 hn9 kk => am_alen (t := 0) hd (by decide) (ri_lt hbl) (ri_h_at hL) kk)
      · cases h
    · simp only [Option.some.injEq, Prod.mk.injEq] at h
      obtain ⟨rfl, rfl, rfl, rfl⟩ := h
      exact ri_simple hnx (fun G hE d mc ms post k n hd1 hk9 hn9 kk => am_plen hd kk)
    · cases h
  case getstatic idx =>
    replace hnx := hnx.resolve_left (by simp [ri_end])
    replace hln := hln.resolve_left (by simp [ri_sw])
    simp only [ri_ln] at hln
    subst hln
    simp only [ri_stp, ri_sel, st_getstatic] at h
    simp only [Option.some.injEq, Prod.mk.injEq] at h
    obtain ⟨rfl, rfl, rfl, rfl⟩ := h
    exact ri_simple hnx (fun G hE d mc ms post k n hd1 hk9 hn9 kk => am_gets hd (ri_lw_in hr1) kk)
  case new idx =>
    replace hnx := hnx.resolve_left (by simp [ri_end])
    replace hln := hln.resolve_left (by simp [ri_sw])
    simp only [ri_ln] at hln
    subst hln
    simp only [ri_rok1] at hr1
    simp only [ri_stp, ri_sel, st_new] at h
    split at h
    · rename_i hg
      simp only [ri_fn_eq] at h
      simp only [Option.some.injEq, Prod.mk.injEq] at h
      obtain ⟨rfl, rfl, rfl, rfl⟩ := h
      split at hr1
      · rename_i q hq
        have hi := am_inst hq
        rw [hi.2.2]
        exact ri_psh hg hnx (fun G d mc ms post k n hd1 h3 h4 kk => am_new hd hq (ri_lw_in hr1) hi.1 hi.2.1 h3 h4 kk)
      · cases hr1
    · cases h
  case newarray aty =>
    replace hnx := hnx.resolve_left (by simp [ri_end])
    replace hln := hln.resolve_left (by simp [ri_sw])
    simp only [ri_ln] at hln
    subst hln
    simp only [ri_stp, ri_sel, st_newarray] at h
    split at h
    · split at h
      · cases h
      · rename_i h0
        split at h
        · rename_i h1
          rw [Bool.and_eq_true, Nat.ble_eq] at h1
          simp only [ri_fn_eq] at h
          simp only [Option.some.injEq, Prod.mk.injEq] at h
          obtain ⟨rfl, rfl, rfl, rfl⟩ := h
          refine ri_psh h1.2 hnx (fun G d mc ms post k n hd1 h3 h4 kk => am_newi hd am_arrI h0 rfl (by omega) h3 h4 ?_)
          simp only [ri_e, ri_va, List.length_replicate, ri_rep_i] at kk
          exact kk
        · cases h
    · split at h
      · cases h
      · rename_i h0
        split at h
        · rename_i h1
          rw [Bool.and_eq_true, Nat.ble_eq] at h1
          simp only [ri_fn_eq] at h
          simp only [Option.some.injEq, Prod.mk.injEq] at h
          obtain ⟨rfl, rfl, rfl, rfl⟩ := h
          refine ri_psh h1.2 hnx (fun G d mc ms post k n hd1 h3 h4 kk => am_newl hd am_arrL h0 rfl (by omega) h3 h4 ?_)
          simp only [ri_e, ri_va, List.length_replicate, ri_rep_l] at kk
          exact kk
        · cases h
    · cases h
  case anewarray idx =>
    replace hnx := hnx.resolve_left (by simp [ri_end])
    replace hln := hln.resolve_left (by simp [ri_sw])
    simp only [ri_ln] at hln
    subst hln
    simp only [ri_rok1] at hr1
    simp only [ri_stp, ri_sel, st_anewarray] at h
    split at h
    · split at h
      · cases h
      · rename_i h0
        split at h
        · rename_i h1
          rw [Bool.and_eq_true, Nat.ble_eq] at h1
          simp only [ri_fn_eq] at h
          simp only [Option.some.injEq, Prod.mk.injEq] at h
          obtain ⟨rfl, rfl, rfl, rfl⟩ := h
          have hq : ∀ G : am_G, ∃ C : String, Cond.classLink y.1.cls idx C ∈ am_tbl ∧ (am_tys (am_aC G))[a]? = some (am_aC G a, .object C) := by
            intro G
            split at hr1
            · exact ⟨_, ri_lw_in hr1, rfl⟩
            · exact ⟨_, ri_lw_in hr1, rfl⟩
            · exact ⟨_, ri_lw_in hr1, rfl⟩
            · cases hr1
          refine ri_psh h1.2 hnx (fun G d mc ms post k n hd1 h3 h4 kk => ?_)
          obtain ⟨C, hc1, hc2⟩ := hq G
          refine am_newq hd hc2 hc1 h0 rfl (by omega) h3 h4 ?_
          simp only [ri_e, ri_va, List.length_replicate, ri_rep_q] at kk
          exact kk
        · cases h
    · cases h
end
section
noncomputable section
/-! ===== the runnable machine with calls ===== -/
abbrev ri_mi : Type := am_M × Nat × Nat × List ri_row
abbrev ri_V : Type := Option (Option Value × ri_L)
def ri_cat (st : List Value) : Nat := (st.map fun v => v.category).sum
def ri_mth (b : Nat) (st : List Value) : Option (Int32 × List Value) := match st with
  | .int z :: .int x :: st => if b == 3 then some (if x < z then z else x, st) else if b == 4 then some (if z < x then z else x, st) else if b == 5 then some (if 0 ≤ z then z else 0 - z, .int x :: st) else none
  | .int z :: st => if b == 5 then some (if 0 ≤ z then z else 0 - z, st) else none
  | _ => none
abbrev ri_K : Type := List ri_row → List Value → List Value → ri_L → ri_V
abbrev ri_Cl : Type := Nat → List Value → ri_L → ri_V
def gs_ireturn (E : ri_Env) (M : Nat → ri_mi) (callee : ri_Cl) (tb : List ri_row) (ih : ri_K) (r : ri_row) (nx : List ri_row) (lv st : List Value) (L : ri_L) : ri_V := match st with
  | [.int v] => if r.2.2.2.2.1 == 0 || (v == 0 || v == 1) then some (some (.int v), L) else none
  | _ => none
def gs_lreturn (E : ri_Env) (M : Nat → ri_mi) (callee : ri_Cl) (tb : List ri_row) (ih : ri_K) (r : ri_row) (nx : List ri_row) (lv st : List Value) (L : ri_L) : ri_V := match st with
  | [.long v] => some (some (.long v), L)
  | _ => none
def gs_return (E : ri_Env) (M : Nat → ri_mi) (callee : ri_Cl) (tb : List ri_row) (ih : ri_K) (r : ri_row) (nx : List ri_row) (lv st : List Value) (L : ri_L) : ri_V := match st with
  | [] => some (none, L)
  | _ => none
def gs_virtual (E : ri_Env) (M : Nat → ri_mi) (callee : ri_Cl) (tb : List ri_row) (ih : ri_K) (r : ri_row) (nx : List ri_row) (lv st : List Value) (L : ri_L) : ri_V := match st.drop (M r.2.2.2.1).2.1 with
  | .ref a :: rest => match ri_get L.2.2 a with
    | some (.inr (ci, _)) => if Nat.ble L.1 a then none else if Nat.beq ci r.2.2.2.2.1 && Nat.ble (ri_cat rest) 8 then match callee r.2.2.2.1 (.ref a :: (st.take (M r.2.2.2.1).2.1).reverse) L with
        | some (v, L2) => ih nx lv (v.toList ++ rest) L2
        | none => none
      else none
    | _ => none
  | _ => none
def gs_copy (ih : ri_K) (nx : List ri_row) (lv st : List Value) (L : ri_L) : ri_V := match st with
  | .int x :: .int dp :: .ref b :: .int sp :: .ref a :: st => match ri_get L.2.2 a, ri_get L.2.2 b with
    | some (.inl (0, .inl l1)), some (.inl (0, .inl l2)) => if Nat.ble L.1 a || Nat.ble L.1 b then none else if sp < 0 || dp < 0 || x < 0 then none else if ri_le (sp.toNatClampNeg + x.toNatClampNeg) l1 && ri_le (dp.toNatClampNeg + x.toNatClampNeg) l2 && Nat.ble (ri_cat st) 20 then ih nx lv st (L.1, L.2.1, ri_put L.2.2 b (.inl (0, .inl (ri_cpy l1 l2 sp.toNatClampNeg dp.toNatClampNeg x.toNatClampNeg)))) else none
    | _, _ => none
  | _ => none
def gs_static (E : ri_Env) (M : Nat → ri_mi) (callee : ri_Cl) (tb : List ri_row) (ih : ri_K) (r : ri_row) (nx : List ri_row) (lv st : List Value) (L : ri_L) : ri_V := if r.2.2.2.2.1 == 2 then gs_copy ih nx lv st L
  else if Nat.ble 3 r.2.2.2.2.1 then match ri_mth r.2.2.2.2.1 st with
    | some (x, st) => if Nat.ble (ri_cat st) 20 then ri_fi x (fun x => ih nx lv (.int x :: st) L) else none
    | none => none
  else if ri_le (M r.2.2.2.1).2.1 st && Nat.ble (ri_cat (st.drop (M r.2.2.2.1).2.1)) 8 then match callee r.2.2.2.1 ((st.take (M r.2.2.2.1).2.1).reverse) L with
    | some (v, L2) => ih nx lv (v.toList ++ st.drop (M r.2.2.2.1).2.1) L2
    | none => none
  else none
def gs_special (E : ri_Env) (M : Nat → ri_mi) (callee : ri_Cl) (tb : List ri_row) (ih : ri_K) (r : ri_row) (nx : List ri_row) (lv st : List Value) (L : ri_L) : ri_V := if r.2.2.2.2.1 == 1 then match st with
    | .ref a :: st => if Nat.ble (ri_cat st) 20 then ih nx lv st L else none
    | _ => none
  else match st.drop (M r.2.2.2.1).2.1 with
  | .ref a :: rest => if Nat.ble (ri_cat rest) 8 then match callee r.2.2.2.1 (.ref a :: (st.take (M r.2.2.2.1).2.1).reverse) L with
      | some (v, L2) => ih nx lv (v.toList ++ rest) L2
      | none => none
    else none
  | _ => none
def gs_other (E : ri_Env) (M : Nat → ri_mi) (callee : ri_Cl) (tb : List ri_row) (ih : ri_K) (r : ri_row) (nx : List ri_row) (lv st : List Value) (L : ri_L) : ri_V := match ri_sel r.2.1 E r lv st L with
  | some (none, lv, st, L) => ih nx lv st L
  | some (some t, lv, st, L) => ih (tb.drop t) lv st L
  | none => none
def ri_gsel (ins : Instr) : ri_Env → (Nat → ri_mi) → ri_Cl → List ri_row → ri_K → ri_row → List ri_row → List Value → List Value → ri_L → ri_V := match ins with
  | .ireturn => gs_ireturn
  | .lreturn => gs_lreturn
  | .return_ => gs_return
  | .invokevirtual _ => gs_virtual
  | .invokestatic _ => gs_static
  | .invokespecial _ => gs_special
  | _ => gs_other
def ri_go1 (E : ri_Env) (M : Nat → ri_mi) (callee : ri_Cl) (tb : List ri_row) (ih : ri_K) : ri_K := fun cur lv st L => match cur with
  | [] => none
  | r :: nx => ri_gsel r.2.1 E M callee tb ih r nx lv st L
def ri_go (E : ri_Env) (M : Nat → ri_mi) (callee : Nat → List Value → ri_L → ri_V) (tb : List ri_row) (f : Nat) : List ri_row → List Value → List Value → ri_L → ri_V :=
  Nat.rec (motive := fun _ => ri_K) (fun _ _ _ _ => none) (fun _ ih => ri_go1 E M callee tb ih) f
/-- the locals at a method's entry -/
def ri_ls (as : List Value) : List Value := List.rec (motive := fun _ => List Value) [] (fun v _ ih => if ri_c2 v then v :: .null :: ih else v :: ih) as
def ri_D (E : ri_Env) (M : Nat → ri_mi) (F : Nat) (d : Nat) : Nat → List Value → ri_L → ri_V :=
  Nat.rec (motive := fun _ => Nat → List Value → ri_L → ri_V) (fun _ _ _ => none) (fun _ ih j as L => if Nat.ble (ri_ls as).length (M j).1.2.2.1 then ri_go E M ih (M j).2.2.2 F (M j).2.2.2 (ri_ls as ++ List.replicate ((M j).1.2.2.1 - (ri_ls as).length) .null) [] L else none) d
def ri_rokI (M : Nat → ri_mi) (y : am_M) (r : ri_row) : Bool := match r.2.1 with
  | .invokevirtual idx => (M r.2.2.2.1).2.2.1 == 1 && (ri_lw r.2.2.2.2.2.1 (.methodLink y.1.cls idx (M r.2.2.2.1).1.1) && decide ((am_cl[r.2.2.2.2.1]?).map (fun q => q.1) = some (M r.2.2.2.1).1.1.cls))
  | .invokestatic idx => if r.2.2.2.2.1 == 2 then ri_lw r.2.2.2.2.2.1 (.methodLink y.1.cls idx arraycopyName) else if Nat.ble 3 r.2.2.2.2.1 then (if r.2.2.2.2.1 == 3 then ri_lw r.2.2.2.2.2.1 (.methodLink y.1.cls idx Lib.Math.max.name) else if r.2.2.2.2.1 == 4 then ri_lw r.2.2.2.2.2.1 (.methodLink y.1.cls idx Lib.Math.min.name) else r.2.2.2.2.1 == 5 && ri_lw r.2.2.2.2.2.1 (.methodLink y.1.cls idx Lib.Math.abs.name)) else (M r.2.2.2.1).2.2.1 == 0 && ri_lw r.2.2.2.2.2.1 (.methodLink y.1.cls idx (M r.2.2.2.1).1.1)
  | .invokespecial idx => if r.2.2.2.2.1 == 1 then ri_lw r.2.2.2.2.2.1 (.methodLink y.1.cls idx objectInit) else (M r.2.2.2.1).2.2.1 == 2 && ri_lw r.2.2.2.2.2.1 (.methodLink y.1.cls idx (M r.2.2.2.1).1.1)
  | _ => true
def ri_okj (M : Nat → ri_mi) (j : Nat) : Prop := am_okM (M j).1 (M j).2.1 ∧ ((M j).2.2.1 = 0 → Cond.static (M j).1.1 ∈ am_tbl) ∧ ((M j).2.2.1 = 1 → Cond.instanceMethod (M j).1.1 ∈ am_tbl ∧ Cond.selects (M j).1.1.cls (M j).1.1 (M j).1.1 ∈ am_tbl) ∧ ((M j).2.2.1 = 2 → Cond.instanceMethod (M j).1.1 ∈ am_tbl ∧ (M j).1.1.name = "<init>" ∧ (M j).1.2.2.2 = none) ∧
  (∀ i r, (M j).2.2.2[i]? = some r → ri_rok (M j).1 ((M j).2.2.2.map (fun r => r.1)) i r = true ∧ ri_rokI M (M j).1 r = true) ∧ ((M j).2.2.2.map (fun r => r.1))[0]? = some 0
theorem am_iniM : Cond.initialized "java/lang/Math" ∈ am_tbl := by decide +kernel
section
variable {G : am_G} {d : Nat} {y : am_M} {mc ms : Nat} {post : am_T} {k n pc N : Nat} {lv lv' : List (Nat × Value)} {st : List Value} {h : am_H}
theorem am_st_max : Cond.static Lib.Math.max.name ∈ am_tbl := by decide +kernel
theorem am_cd_max : Cond.code Lib.Math.max.name Lib.Math.max.code 2 (some .int) ∈ am_tbl := by decide +kernel
theorem am_mmax {x z : Int32} {idx : Nat} (hd : decode y.2.1 pc = .ok (.invokestatic idx, 3)) (hlk : Cond.methodLink y.1.cls idx Lib.Math.max.name ∈ am_tbl) (hdd : 1 ≤ d) (hk : k ≤ mc) (hn : n ≤ ms) (hrest : (st.map fun v => v.category).sum ≤ 20) (kk : am_A G d y mc ms post k n (pc + 3) lv (.int (if x < z then z else x) :: st) N h) : am_A G d y mc ms post k n pc lv (.int z :: .int x :: st) N h := by
  intro p e s m args below meth c H locs ls X hW hlo hl
  have hx := X.1
  have hb := X.2.1
  have hown := X.2.2.2.2.1
  have hts := X.2.2.2.2.2.1
  have hK := X.2.2.2.2.2.2.2.2
  exact va_mmax hx hb (X.2.2.2.1.trans hl.1.symm) hown (hts _ hlk) (hts _ am_st_max) (hts _ am_iniM) (hts _ am_cd_max) hdd (by
    show ((st.map (am_cv G)).map fun v => v.category).sum + 13 ≤ 100 * d
    rw [am_catS]; omega) hk hn hd (kk p e s m args below meth c H locs ls X hW hlo hl)
theorem am_st_min : Cond.static Lib.Math.min.name ∈ am_tbl := by decide +kernel
theorem am_cd_min : Cond.code Lib.Math.min.name Lib.Math.min.code 2 (some .int) ∈ am_tbl := by decide +kernel
theorem am_mmin {x z : Int32} {idx : Nat} (hd : decode y.2.1 pc = .ok (.invokestatic idx, 3)) (hlk : Cond.methodLink y.1.cls idx Lib.Math.min.name ∈ am_tbl) (hdd : 1 ≤ d) (hk : k ≤ mc) (hn : n ≤ ms) (hrest : (st.map fun v => v.category).sum ≤ 20) (kk : am_A G d y mc ms post k n (pc + 3) lv (.int (if z < x then z else x) :: st) N h) : am_A G d y mc ms post k n pc lv (.int z :: .int x :: st) N h := by
  intro p e s m args below meth c H locs ls X hW hlo hl
  have hx := X.1
  have hb := X.2.1
  have hown := X.2.2.2.2.1
  have hts := X.2.2.2.2.2.1
  have hK := X.2.2.2.2.2.2.2.2
  exact va_mmin hx hb (X.2.2.2.1.trans hl.1.symm) hown (hts _ hlk) (hts _ am_st_min) (hts _ am_iniM) (hts _ am_cd_min) hdd (by
    show ((st.map (am_cv G)).map fun v => v.category).sum + 13 ≤ 100 * d
    rw [am_catS]; omega) hk hn hd (kk p e s m args below meth c H locs ls X hW hlo hl)
theorem am_st_abs : Cond.static Lib.Math.abs.name ∈ am_tbl := by decide +kernel
theorem am_cd_abs : Cond.code Lib.Math.abs.name Lib.Math.abs.code 1 (some .int) ∈ am_tbl := by decide +kernel
theorem am_mabs {x : Int32} {idx : Nat} (hd : decode y.2.1 pc = .ok (.invokestatic idx, 3)) (hlk : Cond.methodLink y.1.cls idx Lib.Math.abs.name ∈ am_tbl) (hdd : 1 ≤ d) (hk : k ≤ mc) (hn : n ≤ ms) (hrest : (st.map fun v => v.category).sum ≤ 20) (kk : am_A G d y mc ms post k n (pc + 3) lv (.int (if 0 ≤ x then x else 0 - x) :: st) N h) : am_A G d y mc ms post k n pc lv (.int x :: st) N h := by
  intro p e s m args below meth c H locs ls X hW hlo hl
  have hx := X.1
  have hb := X.2.1
  have hown := X.2.2.2.2.1
  have hts := X.2.2.2.2.2.1
  have hK := X.2.2.2.2.2.2.2.2
  exact va_mabs hx hb (X.2.2.2.1.trans hl.1.symm) hown (hts _ hlk) (hts _ am_st_abs) (hts _ am_iniM) (hts _ am_cd_abs) hdd (by
    show ((st.map (am_cv G)).map fun v => v.category).sum + 13 ≤ 100 * d
    rw [am_catS]; omega) hk hn hd (kk p e s m args below meth c H locs ls X hW hlo hl)
end
theorem am_natC : Cond.native arraycopyName ∈ am_tbl := by decide +kernel
theorem am_staC : Cond.static arraycopyName ∈ am_tbl := by decide +kernel
theorem am_iniC : Cond.initialized "java/lang/System" ∈ am_tbl := by decide +kernel
theorem am_objI : Cond.instanceMethod objectInit ∈ am_tbl := by decide +kernel
theorem am_objC : Cond.code objectInit ⟨#[0xb1]⟩ 1 none ∈ am_tbl := by decide +kernel
def ri_post (r : Option Value) (L : ri_L) : am_T := fun r' N' h' => r' = r ∧ N' = L.1 ∧ h' = ri_h L
def ri_Cok (E : ri_Env) (M : Nat → ri_mi) (d : Nat) (callee : Nat → List Value → ri_L → ri_V) : Prop := ∀ j as L r L', callee j as L = some (r, L') → L.1 ≤ L'.1 ∧ L.2.1 ≤ L'.2.1 ∧ ∀ G : am_G, am_Env G E → am_C G d (M j).1 (L'.1 - L.1) (L'.2.1 - L.2.1) as L.1 (ri_h L) (ri_post r L')
theorem ri_drop {α : Type} {l : List α} {i : Nat} {x : α} {t : List α} (h : l.drop i = x :: t) : l[i]? = some x ∧ t = l.drop (i + 1) := by
  refine ⟨?_, ?_⟩
  · have := congrArg (fun l => l[0]?) h
    simpa using this
  · have := congrArg List.tail h
    simpa using this.symm
theorem ri_row_at {tb : List ri_row} {i pc : Nat} (h : (tb.map (fun r => r.1))[i]? = some pc) : ∃ r, tb[i]? = some r ∧ r.1 = pc := by
  rw [List.getElem?_map] at h
  cases hr : tb[i]? with
  | none => rw [hr] at h; cases h
  | some r => rw [hr] at h; exact ⟨r, rfl, by simpa using h⟩
/-- what a run of a rest of a method says -/
def ri_Gok (E : ri_Env) (y : am_M) (tb : List ri_row) (d i : Nat) (lv : List Value) (st : List Value) (L : ri_L) (r : Option Value) (L' : ri_L) : Prop :=
  L.1 ≤ L'.1 ∧ L.2.1 ≤ L'.2.1 ∧ ∀ (G : am_G), am_Env G E → ∀ (mc ms : Nat) (post : am_T) (k n : Nat) (row : ri_row), tb[i]? = some row → k + (L'.1 - L.1) ≤ mc → n + (L'.2.1 - L.2.1) ≤ ms → post r L'.1 (ri_h L') → am_A G (d + 1) y mc ms post k n row.1 (ri_lv lv) st L.1 (ri_h L)
end
end
section
noncomputable section
theorem ri_go_nil {E : ri_Env} {M : Nat → ri_mi} {callee : Nat → List Value → ri_L → ri_V} {tb : List ri_row} {f : Nat} {lv : List Value} {st : List Value} {L : ri_L} : ri_go E M callee tb f [] lv st L = none := by cases f <;> rfl
theorem ri_go_row {E : ri_Env} {M : Nat → ri_mi} {callee : Nat → List Value → ri_L → ri_V} {tb : List ri_row} {f i : Nat} {lv : List Value} {st : List Value} {L : ri_L} {v : Option Value × ri_L} (h : ri_go E M callee tb f (tb.drop i) lv st L = some v) : ∃ r, tb[i]? = some r := by
  cases hc : tb.drop i with
  | nil => rw [hc, ri_go_nil] at h; cases h
  | cons x t => exact ⟨x, (ri_drop hc).1⟩
theorem ri_seq {E : ri_Env} {y : am_M} {tb : List ri_row} {d i i2 : Nat} {lv lv1 : List Value} {st st1 : List Value} {L L1 L' : ri_L} {jt : Option Nat} {r : Option Value} {row row2 : ri_row} (hrow : tb[i]? = some row) (h1 : ri_Ok E y (tb.map (fun r => r.1)) i row.1 lv st L jt lv1 st1 L1) (hi2 : i2 = jt.getD (i + 1)) (hrow2 : tb[i2]? = some row2) (h2 : ri_Gok E y tb d i2 lv1 st1 L1 r L') : ri_Gok E y tb d i lv st L r L' := by
  obtain ⟨a1, a2, a3⟩ := h1
  obtain ⟨b1, b2, b3⟩ := h2
  refine ⟨Nat.le_trans a1 b1, Nat.le_trans a2 b2, fun G hE mc ms post k n row' hr' hk hn hp => ?_⟩
  cases hrow.symm.trans hr'
  refine a3 G hE (d + 1) mc ms post k n row2.1 ?_ (Nat.le_add_left 1 d) (by omega) (by omega) (b3 G hE mc ms post _ _ row2 hrow2 (by omega) (by omega) hp)
  subst hi2
  cases jt with
  | none =>
    have h9 : tb[i + 1]? = some row2 := hrow2
    show (tb.map (fun r => r.1))[i + 1]? = some row2.1
    rw [List.getElem?_map, h9]
    rfl
  | some t =>
    have h9 : tb[t]? = some row2 := hrow2
    show (tb.map (fun r => r.1))[t]? = some row2.1
    rw [List.getElem?_map, h9]
    rfl
section
variable {E : ri_Env} {M : Nat → ri_mi} {callee : Nat → List Value → ri_L → ri_V} {y : am_M} {tb : List ri_row} {f d i : Nat} {lv : List Value} {st : List Value} {L L' : ri_L} {r : Option Value} {row : ri_row}
theorem ri_go_dflt (hrow : tb[i]? = some row) (hok : ri_rok y (tb.map (fun r => r.1)) i row = true) (ih : ∀ (i : Nat) (lv : List Value) (st : List Value) (L : ri_L) (r : Option Value) (L' : ri_L), ri_go E M callee tb f (tb.drop i) lv st L = some (r, L') → ri_Gok E y tb d i lv st L r L')
    (h : (match ri_stp E row lv st L with
        | some (none, lv, st, L) => ri_go E M callee tb f (tb.drop (i + 1)) lv st L
        | some (some t, lv, st, L) => ri_go E M callee tb f (tb.drop t) lv st L
        | none => none) = some (r, L')) : ri_Gok E y tb d i lv st L r L' := by
  split at h
  · rename_i lv1 st1 L1 hs
    obtain ⟨row2, hr2⟩ := ri_go_row h
    exact ri_seq hrow (ri_stp_ok hok hs) rfl hr2 (ih _ _ _ _ _ _ h)
  · rename_i t lv1 st1 L1 hs
    obtain ⟨row2, hr2⟩ := ri_go_row h
    exact ri_seq hrow (ri_stp_ok hok hs) rfl hr2 (ih _ _ _ _ _ _ h)
  · cases h
/-- a call, then the rest -/
theorem ri_go_call {L2 : ri_L} {v : Option Value} {rest : List Value} {row2 : ri_row} (hrow : tb[i]? = some row) (hr2 : tb[i + 1]? = some row2) (a1 : L.1 ≤ L2.1) (a2 : L.2.1 ≤ L2.2.1) (h2 : ri_Gok E y tb d (i + 1) lv (v.toList ++ rest) L2 r L')
    (kk : ∀ (G : am_G), am_Env G E → ∀ (mc ms : Nat) (post : am_T) (k n : Nat), k + (L2.1 - L.1) ≤ mc → n + (L2.2.1 - L.2.1) ≤ ms → (∀ (r' : Option Value) (N' : Nat) (h' : am_H), ri_post v L2 r' N' h' → am_A G (d + 1) y mc ms post (k + (L2.1 - L.1)) (n + (L2.2.1 - L.2.1)) row2.1 (ri_lv lv) (r'.toList ++ rest) N' h') → am_A G (d + 1) y mc ms post k n row.1 (ri_lv lv) st L.1 (ri_h L)) : ri_Gok E y tb d i lv st L r L' := by
  obtain ⟨b1, b2, b3⟩ := h2
  refine ⟨Nat.le_trans a1 b1, Nat.le_trans a2 b2, fun G hE mc ms post k n row' hr' hk hn hp => ?_⟩
  cases hrow.symm.trans hr'
  refine kk G hE mc ms post k n (by omega) (by omega) (fun r' N' h' hq => ?_)
  obtain ⟨rfl, rfl, rfl⟩ := hq
  exact b3 G hE mc ms post _ _ row2 hr2 (by omega) (by omega) hp
end
theorem ri_take {st rest : List Value} {n : Nat} {x : Value} (h : st.drop n = x :: rest) : st = ((st.take n).reverse).reverse ++ x :: rest ∧ ((st.take n).reverse).length = n := by
  have hl : n < st.length := by
    rcases Nat.lt_or_ge n st.length with q | q
    · exact q
    · rw [List.drop_eq_nil_of_le q] at h; cases h
  refine ⟨?_, ?_⟩
  · rw [List.reverse_reverse, ← h, List.take_append_drop]
  · simp; omega
set_option maxHeartbeats 8000000 in
theorem ri_go_ok {E : ri_Env} {M : Nat → ri_mi} (hM : ∀ j, ri_okj M j) {d : Nat} {callee : Nat → List Value → ri_L → ri_V} (hc : ri_Cok E M d callee) (j : Nat) : ∀ (f i : Nat) (lv : List Value) (st : List Value) (L : ri_L) (r : Option Value) (L' : ri_L), ri_go E M callee (M j).2.2.2 f ((M j).2.2.2.drop i) lv st L = some (r, L') → ri_Gok E (M j).1 (M j).2.2.2 d i lv st L r L' := by
  intro f
  induction f with
  | zero => intro i lv st L r L' h; cases h
  | succ f ih =>
    intro i lv st L r L' h
    obtain ⟨row, hrow⟩ := ri_go_row h
    have hcur : (M j).2.2.2.drop i = row :: (M j).2.2.2.drop (i + 1) := by
      have hl : i < (M j).2.2.2.length := (List.getElem?_eq_some_iff.mp hrow).1
      rw [List.drop_eq_getElem_cons hl]
      congr 1
      exact (List.getElem?_eq_some_iff.mp hrow).2
    rw [hcur] at h
    obtain ⟨hok, hokI⟩ := (hM j).2.2.2.2.1 i row hrow
    have hok0 := hok
    unfold ri_rok at hok0
    simp only [Bool.and_eq_true, decide_eq_true_eq, Bool.or_eq_true, beq_iff_eq] at hok0
    obtain ⟨hd, -, hnx, hln, hr1⟩ := hok0
    obtain ⟨pc, ins, len, a, b, pl, v, ts⟩ := row
    dsimp only at hd hnx hln
    cases ins
    case ireturn =>
      replace hln := hln.resolve_left (by simp [ri_sw])
      simp only [ri_ln] at hln
      subst hln
      change (match (generalizing := false) st with
        | [.int v] => if b == 0 || (v == 0 || v == 1) then some (some (Value.int v), L) else none
        | _ => none) = some (r, L') at h
      split at h
      · rename_i x
        split at h
        · rename_i hb
          simp only [Option.some.injEq, Prod.mk.injEq] at h
          obtain ⟨rfl, rfl⟩ := h
          refine ⟨Nat.le_refl _, Nat.le_refl _, fun G hE mc ms post k n row' hr' hk hn hp => ?_⟩
          cases hrow.symm.trans hr'
          have hty : ∃ ty, (M j).1.2.2.2 = some ty ∧ narrow ty (.int x) = .int x := by
            simp only [ri_rok1] at hr1
            split at hr1
            · rename_i he
              exact ⟨_, he, rfl⟩
            · rename_i he
              have hb1 : b = 1 := by simpa using hr1
              subst hb1
              have hx : x = 0 ∨ x = 1 := by simpa using hb
              refine ⟨_, he, ?_⟩
              rcases hx with rfl | rfl
              · rfl
              · rfl
            · cases hr1
          obtain ⟨ty, ht1, ht2⟩ := hty
          exact am_iret hd ht1 ht2 (by omega) (by omega) hp
        · cases h
      · cases h
    case lreturn =>
      replace hln := hln.resolve_left (by simp [ri_sw])
      simp only [ri_ln] at hln
      subst hln
      change (match (generalizing := false) st with
        | [.long v] => some (some (Value.long v), L)
        | _ => none) = some (r, L') at h
      split at h
      · simp only [Option.some.injEq, Prod.mk.injEq] at h
        obtain ⟨rfl, rfl⟩ := h
        refine ⟨Nat.le_refl _, Nat.le_refl _, fun G hE mc ms post k n row' hr' hk hn hp => ?_⟩
        cases hrow.symm.trans hr'
        simp only [ri_rok1, decide_eq_true_eq] at hr1
        exact am_lret hd hr1 (by omega) (by omega) hp
      · cases h
    case return_ =>
      replace hln := hln.resolve_left (by simp [ri_sw])
      simp only [ri_ln] at hln
      subst hln
      change (match (generalizing := false) st with
        | [] => some (none, L)
        | _ => none) = some (r, L') at h
      split at h
      · simp only [Option.some.injEq, Prod.mk.injEq] at h
        obtain ⟨rfl, rfl⟩ := h
        refine ⟨Nat.le_refl _, Nat.le_refl _, fun G hE mc ms post k n row' hr' hk hn hp => ?_⟩
        cases hrow.symm.trans hr'
        simp only [ri_rok1, decide_eq_true_eq] at hr1
        exact am_vret hd hr1 (by omega) (by omega) hp
      · cases h
    case invokevirtual idx =>
      replace hln := hln.resolve_left (by simp [ri_sw])
      simp only [ri_ln] at hln
      subst hln
      replace hnx := hnx.resolve_left (by simp [ri_end])
      have hpc : ∀ row2 : ri_row, (M j).2.2.2[i + 1]? = some row2 → row2.1 = pc + 3 := fun row2 h2 => by
        rw [List.getElem?_map, h2] at hnx
        simpa using hnx
      change (match st.drop (M a).2.1 with
        | .ref a0 :: rest => match ri_get L.2.2 a0 with
          | some (.inr (ci, _)) => if Nat.ble L.1 a0 then none else if Nat.beq ci b && Nat.ble (ri_cat rest) 8 then match callee a (.ref a0 :: (st.take (M a).2.1).reverse) L with
              | some (v, L2) => ri_go E M callee (M j).2.2.2 f ((M j).2.2.2.drop (i + 1)) lv (v.toList ++ rest) L2
              | none => none
            else none
          | _ => none
        | _ => none) = some (r, L') at h
      split at h
      · rename_i a0 rest hdr
        split at h
        · rename_i ci fs hL
          split at h
          · cases h
          rename_i hbl
          split at h
          · rename_i hcc
            simp only [Bool.and_eq_true, Nat.beq_eq, Nat.ble_eq] at hcc
            split at h
            · rename_i v2 L2 hcal
              obtain ⟨row2, hr2⟩ := ri_go_row h
              obtain ⟨c1, c2, c3⟩ := hc _ _ _ _ _ hcal
              obtain ⟨hs1, hs2⟩ := ri_take hdr
              simp only [ri_rokI, Bool.and_eq_true, beq_iff_eq, decide_eq_true_eq, Option.map_eq_some_iff] at hokI
              obtain ⟨hk1, hk2, q, hq1, hq2⟩ := hokI
              obtain ⟨w1, w2⟩ := (hM a).2.2.1 hk1
              refine ri_go_call hrow hr2 c1 c2 (ih _ _ _ _ _ _ h) (fun G hE mc ms post k n g1 g2 g3 => ?_)
              rw [hpc row2 hr2] at g3
              exact am_callV hd (hM a).1 (ri_lw_in hk2) w1 w2 (by rw [hcc.1]; exact hq1) hq2 (ri_lt hbl) (ri_h_at hL) hs1 hs2 hcc.2 (Nat.le_refl _) g1 g2 (c3 G hE) g3
            · cases h
          · cases h
        · cases h
      · cases h
    case invokestatic idx =>
      replace hln := hln.resolve_left (by simp [ri_sw])
      simp only [ri_ln] at hln
      subst hln
      replace hnx := hnx.resolve_left (by simp [ri_end])
      have hpc : ∀ row2 : ri_row, (M j).2.2.2[i + 1]? = some row2 → row2.1 = pc + 3 := fun row2 h2 => by
        rw [List.getElem?_map, h2] at hnx
        simpa using hnx
      change (if b == 2 then match (generalizing := false) st with
          | .int x :: .int dp :: .ref b0 :: .int sp :: .ref a0 :: st => match ri_get L.2.2 a0, ri_get L.2.2 b0 with
            | some (.inl (0, .inl l1)), some (.inl (0, .inl l2)) => if Nat.ble L.1 a0 || Nat.ble L.1 b0 then none else if sp < 0 || dp < 0 || x < 0 then none else if ri_le (sp.toNatClampNeg + x.toNatClampNeg) l1 && ri_le (dp.toNatClampNeg + x.toNatClampNeg) l2 && Nat.ble (ri_cat st) 20 then ri_go E M callee (M j).2.2.2 f ((M j).2.2.2.drop (i + 1)) lv st (L.1, L.2.1, ri_put L.2.2 b0 (.inl (0, .inl (ri_cpy l1 l2 sp.toNatClampNeg dp.toNatClampNeg x.toNatClampNeg)))) else none
            | _, _ => none
          | _ => none
        else if Nat.ble 3 b then match ri_mth b st with
          | some (x, st) => if Nat.ble (ri_cat st) 20 then ri_fi x (fun x => ri_go E M callee (M j).2.2.2 f ((M j).2.2.2.drop (i + 1)) lv (.int x :: st) L) else none
          | none => none
        else if ri_le (M a).2.1 st && Nat.ble (ri_cat (st.drop (M a).2.1)) 8 then match callee a ((st.take (M a).2.1).reverse) L with
          | some (v, L2) => ri_go E M callee (M j).2.2.2 f ((M j).2.2.2.drop (i + 1)) lv (v.toList ++ st.drop (M a).2.1) L2
          | none => none
        else none) = some (r, L') at h
      split at h
      · rename_i hb2
        simp only [ri_rokI, hb2, if_true] at hokI
        split at h
        · rename_i x dp b0 sp a0 st0
          split at h
          · rename_i l1 l2 hL1 hL2
            split at h
            · cases h
            rename_i hbl
            rw [Bool.or_eq_true, not_or] at hbl
            split at h
            · cases h
            · rename_i hneg
              split at h
              · rename_i hcc
                simp only [Bool.and_eq_true, Nat.ble_eq, ri_le_iff] at hcc
                simp only [Bool.or_eq_true, decide_eq_true_eq, not_or] at hneg
                obtain ⟨row2, hr2⟩ := ri_go_row h
                refine ri_seq (jt := none) hrow (ri_wr hL2 hnx (fun G d' mc ms post k n hd1 kk => am_copy hd (ri_lw_in hokI) am_natC am_staC am_iniC (ri_lt hbl.1) (ri_h_at hL1) (ri_lt hbl.2) (ri_h_at hL2) hneg.1.1 hneg.1.2 hneg.2 hcc.1.1 hcc.1.2 hd1 hcc.2 ?_)) rfl hr2 (ih _ _ _ _ _ _ h)
                simp only [ri_e, ri_va, ri_cpy_len hcc.1.1 hcc.1.2, ri_cpy_eq hcc.1.1 hcc.1.2] at kk
                exact kk
              · cases h
          · cases h
        · cases h
      · rename_i hb2
        split at h
        · rename_i hb3
          simp only [ri_rokI] at hokI
          rw [if_neg hb2, if_pos hb3] at hokI
          split at h
          · rename_i x st1 hm
            split at h
            · rename_i hcc
              rw [Nat.ble_eq] at hcc
              rw [ri_fi_eq] at h
              obtain ⟨row2, hr2⟩ := ri_go_row h
              refine ri_seq (jt := none) hrow (ri_simple hnx (fun G hE d' mc ms post k n hd1 hk hn kk => ?_)) rfl hr2 (ih _ _ _ _ _ _ h)
              unfold ri_mth at hm
              split at hm
              · split at hm
                · rename_i hb
                  rw [if_pos hb] at hokI
                  obtain ⟨rfl, rfl⟩ : _ ∧ _ := by simpa using hm
                  exact am_mmax hd (ri_lw_in hokI) hd1 hk hn hcc kk
                · rename_i hb
                  rw [if_neg hb] at hokI
                  split at hm
                  · rename_i hb4
                    rw [if_pos hb4] at hokI
                    obtain ⟨rfl, rfl⟩ : _ ∧ _ := by simpa using hm
                    exact am_mmin hd (ri_lw_in hokI) hd1 hk hn hcc kk
                  · rename_i hb4
                    rw [if_neg hb4, Bool.and_eq_true] at hokI
                    split at hm
                    · obtain ⟨rfl, rfl⟩ : _ ∧ _ := by simpa using hm
                      exact am_mabs hd (ri_lw_in hokI.2) hd1 hk hn hcc kk
                    · cases hm
              · split at hm
                · rename_i hb5
                  have hb5 : b = 5 := by simpa using hb5
                  subst hb5
                  rw [if_neg (by decide), if_neg (by decide), Bool.and_eq_true] at hokI
                  obtain ⟨rfl, rfl⟩ : _ ∧ _ := by simpa using hm
                  exact am_mabs hd (ri_lw_in hokI.2) hd1 hk hn hcc kk
                · cases hm
              · cases hm
            · cases h
          · cases h
        split at h
        · rename_i hb3 hcc
          simp only [Bool.and_eq_true, Nat.ble_eq, ri_le_iff] at hcc
          split at h
          · rename_i v2 L2 hcal
            obtain ⟨row2, hr2⟩ := ri_go_row h
            obtain ⟨c1, c2, c3⟩ := hc _ _ _ _ _ hcal
            simp only [ri_rokI] at hokI
            rw [if_neg hb2, if_neg hb3] at hokI
            have hokI : (M a).2.2.1 = 0 ∧ ri_lw pl (.methodLink (M j).1.1.cls idx (M a).1.1) = true := by simpa using hokI
            refine ri_go_call hrow hr2 c1 c2 (ih _ _ _ _ _ _ h) (fun G hE mc ms post k n g1 g2 g3 => ?_)
            rw [hpc row2 hr2] at g3
            exact am_callS hd (hM a).1 (ri_lw_in hokI.2) ((hM a).2.1 hokI.1) (by rw [List.reverse_reverse, List.take_append_drop]) (by simp; omega) hcc.2 (Nat.le_refl _) g1 g2 (c3 G hE) g3
          · cases h
        · cases h
    case invokespecial idx =>
      replace hln := hln.resolve_left (by simp [ri_sw])
      simp only [ri_ln] at hln
      subst hln
      replace hnx := hnx.resolve_left (by simp [ri_end])
      have hpc : ∀ row2 : ri_row, (M j).2.2.2[i + 1]? = some row2 → row2.1 = pc + 3 := fun row2 h2 => by
        rw [List.getElem?_map, h2] at hnx
        simpa using hnx
      change (if b == 1 then match (generalizing := false) st with
          | .ref a0 :: st => if Nat.ble (ri_cat st) 20 then ri_go E M callee (M j).2.2.2 f ((M j).2.2.2.drop (i + 1)) lv st L else none
          | _ => none
        else match st.drop (M a).2.1 with
        | .ref a0 :: rest => if Nat.ble (ri_cat rest) 8 then match callee a (.ref a0 :: (st.take (M a).2.1).reverse) L with
            | some (v, L2) => ri_go E M callee (M j).2.2.2 f ((M j).2.2.2.drop (i + 1)) lv (v.toList ++ rest) L2
            | none => none
          else none
        | _ => none) = some (r, L') at h
      split at h
      · rename_i hb2
        simp only [ri_rokI, hb2, if_true] at hokI
        split at h
        · split at h
          · rename_i hcc
            simp only [Nat.ble_eq] at hcc
            obtain ⟨row2, hr2⟩ := ri_go_row h
            exact ri_seq (jt := none) hrow (ri_simple hnx (fun G hE d' mc ms post k n hd1 hk9 hn9 kk => am_obj hd (ri_lw_in hokI) am_objI am_objC hcc hd1 kk)) rfl hr2 (ih _ _ _ _ _ _ h)
          · cases h
        · cases h
      · rename_i hb2
        split at h
        · rename_i a0 rest hdr
          split at h
          · rename_i hcc
            simp only [Nat.ble_eq] at hcc
            split at h
            · rename_i v2 L2 hcal
              obtain ⟨row2, hr2⟩ := ri_go_row h
              obtain ⟨c1, c2, c3⟩ := hc _ _ _ _ _ hcal
              obtain ⟨hs1, hs2⟩ := ri_take hdr
              simp only [ri_rokI] at hokI
              have hokI : (M a).2.2.1 = 2 ∧ ri_lw pl (.methodLink (M j).1.1.cls idx (M a).1.1) = true := by simpa [hb2] using hokI
              obtain ⟨w1, w2, w3⟩ := (hM a).2.2.2.1 hokI.1
              refine ri_go_call hrow hr2 c1 c2 (ih _ _ _ _ _ _ h) (fun G hE mc ms post k n g1 g2 g3 => ?_)
              rw [hpc row2 hr2] at g3
              exact am_callI hd (hM a).1 (ri_lw_in hokI.2) w1 w2 w3 hs1 hs2 hcc (Nat.le_refl _) g1 g2 (c3 G hE) g3
            · cases h
          · cases h
        · cases h
    all_goals exact ri_go_dflt hrow hok ih h
theorem ri_ls_mem : ∀ (as : List Value) (i off : Nat) (v : Value), (ri_ls as)[i]? = some v → v ≠ .null → (i + off, v) ∈ lv_args off as
  | [], i, off, v, h, _ => by simp [ri_ls] at h
  | w :: t, i, off, v, h, hn => by
    have h : (if ri_c2 w then w :: Value.null :: ri_ls t else w :: ri_ls t)[i]? = some v := h
    unfold lv_args
    rw [List.mem_cons]
    by_cases hc : ri_c2 w = true
    · rw [if_pos hc] at h
      rw [if_pos ((ri_c2_cat w).mp hc)]
      match i, h with
      | 0, h =>
        left
        simp at h
        rw [h, Nat.zero_add]
      | 1, h =>
        simp at h
        exact absurd h.symm hn
      | i + 2, h =>
        right
        simp at h
        have := ri_ls_mem t i (off + 2) v h hn
        rwa [show i + 2 + off = i + (off + 2) by omega]
    · rw [if_neg hc] at h
      rw [if_neg (fun e => hc ((ri_c2_cat w).mpr e))]
      match i, h with
      | 0, h =>
        left
        simp at h
        rw [h, Nat.zero_add]
      | i + 1, h =>
        right
        simp at h
        have := ri_ls_mem t i (off + 1) v h hn
        rwa [show i + 1 + off = i + (off + 1) by omega]
theorem ri_ls_len : ∀ (as : List Value), (ri_ls as).length = (lg_sl as).length
  | [] => rfl
  | w :: t => by
    have ih := ri_ls_len t
    have e : ri_ls (w :: t) = if ri_c2 w then w :: Value.null :: ri_ls t else w :: ri_ls t := rfl
    rw [e]
    simp only [lg_sl] at ih ⊢
    rw [List.flatMap_cons, List.length_append, ← ih]
    by_cases hc : ri_c2 w = true
    · rw [if_pos hc, if_pos ((ri_c2_cat w).mp hc)]
      simp
      omega
    · rw [if_neg hc, if_neg (fun e => hc ((ri_c2_cat w).mpr e))]
      simp
      omega
theorem ri_ls_sub (as : List Value) (n : Nat) : ∀ q ∈ ri_lv (ri_ls as ++ List.replicate n .null), q ∈ lv_args 0 as := by
  rintro ⟨i, v⟩ hq
  rw [ri_lv_mem] at hq
  obtain ⟨h1, h2⟩ := hq
  by_cases hi : i < (ri_ls as).length
  · rw [List.getElem?_append_left hi] at h1
    have := ri_ls_mem as i 0 v h1 h2
    rwa [Nat.add_zero] at this
  · rw [List.getElem?_append_right (by omega), List.getElem?_replicate] at h1
    split at h1
    · cases h1; exact absurd rfl h2
    · cases h1
theorem ri_D_ok {E : ri_Env} {M : Nat → ri_mi} (hM : ∀ j, ri_okj M j) (F : Nat) : ∀ d, ri_Cok E M d (ri_D E M F d) := by
  intro d
  induction d with
  | zero => intro j as L r L' h; cases h
  | succ d ih =>
    intro j as L r L' h
    have h : (if Nat.ble (ri_ls as).length (M j).1.2.2.1 then ri_go E M (ri_D E M F d) (M j).2.2.2 F (M j).2.2.2 (ri_ls as ++ List.replicate ((M j).1.2.2.1 - (ri_ls as).length) .null) [] L else none) = some (r, L') := h
    split at h
    · rename_i hl
      rw [Nat.ble_eq] at hl
      have h0 : ri_go E M (ri_D E M F d) (M j).2.2.2 F ((M j).2.2.2.drop 0) (ri_ls as ++ List.replicate ((M j).1.2.2.1 - (ri_ls as).length) .null) [] L = some (r, L') := h
      obtain ⟨row, hrow⟩ := ri_go_row h0
      obtain ⟨b1, b2, b3⟩ := ri_go_ok hM ih j F 0 _ _ _ _ _ h0
      refine ⟨b1, b2, fun G hE => am_ofA (hM j).1 (by rw [← ri_ls_len]; exact hl) (am_lvs (ri_ls_sub as ((M j).1.2.2.1 - (ri_ls as).length)) ?_)⟩
      have h5 := b3 G hE (L'.1 - L.1) (L'.2.1 - L.2.1) (ri_post r L') 0 0 row hrow (by omega) (by omega) ⟨rfl, rfl, rfl⟩
      have h6 := (hM j).2.2.2.2.2
      rw [List.getElem?_map, hrow] at h6
      have h7 : row.1 = 0 := by simpa using h6
      rw [h7] at h5
      exact h5
    · cases h
end
end
section
noncomputable section
abbrev ri_tb : Type := List ri_row
def t_X0_init : List ri_row := [(0, .aload_n 0, 1, 0, 0, 0, 0, []),
  (1, .invokespecial 3, 3, 0, 1, 174, 0, []),
  (4, .aload_n 0, 1, 0, 0, 0, 0, []),
  (5, .bipush 6, 2, 0, 0, 0, 0, []),
  (7, .anewarray 9, 3, 2, 0, 175, 0, []),
  (10, .putfield 11, 3, 0, 0, 178, 2, []),
  (13, .aload_n 0, 1, 0, 0, 0, 0, []),
  (14, .bipush 36, 2, 0, 0, 0, 0, []),
  (16, .newarray .int, 2, 0, 0, 0, 0, []),
  (18, .putfield 17, 3, 0, 2, 183, 2, []),
  (21, .aload_n 0, 1, 0, 0, 0, 0, []),
  (22, .aload_n 1, 1, 0, 0, 0, 0, []),
  (23, .putfield 21, 3, 0, 3, 184, 2, []),
  (26, .iconst 0, 1, 0, 0, 0, 0, []),
  (27, .istore_n 2, 1, 0, 0, 0, 0, []),
  (28, .iload_n 2, 1, 0, 0, 0, 0, []),
  (29, .bipush 6, 2, 0, 0, 0, 0, []),
  (31, .if_icmp .ge 25, 3, 28, 0, 0, 0, []),
  (34, .aload_n 0, 1, 0, 0, 0, 0, []),
  (35, .getfield 11, 3, 0, 0, 178, 0, []),
  (38, .iload_n 2, 1, 0, 0, 0, 0, []),
  (39, .new 9, 3, 4, 0, 175, 0, []),
  (42, .dup, 1, 0, 0, 0, 0, []),
  (43, .sipush 400, 3, 0, 0, 0, 0, []),
  (46, .invokespecial 25, 3, 26, 0, 177, 0, []),
  (49, .aastore, 1, 0, 0, 0, 0, []),
  (50, .iinc 2 1, 3, 0, 0, 0, 0, []),
  (53, .goto (-25), 3, 15, 0, 0, 0, []),
  (56, .return_, 1, 0, 0, 0, 0, [])]
def m_X0_init : am_M := (yX0_init, cX0_init, 3, none)
def t_X0_begin : List ri_row := [(0, .aload_n 0, 1, 0, 0, 0, 0, []),
  (1, .iconst 2, 1, 0, 0, 0, 0, []),
  (2, .iload_n 1, 1, 0, 0, 0, 0, []),
  (3, .imul, 1, 0, 0, 0, 0, []),
  (4, .putfield 28, 3, 0, 1, 181, 0, []),
  (7, .iconst 1, 1, 0, 0, 0, 0, []),
  (8, .istore_n 2, 1, 0, 0, 0, 0, []),
  (9, .iload_n 2, 1, 0, 0, 0, 0, []),
  (10, .aload_n 0, 1, 0, 0, 0, 0, []),
  (11, .getfield 28, 3, 0, 1, 181, 0, []),
  (14, .if_icmp .gt 21, 3, 21, 0, 0, 0, []),
  (17, .aload_n 0, 1, 0, 0, 0, 0, []),
  (18, .getfield 11, 3, 0, 0, 178, 0, []),
  (21, .iload_n 2, 1, 0, 0, 0, 0, []),
  (22, .iconst 1, 1, 0, 0, 0, 0, []),
  (23, .isub, 1, 0, 0, 0, 0, []),
  (24, .aaload, 1, 0, 0, 0, 0, []),
  (25, .iload_n 2, 1, 0, 0, 0, 0, []),
  (26, .invokevirtual 32, 3, 28, 4, 630, 0, []),
  (29, .iinc 2 1, 3, 0, 0, 0, 0, []),
  (32, .goto (-23), 3, 7, 0, 0, 0, []),
  (35, .return_, 1, 0, 0, 0, 0, [])]
def m_X0_begin : am_M := (yX0_begin, cX0_begin, 3, none)
def t_X0_doPlan : List ri_row := [(0, .iconst 0, 1, 0, 0, 0, 0, []),
  (1, .istore_n 2, 1, 0, 0, 0, 0, []),
  (2, .iload_n 2, 1, 0, 0, 0, 0, []),
  (3, .aload_n 0, 1, 0, 0, 0, 0, []),
  (4, .getfield 28, 3, 0, 1, 181, 0, []),
  (7, .if_icmp .ge 28, 3, 19, 0, 0, 0, []),
  (10, .aload_n 0, 1, 0, 0, 0, 0, []),
  (11, .getfield 21, 3, 0, 3, 184, 0, []),
  (14, .aload_n 1, 1, 0, 0, 0, 0, []),
  (15, .aload_n 0, 1, 0, 0, 0, 0, []),
  (16, .getfield 11, 3, 0, 0, 178, 0, []),
  (19, .iload_n 2, 1, 0, 0, 0, 0, []),
  (20, .aaload, 1, 0, 0, 0, 0, []),
  (21, .invokevirtual 35, 3, 66, 7, 635, 0, []),
  (24, .ifCond .ne 5, 3, 17, 0, 0, 0, []),
  (27, .iconst 0, 1, 0, 0, 0, 0, []),
  (28, .ireturn, 1, 0, 1, 0, 0, []),
  (29, .iinc 2 1, 3, 0, 0, 0, 0, []),
  (32, .goto (-30), 3, 2, 0, 0, 0, []),
  (35, .iconst 1, 1, 0, 0, 0, 0, []),
  (36, .ireturn, 1, 0, 1, 0, 0, [])]
def m_X0_doPlan : am_M := (yX0_doPlan, cX0_doPlan, 3, some .boolean)
def t_X0_lettersTogether : List ri_row := [(0, .iconst 0, 1, 0, 0, 0, 0, []),
  (1, .istore_n 1, 1, 0, 0, 0, 0, []),
  (2, .iconst 0, 1, 0, 0, 0, 0, []),
  (3, .istore_n 2, 1, 0, 0, 0, 0, []),
  (4, .iload_n 2, 1, 0, 0, 0, 0, []),
  (5, .aload_n 0, 1, 0, 0, 0, 0, []),
  (6, .getfield 28, 3, 0, 1, 181, 0, []),
  (9, .if_icmp .ge 21, 3, 18, 0, 0, 0, []),
  (12, .iload_n 1, 1, 0, 0, 0, 0, []),
  (13, .aload_n 0, 1, 0, 0, 0, 0, []),
  (14, .getfield 11, 3, 0, 0, 178, 0, []),
  (17, .iload_n 2, 1, 0, 0, 0, 0, []),
  (18, .aaload, 1, 0, 0, 0, 0, []),
  (19, .getfield 41, 3, 4, 1, 124, 0, []),
  (22, .iadd, 1, 0, 0, 0, 0, []),
  (23, .istore_n 1, 1, 0, 0, 0, 0, []),
  (24, .iinc 2 1, 3, 0, 0, 0, 0, []),
  (27, .goto (-23), 3, 4, 0, 0, 0, []),
  (30, .iload_n 1, 1, 0, 0, 0, 0, []),
  (31, .ireturn, 1, 0, 0, 0, 0, [])]
def m_X0_lettersTogether : am_M := (yX0_lettersTogether, cX0_lettersTogether, 3, some .int)
def t_X0_fullTurns : List ri_row := [(0, .iconst 0, 1, 0, 0, 0, 0, []),
  (1, .istore_n 2, 1, 0, 0, 0, 0, []),
  (2, .iload_n 2, 1, 0, 0, 0, 0, []),
  (3, .iconst 5, 1, 0, 0, 0, 0, []),
  (4, .if_icmp .gt 33, 3, 23, 0, 0, 0, []),
  (7, .aload_n 0, 1, 0, 0, 0, 0, []),
  (8, .iload_n 2, 1, 0, 0, 0, 0, []),
  (9, .aload_n 1, 1, 0, 0, 0, 0, []),
  (10, .invokevirtual 44, 3, 5, 0, 648, 0, []),
  (13, .ifCond .eq 5, 3, 12, 0, 0, 0, []),
  (16, .iload_n 2, 1, 0, 0, 0, 0, []),
  (17, .ireturn, 1, 0, 0, 0, 0, []),
  (18, .aload_n 0, 1, 0, 0, 0, 0, []),
  (19, .iload_n 2, 1, 0, 0, 0, 0, []),
  (20, .ineg, 1, 0, 0, 0, 0, []),
  (21, .aload_n 1, 1, 0, 0, 0, 0, []),
  (22, .invokevirtual 44, 3, 5, 0, 648, 0, []),
  (25, .ifCond .eq 6, 3, 21, 0, 0, 0, []),
  (28, .iload_n 2, 1, 0, 0, 0, 0, []),
  (29, .ineg, 1, 0, 0, 0, 0, []),
  (30, .ireturn, 1, 0, 0, 0, 0, []),
  (31, .iinc 2 1, 3, 0, 0, 0, 0, []),
  (34, .goto (-32), 3, 2, 0, 0, 0, []),
  (37, .bipush 99, 2, 0, 0, 0, 0, []),
  (39, .ireturn, 1, 0, 0, 0, 0, [])]
def m_X0_fullTurns : am_M := (yX0_fullTurns, cX0_fullTurns, 3, some .int)
def t_X0_areTurns : List ri_row := [(0, .iconst 1, 1, 0, 0, 0, 0, []),
  (1, .istore_n 3, 1, 0, 0, 0, 0, []),
  (2, .iload_n 3, 1, 0, 0, 0, 0, []),
  (3, .aload_n 0, 1, 0, 0, 0, 0, []),
  (4, .getfield 28, 3, 0, 1, 181, 0, []),
  (7, .if_icmp .gt 49, 3, 34, 0, 0, 0, []),
  (10, .aload_n 2, 1, 0, 0, 0, 0, []),
  (11, .iconst 0, 1, 0, 0, 0, 0, []),
  (12, .putfield 41, 3, 4, 1, 124, 0, []),
  (15, .aload_n 0, 1, 0, 0, 0, 0, []),
  (16, .iload_n 1, 1, 0, 0, 0, 0, []),
  (17, .aload_n 2, 1, 0, 0, 0, 0, []),
  (18, .invokevirtual 48, 3, 6, 0, 652, 0, []),
  (21, .aload_n 2, 1, 0, 0, 0, 0, []),
  (22, .iload_n 3, 1, 0, 0, 0, 0, []),
  (23, .invokevirtual 52, 3, 27, 4, 662, 0, []),
  (26, .aload_n 0, 1, 0, 0, 0, 0, []),
  (27, .iload_n 1, 1, 0, 0, 0, 0, []),
  (28, .ineg, 1, 0, 0, 0, 0, []),
  (29, .aload_n 2, 1, 0, 0, 0, 0, []),
  (30, .invokevirtual 48, 3, 6, 0, 652, 0, []),
  (33, .aload_n 2, 1, 0, 0, 0, 0, []),
  (34, .aload_n 0, 1, 0, 0, 0, 0, []),
  (35, .getfield 11, 3, 0, 0, 178, 0, []),
  (38, .iload_n 3, 1, 0, 0, 0, 0, []),
  (39, .iconst 1, 1, 0, 0, 0, 0, []),
  (40, .isub, 1, 0, 0, 0, 0, []),
  (41, .aaload, 1, 0, 0, 0, 0, []),
  (42, .invokevirtual 55, 3, 34, 4, 663, 0, []),
  (45, .ifCond .ne 5, 3, 32, 0, 0, 0, []),
  (48, .iconst 0, 1, 0, 0, 0, 0, []),
  (49, .ireturn, 1, 0, 1, 0, 0, []),
  (50, .iinc 3 1, 3, 0, 0, 0, 0, []),
  (53, .goto (-51), 3, 2, 0, 0, 0, []),
  (56, .iconst 1, 1, 0, 0, 0, 0, []),
  (57, .ireturn, 1, 0, 1, 0, 0, [])]
def m_X0_areTurns : am_M := (yX0_areTurns, cX0_areTurns, 4, some .boolean)
def t_X0_pushRim : List ri_row := [(0, .iconst 0, 1, 0, 0, 0, 0, []),
  (1, .istore_n 3, 1, 0, 0, 0, 0, []),
  (2, .iload_n 3, 1, 0, 0, 0, 0, []),
  (3, .iload_n 1, 1, 0, 0, 0, 0, []),
  (4, .invokestatic 59, 3, 0, 5, 656, 0, []),
  (7, .if_icmp .ge 60, 3, 35, 0, 0, 0, []),
  (10, .iconst 0, 1, 0, 0, 0, 0, []),
  (11, .istore 4, 2, 0, 0, 0, 0, []),
  (13, .iload 4, 2, 0, 0, 0, 0, []),
  (15, .iconst 2, 1, 0, 0, 0, 0, []),
  (16, .aload_n 0, 1, 0, 0, 0, 0, []),
  (17, .getfield 28, 3, 0, 1, 181, 0, []),
  (20, .imul, 1, 0, 0, 0, 0, []),
  (21, .if_icmp .ge 40, 3, 33, 0, 0, 0, []),
  (24, .aload_n 2, 1, 0, 0, 0, 0, []),
  (25, .iload_n 1, 1, 0, 0, 0, 0, []),
  (26, .ifCond .le 11, 3, 20, 0, 0, 0, []),
  (29, .iload 4, 2, 0, 0, 0, 0, []),
  (31, .invokestatic 65, 3, 7, 0, 659, 0, []),
  (34, .goto 18, 3, 30, 0, 0, 0, []),
  (37, .iconst 2, 1, 0, 0, 0, 0, []),
  (38, .aload_n 0, 1, 0, 0, 0, 0, []),
  (39, .getfield 28, 3, 0, 1, 181, 0, []),
  (42, .imul, 1, 0, 0, 0, 0, []),
  (43, .iconst 1, 1, 0, 0, 0, 0, []),
  (44, .isub, 1, 0, 0, 0, 0, []),
  (45, .iload 4, 2, 0, 0, 0, 0, []),
  (47, .isub, 1, 0, 0, 0, 0, []),
  (48, .invokestatic 65, 3, 7, 0, 659, 0, []),
  (51, .ineg, 1, 0, 0, 0, 0, []),
  (52, .invokevirtual 52, 3, 27, 4, 662, 0, []),
  (55, .iinc 4 1, 3, 0, 0, 0, 0, []),
  (58, .goto (-45), 3, 8, 0, 0, 0, []),
  (61, .iinc 3 1, 3, 0, 0, 0, 0, []),
  (64, .goto (-62), 3, 2, 0, 0, 0, []),
  (67, .return_, 1, 0, 0, 0, 0, [])]
def m_X0_pushRim : am_M := (yX0_pushRim, cX0_pushRim, 5, none)
def t_X0_rimLetter : List ri_row := [(0, .iload_n 0, 1, 0, 0, 0, 0, []),
  (1, .iconst 4, 1, 0, 0, 0, 0, []),
  (2, .idiv, 1, 0, 0, 0, 0, []),
  (3, .iconst 2, 1, 0, 0, 0, 0, []),
  (4, .imul, 1, 0, 0, 0, 0, []),
  (5, .iconst 1, 1, 0, 0, 0, 0, []),
  (6, .iadd, 1, 0, 0, 0, 0, []),
  (7, .iload_n 0, 1, 0, 0, 0, 0, []),
  (8, .iconst 2, 1, 0, 0, 0, 0, []),
  (9, .irem, 1, 0, 0, 0, 0, []),
  (10, .iadd, 1, 0, 0, 0, 0, []),
  (11, .istore_n 1, 1, 0, 0, 0, 0, []),
  (12, .iload_n 0, 1, 0, 0, 0, 0, []),
  (13, .iconst 4, 1, 0, 0, 0, 0, []),
  (14, .irem, 1, 0, 0, 0, 0, []),
  (15, .iconst 2, 1, 0, 0, 0, 0, []),
  (16, .if_icmp .ge 7, 3, 19, 0, 0, 0, []),
  (19, .iload_n 1, 1, 0, 0, 0, 0, []),
  (20, .goto 5, 3, 21, 0, 0, 0, []),
  (23, .iload_n 1, 1, 0, 0, 0, 0, []),
  (24, .ineg, 1, 0, 0, 0, 0, []),
  (25, .ireturn, 1, 0, 0, 0, 0, [])]
def m_X0_rimLetter : am_M := (yX0_rimLetter, cX0_rimLetter, 2, some .int)
def t_X0_cornerSum : List ri_row := [(0, .iconst 0, 1, 0, 0, 0, 0, []),
  (1, .istore_n 2, 1, 0, 0, 0, 0, []),
  (2, .iload_n 2, 1, 0, 0, 0, 0, []),
  (3, .aload_n 0, 1, 0, 0, 0, 0, []),
  (4, .getfield 28, 3, 0, 1, 181, 0, []),
  (7, .if_icmp .ge 48, 3, 32, 0, 0, 0, []),
  (10, .iconst 0, 1, 0, 0, 0, 0, []),
  (11, .istore_n 3, 1, 0, 0, 0, 0, []),
  (12, .iload_n 3, 1, 0, 0, 0, 0, []),
  (13, .aload_n 0, 1, 0, 0, 0, 0, []),
  (14, .getfield 28, 3, 0, 1, 181, 0, []),
  (17, .if_icmp .ge 32, 3, 30, 0, 0, 0, []),
  (20, .aload_n 0, 1, 0, 0, 0, 0, []),
  (21, .getfield 17, 3, 0, 2, 183, 0, []),
  (24, .iload_n 2, 1, 0, 0, 0, 0, []),
  (25, .bipush 6, 2, 0, 0, 0, 0, []),
  (27, .imul, 1, 0, 0, 0, 0, []),
  (28, .iload_n 3, 1, 0, 0, 0, 0, []),
  (29, .iadd, 1, 0, 0, 0, 0, []),
  (30, .aload_n 0, 1, 0, 0, 0, 0, []),
  (31, .getfield 11, 3, 0, 0, 178, 0, []),
  (34, .iload_n 2, 1, 0, 0, 0, 0, []),
  (35, .aaload, 1, 0, 0, 0, 0, []),
  (36, .iload_n 3, 1, 0, 0, 0, 0, []),
  (37, .iconst 1, 1, 0, 0, 0, 0, []),
  (38, .iadd, 1, 0, 0, 0, 0, []),
  (39, .invokevirtual 68, 3, 40, 4, 686, 0, []),
  (42, .iastore, 1, 0, 0, 0, 0, []),
  (43, .iinc 3 1, 3, 0, 0, 0, 0, []),
  (46, .goto (-34), 3, 8, 0, 0, 0, []),
  (49, .iinc 2 1, 3, 0, 0, 0, 0, []),
  (52, .goto (-50), 3, 2, 0, 0, 0, []),
  (55, .lconst 0, 1, 0, 0, 0, 0, []),
  (56, .lstore_n 2, 1, 0, 0, 0, 0, []),
  (57, .iconst 0, 1, 0, 0, 0, 0, []),
  (58, .istore 4, 2, 0, 0, 0, 0, []),
  (60, .iload 4, 2, 0, 0, 0, 0, []),
  (62, .iconst 1, 1, 0, 0, 0, 0, []),
  (63, .aload_n 0, 1, 0, 0, 0, 0, []),
  (64, .getfield 28, 3, 0, 1, 181, 0, []),
  (67, .ishl, 1, 0, 0, 0, 0, []),
  (68, .if_icmp .ge 33, 3, 57, 0, 0, 0, []),
  (71, .iload 4, 2, 0, 0, 0, 0, []),
  (73, .invokestatic 71, 3, 195, 0, 687, 0, []),
  (76, .iload_n 1, 1, 0, 0, 0, 0, []),
  (77, .if_icmp .ne 18, 3, 55, 0, 0, 0, []),
  (80, .lload_n 2, 1, 0, 0, 0, 0, []),
  (81, .aload_n 0, 1, 0, 0, 0, 0, []),
  (82, .getfield 17, 3, 0, 2, 183, 0, []),
  (85, .iconst 0, 1, 0, 0, 0, 0, []),
  (86, .iload 4, 2, 0, 0, 0, 0, []),
  (88, .iload 4, 2, 0, 0, 0, 0, []),
  (90, .invokestatic 76, 3, 9, 0, 693, 0, []),
  (93, .ladd, 1, 0, 0, 0, 0, []),
  (94, .lstore_n 2, 1, 0, 0, 0, 0, []),
  (95, .iinc 4 1, 3, 0, 0, 0, 0, []),
  (98, .goto (-38), 3, 36, 0, 0, 0, []),
  (101, .lload_n 2, 1, 0, 0, 0, 0, []),
  (102, .lreturn, 1, 0, 0, 0, 0, [])]
def m_X0_cornerSum : am_M := (yX0_cornerSum, cX0_cornerSum, 5, some .long)
def t_X0_corner : List ri_row := [(0, .iload_n 1, 1, 0, 0, 0, 0, []),
  (1, .bipush 6, 2, 0, 0, 0, 0, []),
  (3, .if_icmp .lt 5, 3, 5, 0, 0, 0, []),
  (6, .lconst 1, 1, 0, 0, 0, 0, []),
  (7, .lreturn, 1, 0, 0, 0, 0, []),
  (8, .iload_n 2, 1, 0, 0, 0, 0, []),
  (9, .iload_n 1, 1, 0, 0, 0, 0, []),
  (10, .ishr, 1, 0, 0, 0, 0, []),
  (11, .iconst 1, 1, 0, 0, 0, 0, []),
  (12, .iand, 1, 0, 0, 0, 0, []),
  (13, .ifCond .ne 13, 3, 19, 0, 0, 0, []),
  (16, .aload_n 0, 1, 0, 0, 0, 0, []),
  (17, .iload_n 1, 1, 0, 0, 0, 0, []),
  (18, .iconst 1, 1, 0, 0, 0, 0, []),
  (19, .iadd, 1, 0, 0, 0, 0, []),
  (20, .iload_n 2, 1, 0, 0, 0, 0, []),
  (21, .iload_n 3, 1, 0, 0, 0, 0, []),
  (22, .invokestatic 76, 3, 9, 0, 693, 0, []),
  (25, .lreturn, 1, 0, 0, 0, 0, []),
  (26, .lconst 0, 1, 0, 0, 0, 0, []),
  (27, .lstore 4, 2, 0, 0, 0, 0, []),
  (29, .iconst 1, 1, 0, 0, 0, 0, []),
  (30, .istore 6, 2, 0, 0, 0, 0, []),
  (32, .iconst 0, 1, 0, 0, 0, 0, []),
  (33, .istore 7, 2, 0, 0, 0, 0, []),
  (35, .iload 7, 2, 0, 0, 0, 0, []),
  (37, .bipush 6, 2, 0, 0, 0, 0, []),
  (39, .if_icmp .ge 68, 3, 71, 0, 0, 0, []),
  (42, .iload_n 3, 1, 0, 0, 0, 0, []),
  (43, .iload 7, 2, 0, 0, 0, 0, []),
  (45, .ishr, 1, 0, 0, 0, 0, []),
  (46, .iconst 1, 1, 0, 0, 0, 0, []),
  (47, .iand, 1, 0, 0, 0, 0, []),
  (48, .ifCond .eq 53, 3, 69, 0, 0, 0, []),
  (51, .aload_n 0, 1, 0, 0, 0, 0, []),
  (52, .iload_n 1, 1, 0, 0, 0, 0, []),
  (53, .bipush 6, 2, 0, 0, 0, 0, []),
  (55, .imul, 1, 0, 0, 0, 0, []),
  (56, .iload 7, 2, 0, 0, 0, 0, []),
  (58, .iadd, 1, 0, 0, 0, 0, []),
  (59, .iaload, 1, 0, 0, 0, 0, []),
  (60, .istore 8, 2, 0, 0, 0, 0, []),
  (62, .iload 8, 2, 0, 0, 0, 0, []),
  (64, .ifCond .eq 32, 3, 66, 0, 0, 0, []),
  (67, .lload 4, 2, 0, 0, 0, 0, []),
  (69, .iload 6, 2, 0, 0, 0, 0, []),
  (71, .i2l, 1, 0, 0, 0, 0, []),
  (72, .iload 8, 2, 0, 0, 0, 0, []),
  (74, .i2l, 1, 0, 0, 0, 0, []),
  (75, .lmul, 1, 0, 0, 0, 0, []),
  (76, .aload_n 0, 1, 0, 0, 0, 0, []),
  (77, .iload_n 1, 1, 0, 0, 0, 0, []),
  (78, .iconst 1, 1, 0, 0, 0, 0, []),
  (79, .iadd, 1, 0, 0, 0, 0, []),
  (80, .iload_n 2, 1, 0, 0, 0, 0, []),
  (81, .iload_n 3, 1, 0, 0, 0, 0, []),
  (82, .iconst 1, 1, 0, 0, 0, 0, []),
  (83, .iload 7, 2, 0, 0, 0, 0, []),
  (85, .ishl, 1, 0, 0, 0, 0, []),
  (86, .iconst (-1), 1, 0, 0, 0, 0, []),
  (87, .ixor, 1, 0, 0, 0, 0, []),
  (88, .iand, 1, 0, 0, 0, 0, []),
  (89, .invokestatic 76, 3, 9, 0, 693, 0, []),
  (92, .lmul, 1, 0, 0, 0, 0, []),
  (93, .ladd, 1, 0, 0, 0, 0, []),
  (94, .lstore 4, 2, 0, 0, 0, 0, []),
  (96, .iload 6, 2, 0, 0, 0, 0, []),
  (98, .ineg, 1, 0, 0, 0, 0, []),
  (99, .istore 6, 2, 0, 0, 0, 0, []),
  (101, .iinc 7 1, 3, 0, 0, 0, 0, []),
  (104, .goto (-69), 3, 25, 0, 0, 0, []),
  (107, .lload 4, 2, 0, 0, 0, 0, []),
  (109, .lreturn, 1, 0, 0, 0, 0, [])]
def m_X0_corner : am_M := (yX0_corner, cX0_corner, 9, some .long)
def t_X1_init : List ri_row := [(0, .aload_n 0, 1, 0, 0, 0, 0, []),
  (1, .invokespecial 3, 3, 0, 1, 162, 0, []),
  (4, .aload_n 0, 1, 0, 0, 0, 0, []),
  (5, .new 9, 3, 4, 0, 163, 0, []),
  (8, .dup, 1, 0, 0, 0, 0, []),
  (9, .bipush 60, 2, 0, 0, 0, 0, []),
  (11, .invokespecial 11, 3, 26, 0, 164, 0, []),
  (14, .putfield 14, 3, 1, 0, 165, 2, []),
  (17, .return_, 1, 0, 0, 0, 0, [])]
def m_X1_init : am_M := (yX1_init, cX1_init, 1, none)
def t_X1_between : List ri_row := [(0, .aload_n 0, 1, 0, 0, 0, 0, []),
  (1, .getfield 14, 3, 1, 0, 165, 0, []),
  (4, .aload_n 2, 1, 0, 0, 0, 0, []),
  (5, .invokevirtual 20, 3, 30, 4, 433, 0, []),
  (8, .aload_n 1, 1, 0, 0, 0, 0, []),
  (9, .aload_n 2, 1, 0, 0, 0, 0, []),
  (10, .iconst 1, 1, 0, 0, 0, 0, []),
  (11, .invokestatic 24, 3, 12, 0, 434, 0, []),
  (14, .aload_n 1, 1, 0, 0, 0, 0, []),
  (15, .aload_n 0, 1, 0, 0, 0, 0, []),
  (16, .getfield 14, 3, 1, 0, 165, 0, []),
  (19, .iconst 0, 1, 0, 0, 0, 0, []),
  (20, .invokestatic 24, 3, 12, 0, 434, 0, []),
  (23, .iadd, 1, 0, 0, 0, 0, []),
  (24, .ireturn, 1, 0, 0, 0, 0, [])]
def m_X1_between : am_M := (yX1_between, cX1_between, 3, some .int)
def t_X1_crossings : List ri_row := [(0, .iconst 0, 1, 0, 0, 0, 0, []),
  (1, .istore_n 3, 1, 0, 0, 0, 0, []),
  (2, .iconst 0, 1, 0, 0, 0, 0, []),
  (3, .istore 4, 2, 0, 0, 0, 0, []),
  (5, .iload 4, 2, 0, 0, 0, 0, []),
  (7, .aload_n 0, 1, 0, 0, 0, 0, []),
  (8, .getfield 28, 3, 4, 1, 121, 0, []),
  (11, .if_icmp .ge 157, 3, 84, 0, 0, 0, []),
  (14, .aload_n 0, 1, 0, 0, 0, 0, []),
  (15, .getfield 32, 3, 4, 0, 117, 0, []),
  (18, .iload 4, 2, 0, 0, 0, 0, []),
  (20, .iaload, 1, 0, 0, 0, 0, []),
  (21, .istore 5, 2, 0, 0, 0, 0, []),
  (23, .aload_n 0, 1, 0, 0, 0, 0, []),
  (24, .getfield 32, 3, 4, 0, 117, 0, []),
  (27, .iload 4, 2, 0, 0, 0, 0, []),
  (29, .ifCond .ne 12, 3, 22, 0, 0, 0, []),
  (32, .aload_n 0, 1, 0, 0, 0, 0, []),
  (33, .getfield 28, 3, 4, 1, 121, 0, []),
  (36, .iconst 1, 1, 0, 0, 0, 0, []),
  (37, .isub, 1, 0, 0, 0, 0, []),
  (38, .goto 7, 3, 25, 0, 0, 0, []),
  (41, .iload 4, 2, 0, 0, 0, 0, []),
  (43, .iconst 1, 1, 0, 0, 0, 0, []),
  (44, .isub, 1, 0, 0, 0, 0, []),
  (45, .iaload, 1, 0, 0, 0, 0, []),
  (46, .ineg, 1, 0, 0, 0, 0, []),
  (47, .istore 6, 2, 0, 0, 0, 0, []),
  (49, .iconst 0, 1, 0, 0, 0, 0, []),
  (50, .istore 7, 2, 0, 0, 0, 0, []),
  (52, .iload 7, 2, 0, 0, 0, 0, []),
  (54, .aload_n 1, 1, 0, 0, 0, 0, []),
  (55, .getfield 28, 3, 4, 1, 121, 0, []),
  (58, .if_icmp .ge 104, 3, 82, 0, 0, 0, []),
  (61, .aload_n 1, 1, 0, 0, 0, 0, []),
  (62, .getfield 32, 3, 4, 0, 117, 0, []),
  (65, .iload 7, 2, 0, 0, 0, 0, []),
  (67, .iaload, 1, 0, 0, 0, 0, []),
  (68, .istore 8, 2, 0, 0, 0, 0, []),
  (70, .iload 5, 2, 0, 0, 0, 0, []),
  (72, .iload 8, 2, 0, 0, 0, 0, []),
  (74, .if_icmp .eq 10, 3, 45, 0, 0, 0, []),
  (77, .iload_n 2, 1, 0, 0, 0, 0, []),
  (78, .ifCond .ne 6, 3, 45, 0, 0, 0, []),
  (81, .goto 75, 3, 80, 0, 0, 0, []),
  (84, .aload_n 1, 1, 0, 0, 0, 0, []),
  (85, .getfield 32, 3, 4, 0, 117, 0, []),
  (88, .iload 7, 2, 0, 0, 0, 0, []),
  (90, .ifCond .ne 12, 3, 54, 0, 0, 0, []),
  (93, .aload_n 1, 1, 0, 0, 0, 0, []),
  (94, .getfield 28, 3, 4, 1, 121, 0, []),
  (97, .iconst 1, 1, 0, 0, 0, 0, []),
  (98, .isub, 1, 0, 0, 0, 0, []),
  (99, .goto 7, 3, 57, 0, 0, 0, []),
  (102, .iload 7, 2, 0, 0, 0, 0, []),
  (104, .iconst 1, 1, 0, 0, 0, 0, []),
  (105, .isub, 1, 0, 0, 0, 0, []),
  (106, .iaload, 1, 0, 0, 0, 0, []),
  (107, .ineg, 1, 0, 0, 0, 0, []),
  (108, .istore 9, 2, 0, 0, 0, 0, []),
  (110, .iload 5, 2, 0, 0, 0, 0, []),
  (112, .iload 8, 2, 0, 0, 0, 0, []),
  (114, .if_icmp .ne 25, 3, 73, 0, 0, 0, []),
  (117, .iload 6, 2, 0, 0, 0, 0, []),
  (119, .iload 9, 2, 0, 0, 0, 0, []),
  (121, .if_icmp .eq 35, 3, 80, 0, 0, 0, []),
  (124, .aload_n 0, 1, 0, 0, 0, 0, []),
  (125, .iload 4, 2, 0, 0, 0, 0, []),
  (127, .aload_n 1, 1, 0, 0, 0, 0, []),
  (128, .iload 7, 2, 0, 0, 0, 0, []),
  (130, .invokestatic 36, 3, 14, 0, 437, 0, []),
  (133, .ifCond .eq 23, 3, 80, 0, 0, 0, []),
  (136, .goto 17, 3, 79, 0, 0, 0, []),
  (139, .iload 6, 2, 0, 0, 0, 0, []),
  (141, .iload 5, 2, 0, 0, 0, 0, []),
  (143, .iload 9, 2, 0, 0, 0, 0, []),
  (145, .iload 8, 2, 0, 0, 0, 0, []),
  (147, .invokestatic 40, 3, 13, 0, 448, 0, []),
  (150, .ifCond .eq 6, 3, 80, 0, 0, 0, []),
  (153, .iinc 3 1, 3, 0, 0, 0, 0, []),
  (156, .iinc 7 1, 3, 0, 0, 0, 0, []),
  (159, .goto (-107), 3, 30, 0, 0, 0, []),
  (162, .iinc 4 1, 3, 0, 0, 0, 0, []),
  (165, .goto (-160), 3, 4, 0, 0, 0, []),
  (168, .iload_n 3, 1, 0, 0, 0, 0, []),
  (169, .ireturn, 1, 0, 0, 0, 0, [])]
def m_X1_crossings : am_M := (yX1_crossings, cX1_crossings, 10, some .int)
def t_X1_cross : List ri_row := [(0, .iload_n 0, 1, 0, 0, 0, 0, []),
  (1, .iload_n 2, 1, 0, 0, 0, 0, []),
  (2, .if_icmp .eq 13, 3, 9, 0, 0, 0, []),
  (5, .iload_n 0, 1, 0, 0, 0, 0, []),
  (6, .iload_n 3, 1, 0, 0, 0, 0, []),
  (7, .if_icmp .eq 8, 3, 9, 0, 0, 0, []),
  (10, .iload_n 1, 1, 0, 0, 0, 0, []),
  (11, .iload_n 2, 1, 0, 0, 0, 0, []),
  (12, .if_icmp .ne 5, 3, 11, 0, 0, 0, []),
  (15, .iconst 0, 1, 0, 0, 0, 0, []),
  (16, .ireturn, 1, 0, 1, 0, 0, []),
  (17, .iload_n 0, 1, 0, 0, 0, 0, []),
  (18, .iload_n 2, 1, 0, 0, 0, 0, []),
  (19, .iload_n 1, 1, 0, 0, 0, 0, []),
  (20, .invokestatic 44, 3, 15, 0, 440, 0, []),
  (23, .iload_n 0, 1, 0, 0, 0, 0, []),
  (24, .iload_n 3, 1, 0, 0, 0, 0, []),
  (25, .iload_n 1, 1, 0, 0, 0, 0, []),
  (26, .invokestatic 44, 3, 15, 0, 440, 0, []),
  (29, .if_icmp .eq 7, 3, 22, 0, 0, 0, []),
  (32, .iconst 1, 1, 0, 0, 0, 0, []),
  (33, .goto 4, 3, 23, 0, 0, 0, []),
  (36, .iconst 0, 1, 0, 0, 0, 0, []),
  (37, .ireturn, 1, 0, 1, 0, 0, [])]
def m_X1_cross : am_M := (yX1_cross, cX1_cross, 4, some .boolean)
def t_X1_changeSides : List ri_row := [(0, .aload_n 0, 1, 0, 0, 0, 0, []),
  (1, .getfield 32, 3, 4, 0, 117, 0, []),
  (4, .iload_n 1, 1, 0, 0, 0, 0, []),
  (5, .iaload, 1, 0, 0, 0, 0, []),
  (6, .istore 4, 2, 0, 0, 0, 0, []),
  (8, .aload_n 0, 1, 0, 0, 0, 0, []),
  (9, .getfield 32, 3, 4, 0, 117, 0, []),
  (12, .iload_n 1, 1, 0, 0, 0, 0, []),
  (13, .ifCond .ne 12, 3, 14, 0, 0, 0, []),
  (16, .aload_n 0, 1, 0, 0, 0, 0, []),
  (17, .getfield 28, 3, 4, 1, 121, 0, []),
  (20, .iconst 1, 1, 0, 0, 0, 0, []),
  (21, .isub, 1, 0, 0, 0, 0, []),
  (22, .goto 6, 3, 17, 0, 0, 0, []),
  (25, .iload_n 1, 1, 0, 0, 0, 0, []),
  (26, .iconst 1, 1, 0, 0, 0, 0, []),
  (27, .isub, 1, 0, 0, 0, 0, []),
  (28, .iaload, 1, 0, 0, 0, 0, []),
  (29, .ineg, 1, 0, 0, 0, 0, []),
  (30, .istore 5, 2, 0, 0, 0, 0, []),
  (32, .aload_n 2, 1, 0, 0, 0, 0, []),
  (33, .getfield 32, 3, 4, 0, 117, 0, []),
  (36, .iload_n 3, 1, 0, 0, 0, 0, []),
  (37, .ifCond .ne 12, 3, 29, 0, 0, 0, []),
  (40, .aload_n 2, 1, 0, 0, 0, 0, []),
  (41, .getfield 28, 3, 4, 1, 121, 0, []),
  (44, .iconst 1, 1, 0, 0, 0, 0, []),
  (45, .isub, 1, 0, 0, 0, 0, []),
  (46, .goto 6, 3, 32, 0, 0, 0, []),
  (49, .iload_n 3, 1, 0, 0, 0, 0, []),
  (50, .iconst 1, 1, 0, 0, 0, 0, []),
  (51, .isub, 1, 0, 0, 0, 0, []),
  (52, .iaload, 1, 0, 0, 0, 0, []),
  (53, .ineg, 1, 0, 0, 0, 0, []),
  (54, .istore 6, 2, 0, 0, 0, 0, []),
  (56, .iload_n 1, 1, 0, 0, 0, 0, []),
  (57, .istore 7, 2, 0, 0, 0, 0, []),
  (59, .iload_n 3, 1, 0, 0, 0, 0, []),
  (60, .istore 8, 2, 0, 0, 0, 0, []),
  (62, .iload 4, 2, 0, 0, 0, 0, []),
  (64, .istore 9, 2, 0, 0, 0, 0, []),
  (66, .iconst 0, 1, 0, 0, 0, 0, []),
  (67, .istore 10, 2, 0, 0, 0, 0, []),
  (69, .iload 10, 2, 0, 0, 0, 0, []),
  (71, .aload_n 0, 1, 0, 0, 0, 0, []),
  (72, .getfield 28, 3, 4, 1, 121, 0, []),
  (75, .aload_n 2, 1, 0, 0, 0, 0, []),
  (76, .getfield 28, 3, 4, 1, 121, 0, []),
  (79, .iadd, 1, 0, 0, 0, 0, []),
  (80, .if_icmp .ge 108, 3, 105, 0, 0, 0, []),
  (83, .aload_n 0, 1, 0, 0, 0, 0, []),
  (84, .getfield 32, 3, 4, 0, 117, 0, []),
  (87, .iload 7, 2, 0, 0, 0, 0, []),
  (89, .iaload, 1, 0, 0, 0, 0, []),
  (90, .istore 11, 2, 0, 0, 0, 0, []),
  (92, .aload_n 2, 1, 0, 0, 0, 0, []),
  (93, .getfield 32, 3, 4, 0, 117, 0, []),
  (96, .iload 8, 2, 0, 0, 0, 0, []),
  (98, .iaload, 1, 0, 0, 0, 0, []),
  (99, .istore 12, 2, 0, 0, 0, 0, []),
  (101, .iload 11, 2, 0, 0, 0, 0, []),
  (103, .iload 12, 2, 0, 0, 0, 0, []),
  (105, .if_icmp .eq 31, 3, 77, 0, 0, 0, []),
  (108, .iload 4, 2, 0, 0, 0, 0, []),
  (110, .iload 5, 2, 0, 0, 0, 0, []),
  (112, .iload 6, 2, 0, 0, 0, 0, []),
  (114, .invokestatic 44, 3, 15, 0, 440, 0, []),
  (117, .iload 9, 2, 0, 0, 0, 0, []),
  (119, .ineg, 1, 0, 0, 0, 0, []),
  (120, .iload 11, 2, 0, 0, 0, 0, []),
  (122, .iload 12, 2, 0, 0, 0, 0, []),
  (124, .invokestatic 44, 3, 15, 0, 440, 0, []),
  (127, .if_icmp .ne 7, 3, 75, 0, 0, 0, []),
  (130, .iconst 1, 1, 0, 0, 0, 0, []),
  (131, .goto 4, 3, 76, 0, 0, 0, []),
  (134, .iconst 0, 1, 0, 0, 0, 0, []),
  (135, .ireturn, 1, 0, 1, 0, 0, []),
  (136, .iload 11, 2, 0, 0, 0, 0, []),
  (138, .istore 9, 2, 0, 0, 0, 0, []),
  (140, .iload 7, 2, 0, 0, 0, 0, []),
  (142, .iconst 1, 1, 0, 0, 0, 0, []),
  (143, .iadd, 1, 0, 0, 0, 0, []),
  (144, .aload_n 0, 1, 0, 0, 0, 0, []),
  (145, .getfield 28, 3, 4, 1, 121, 0, []),
  (148, .if_icmp .ne 7, 3, 87, 0, 0, 0, []),
  (151, .iconst 0, 1, 0, 0, 0, 0, []),
  (152, .goto 7, 3, 90, 0, 0, 0, []),
  (155, .iload 7, 2, 0, 0, 0, 0, []),
  (157, .iconst 1, 1, 0, 0, 0, 0, []),
  (158, .iadd, 1, 0, 0, 0, 0, []),
  (159, .istore 7, 2, 0, 0, 0, 0, []),
  (161, .iload 8, 2, 0, 0, 0, 0, []),
  (163, .iconst 1, 1, 0, 0, 0, 0, []),
  (164, .iadd, 1, 0, 0, 0, 0, []),
  (165, .aload_n 2, 1, 0, 0, 0, 0, []),
  (166, .getfield 28, 3, 4, 1, 121, 0, []),
  (169, .if_icmp .ne 7, 3, 99, 0, 0, 0, []),
  (172, .iconst 0, 1, 0, 0, 0, 0, []),
  (173, .goto 7, 3, 102, 0, 0, 0, []),
  (176, .iload 8, 2, 0, 0, 0, 0, []),
  (178, .iconst 1, 1, 0, 0, 0, 0, []),
  (179, .iadd, 1, 0, 0, 0, 0, []),
  (180, .istore 8, 2, 0, 0, 0, 0, []),
  (182, .iinc 10 1, 3, 0, 0, 0, 0, []),
  (185, .goto (-116), 3, 43, 0, 0, 0, []),
  (188, .iconst 0, 1, 0, 0, 0, 0, []),
  (189, .ireturn, 1, 0, 1, 0, 0, [])]
def m_X1_changeSides : am_M := (yX1_changeSides, cX1_changeSides, 13, some .boolean)
def t_X1_goRound : List ri_row := [(0, .iload_n 0, 1, 0, 0, 0, 0, []),
  (1, .iload_n 1, 1, 0, 0, 0, 0, []),
  (2, .invokestatic 48, 3, 16, 0, 443, 0, []),
  (5, .iload_n 0, 1, 0, 0, 0, 0, []),
  (6, .iload_n 2, 1, 0, 0, 0, 0, []),
  (7, .invokestatic 48, 3, 16, 0, 443, 0, []),
  (10, .if_icmp .ge 7, 3, 9, 0, 0, 0, []),
  (13, .iconst 1, 1, 0, 0, 0, 0, []),
  (14, .goto 4, 3, 10, 0, 0, 0, []),
  (17, .iconst 0, 1, 0, 0, 0, 0, []),
  (18, .ireturn, 1, 0, 1, 0, 0, [])]
def m_X1_goRound : am_M := (yX1_goRound, cX1_goRound, 3, some .boolean)
def t_X1_stepsRound : List ri_row := [(0, .iload_n 0, 1, 0, 0, 0, 0, []),
  (1, .bipush 6, 2, 0, 0, 0, 0, []),
  (3, .iadd, 1, 0, 0, 0, 0, []),
  (4, .istore_n 2, 1, 0, 0, 0, 0, []),
  (5, .iload_n 1, 1, 0, 0, 0, 0, []),
  (6, .bipush 6, 2, 0, 0, 0, 0, []),
  (8, .iadd, 1, 0, 0, 0, 0, []),
  (9, .istore_n 3, 1, 0, 0, 0, 0, []),
  (10, .iload_n 2, 1, 0, 0, 0, 0, []),
  (11, .ifCond .lt 23, 3, 20, 0, 0, 0, []),
  (14, .iload_n 2, 1, 0, 0, 0, 0, []),
  (15, .getstatic 52, 3, 0, 0, 446, 0, []),
  (18, .arraylength, 1, 0, 0, 0, 0, []),
  (19, .if_icmp .ge 15, 3, 20, 0, 0, 0, []),
  (22, .iload_n 3, 1, 0, 0, 0, 0, []),
  (23, .ifCond .lt 11, 3, 20, 0, 0, 0, []),
  (26, .iload_n 3, 1, 0, 0, 0, 0, []),
  (27, .getstatic 52, 3, 0, 0, 446, 0, []),
  (30, .arraylength, 1, 0, 0, 0, 0, []),
  (31, .if_icmp .lt 5, 3, 22, 0, 0, 0, []),
  (34, .iconst 0, 1, 0, 0, 0, 0, []),
  (35, .ireturn, 1, 0, 0, 0, 0, []),
  (36, .getstatic 52, 3, 0, 0, 446, 0, []),
  (39, .iload_n 3, 1, 0, 0, 0, 0, []),
  (40, .iaload, 1, 0, 0, 0, 0, []),
  (41, .getstatic 52, 3, 0, 0, 446, 0, []),
  (44, .iload_n 2, 1, 0, 0, 0, 0, []),
  (45, .iaload, 1, 0, 0, 0, 0, []),
  (46, .isub, 1, 0, 0, 0, 0, []),
  (47, .istore 4, 2, 0, 0, 0, 0, []),
  (49, .iload 4, 2, 0, 0, 0, 0, []),
  (51, .ifCond .ge 11, 3, 36, 0, 0, 0, []),
  (54, .iload 4, 2, 0, 0, 0, 0, []),
  (56, .bipush 12, 2, 0, 0, 0, 0, []),
  (58, .iadd, 1, 0, 0, 0, 0, []),
  (59, .goto 5, 3, 37, 0, 0, 0, []),
  (62, .iload 4, 2, 0, 0, 0, 0, []),
  (64, .ireturn, 1, 0, 0, 0, 0, [])]
def m_X1_stepsRound : am_M := (yX1_stepsRound, cX1_stepsRound, 5, some .int)
def t_X2_init : List ri_row := [(0, .aload_n 0, 1, 0, 0, 0, 0, []),
  (1, .invokespecial 3, 3, 0, 1, 232, 0, []),
  (4, .aload_n 0, 1, 0, 0, 0, 0, []),
  (5, .bipush 60, 2, 0, 0, 0, 0, []),
  (7, .newarray .int, 2, 0, 0, 0, 0, []),
  (9, .putfield 9, 3, 2, 0, 233, 2, []),
  (12, .return_, 1, 0, 0, 0, 0, [])]
def m_X2_init : am_M := (yX2_init, cX2_init, 1, none)
def t_X2_add : List ri_row := [(0, .aload_n 0, 1, 0, 0, 0, 0, []),
  (1, .getfield 15, 3, 2, 1, 237, 0, []),
  (4, .aload_n 0, 1, 0, 0, 0, 0, []),
  (5, .getfield 9, 3, 2, 0, 233, 0, []),
  (8, .arraylength, 1, 0, 0, 0, 0, []),
  (9, .if_icmp .ge 23, 3, 18, 0, 0, 0, []),
  (12, .aload_n 0, 1, 0, 0, 0, 0, []),
  (13, .getfield 9, 3, 2, 0, 233, 0, []),
  (16, .aload_n 0, 1, 0, 0, 0, 0, []),
  (17, .getfield 15, 3, 2, 1, 237, 0, []),
  (20, .iload_n 1, 1, 0, 0, 0, 0, []),
  (21, .iastore, 1, 0, 0, 0, 0, []),
  (22, .aload_n 0, 1, 0, 0, 0, 0, []),
  (23, .dup, 1, 0, 0, 0, 0, []),
  (24, .getfield 15, 3, 2, 1, 237, 0, []),
  (27, .iconst 1, 1, 0, 0, 0, 0, []),
  (28, .iadd, 1, 0, 0, 0, 0, []),
  (29, .putfield 15, 3, 2, 1, 237, 0, []),
  (32, .return_, 1, 0, 0, 0, 0, [])]
def m_X2_add : am_M := (yX2_add, cX2_add, 2, none)
def t_X2_addAll : List ri_row := [(0, .iconst 0, 1, 0, 0, 0, 0, []),
  (1, .istore_n 2, 1, 0, 0, 0, 0, []),
  (2, .iload_n 2, 1, 0, 0, 0, 0, []),
  (3, .aload_n 1, 1, 0, 0, 0, 0, []),
  (4, .getfield 15, 3, 2, 1, 237, 0, []),
  (7, .if_icmp .ge 19, 3, 14, 0, 0, 0, []),
  (10, .aload_n 0, 1, 0, 0, 0, 0, []),
  (11, .aload_n 1, 1, 0, 0, 0, 0, []),
  (12, .getfield 9, 3, 2, 0, 233, 0, []),
  (15, .iload_n 2, 1, 0, 0, 0, 0, []),
  (16, .iaload, 1, 0, 0, 0, 0, []),
  (17, .invokevirtual 19, 3, 18, 2, 575, 0, []),
  (20, .iinc 2 1, 3, 0, 0, 0, 0, []),
  (23, .goto (-21), 3, 2, 0, 0, 0, []),
  (26, .return_, 1, 0, 0, 0, 0, [])]
def m_X2_addAll : am_M := (yX2_addAll, cX2_addAll, 3, none)
def t_X2_copy : List ri_row := [(0, .aload_n 0, 1, 0, 0, 0, 0, []),
  (1, .aload_n 1, 1, 0, 0, 0, 0, []),
  (2, .getfield 15, 3, 2, 1, 237, 0, []),
  (5, .putfield 15, 3, 2, 1, 237, 0, []),
  (8, .aload_n 1, 1, 0, 0, 0, 0, []),
  (9, .getfield 9, 3, 2, 0, 233, 0, []),
  (12, .iconst 0, 1, 0, 0, 0, 0, []),
  (13, .aload_n 0, 1, 0, 0, 0, 0, []),
  (14, .getfield 9, 3, 2, 0, 233, 0, []),
  (17, .iconst 0, 1, 0, 0, 0, 0, []),
  (18, .aload_n 0, 1, 0, 0, 0, 0, []),
  (19, .getfield 15, 3, 2, 1, 237, 0, []),
  (22, .invokestatic 23, 3, 0, 2, 554, 0, []),
  (25, .return_, 1, 0, 0, 0, 0, [])]
def m_X2_copy : am_M := (yX2_copy, cX2_copy, 2, none)
def t_X2_becomeReversed : List ri_row := [(0, .aload_n 0, 1, 0, 0, 0, 0, []),
  (1, .iconst 0, 1, 0, 0, 0, 0, []),
  (2, .putfield 15, 3, 2, 1, 237, 0, []),
  (5, .aload_n 1, 1, 0, 0, 0, 0, []),
  (6, .getfield 15, 3, 2, 1, 237, 0, []),
  (9, .iconst 1, 1, 0, 0, 0, 0, []),
  (10, .isub, 1, 0, 0, 0, 0, []),
  (11, .istore_n 2, 1, 0, 0, 0, 0, []),
  (12, .iload_n 2, 1, 0, 0, 0, 0, []),
  (13, .ifCond .lt 21, 3, 20, 0, 0, 0, []),
  (16, .aload_n 0, 1, 0, 0, 0, 0, []),
  (17, .aload_n 1, 1, 0, 0, 0, 0, []),
  (18, .getfield 9, 3, 2, 0, 233, 0, []),
  (21, .iload_n 2, 1, 0, 0, 0, 0, []),
  (22, .iaload, 1, 0, 0, 0, 0, []),
  (23, .iconst 1, 1, 0, 0, 0, 0, []),
  (24, .ixor, 1, 0, 0, 0, 0, []),
  (25, .invokevirtual 19, 3, 18, 2, 575, 0, []),
  (28, .iinc 2 (-1), 3, 0, 0, 0, 0, []),
  (31, .goto (-19), 3, 8, 0, 0, 0, []),
  (34, .return_, 1, 0, 0, 0, 0, [])]
def m_X2_becomeReversed : am_M := (yX2_becomeReversed, cX2_becomeReversed, 3, none)
def t_X2_codeOrSize : List ri_row := [(0, .iload_n 1, 1, 0, 0, 0, 0, []),
  (1, .iconst (-1), 1, 0, 0, 0, 0, []),
  (2, .if_icmp .ne 8, 3, 6, 0, 0, 0, []),
  (5, .aload_n 0, 1, 0, 0, 0, 0, []),
  (6, .getfield 15, 3, 2, 1, 237, 0, []),
  (9, .ireturn, 1, 0, 0, 0, 0, []),
  (10, .iload_n 1, 1, 0, 0, 0, 0, []),
  (11, .ifCond .lt 20, 3, 17, 0, 0, 0, []),
  (14, .iload_n 1, 1, 0, 0, 0, 0, []),
  (15, .aload_n 0, 1, 0, 0, 0, 0, []),
  (16, .getfield 15, 3, 2, 1, 237, 0, []),
  (19, .if_icmp .ge 12, 3, 17, 0, 0, 0, []),
  (22, .aload_n 0, 1, 0, 0, 0, 0, []),
  (23, .getfield 9, 3, 2, 0, 233, 0, []),
  (26, .iload_n 1, 1, 0, 0, 0, 0, []),
  (27, .iaload, 1, 0, 0, 0, 0, []),
  (28, .goto 4, 3, 18, 0, 0, 0, []),
  (31, .iconst (-1), 1, 0, 0, 0, 0, []),
  (32, .ireturn, 1, 0, 0, 0, 0, [])]
def m_X2_codeOrSize : am_M := (yX2_codeOrSize, cX2_codeOrSize, 2, some .int)
def t_X3_init : List ri_row := [(0, .aload_n 0, 1, 0, 0, 0, 0, []),
  (1, .invokespecial 3, 3, 0, 1, 286, 0, []),
  (4, .aload_n 0, 1, 0, 0, 0, 0, []),
  (5, .new 9, 3, 4, 0, 287, 0, []),
  (8, .dup, 1, 0, 0, 0, 0, []),
  (9, .bipush 60, 2, 0, 0, 0, 0, []),
  (11, .invokespecial 11, 3, 26, 0, 288, 0, []),
  (14, .putfield 14, 3, 3, 0, 289, 2, []),
  (17, .return_, 1, 0, 0, 0, 0, [])]
def m_X3_init : am_M := (yX3_init, cX3_init, 1, none)
def t_X3_become : List ri_row := [(0, .aload_n 0, 1, 0, 0, 0, 0, []),
  (1, .getfield 14, 3, 3, 0, 289, 0, []),
  (4, .aload_n 1, 1, 0, 0, 0, 0, []),
  (5, .invokevirtual 20, 3, 29, 4, 408, 0, []),
  (8, .aload_n 0, 1, 0, 0, 0, 0, []),
  (9, .getfield 14, 3, 3, 0, 289, 0, []),
  (12, .invokevirtual 24, 3, 33, 4, 413, 0, []),
  (15, .aload_n 0, 1, 0, 0, 0, 0, []),
  (16, .aload_n 0, 1, 0, 0, 0, 0, []),
  (17, .getfield 14, 3, 3, 0, 289, 0, []),
  (20, .invokevirtual 27, 3, 38, 4, 421, 0, []),
  (23, .putfield 31, 3, 3, 1, 291, 1, []),
  (26, .aload_n 0, 1, 0, 0, 0, 0, []),
  (27, .aload_n 0, 1, 0, 0, 0, 0, []),
  (28, .getfield 31, 3, 3, 1, 291, 0, []),
  (31, .ifCond .eq 7, 3, 18, 0, 0, 0, []),
  (34, .iconst (-1), 1, 0, 0, 0, 0, []),
  (35, .goto 17, 3, 26, 0, 0, 0, []),
  (38, .aload_n 2, 1, 0, 0, 0, 0, []),
  (39, .aload_n 0, 1, 0, 0, 0, 0, []),
  (40, .getfield 14, 3, 3, 0, 289, 0, []),
  (43, .aload_n 0, 1, 0, 0, 0, 0, []),
  (44, .getfield 14, 3, 3, 0, 289, 0, []),
  (47, .invokevirtual 35, 3, 11, 1, 429, 0, []),
  (50, .iconst 2, 1, 0, 0, 0, 0, []),
  (51, .idiv, 1, 0, 0, 0, 0, []),
  (52, .putfield 41, 3, 3, 2, 293, 0, []),
  (55, .return_, 1, 0, 0, 0, 0, [])]
def m_X3_become : am_M := (yX3_become, cX3_become, 3, none)
def t_X3_isSimple : List ri_row := [(0, .aload_n 0, 1, 0, 0, 0, 0, []),
  (1, .getfield 41, 3, 3, 2, 293, 0, []),
  (4, .ifCond .ne 7, 3, 5, 0, 0, 0, []),
  (7, .iconst 1, 1, 0, 0, 0, 0, []),
  (8, .goto 4, 3, 6, 0, 0, 0, []),
  (11, .iconst 0, 1, 0, 0, 0, 0, []),
  (12, .ireturn, 1, 0, 1, 0, 0, [])]
def m_X3_isSimple : am_M := (yX3_isSimple, cX3_isSimple, 1, some .boolean)
def t_X4_init : List ri_row := [(0, .aload_n 0, 1, 0, 0, 0, 0, []),
  (1, .invokespecial 1, 3, 0, 1, 112, 0, []),
  (4, .aload_n 0, 1, 0, 0, 0, 0, []),
  (5, .iconst 1, 1, 0, 0, 0, 0, []),
  (6, .iload_n 1, 1, 0, 0, 0, 0, []),
  (7, .invokestatic 7, 3, 0, 3, 113, 0, []),
  (10, .newarray .int, 2, 0, 0, 0, 0, []),
  (12, .putfield 13, 3, 4, 0, 116, 2, []),
  (15, .return_, 1, 0, 0, 0, 0, [])]
def m_X4_init : am_M := (yX4_init, cX4_init, 2, none)
def t_X4_push : List ri_row := [(0, .aload_n 0, 1, 0, 0, 0, 0, []),
  (1, .getfield 19, 3, 4, 1, 120, 0, []),
  (4, .ifCond .le 32, 3, 20, 0, 0, 0, []),
  (7, .aload_n 0, 1, 0, 0, 0, 0, []),
  (8, .getfield 13, 3, 4, 0, 116, 0, []),
  (11, .aload_n 0, 1, 0, 0, 0, 0, []),
  (12, .getfield 19, 3, 4, 1, 120, 0, []),
  (15, .iconst 1, 1, 0, 0, 0, 0, []),
  (16, .isub, 1, 0, 0, 0, 0, []),
  (17, .iaload, 1, 0, 0, 0, 0, []),
  (18, .iload_n 1, 1, 0, 0, 0, 0, []),
  (19, .ineg, 1, 0, 0, 0, 0, []),
  (20, .if_icmp .ne 16, 3, 20, 0, 0, 0, []),
  (23, .aload_n 0, 1, 0, 0, 0, 0, []),
  (24, .dup, 1, 0, 0, 0, 0, []),
  (25, .getfield 19, 3, 4, 1, 120, 0, []),
  (28, .iconst 1, 1, 0, 0, 0, 0, []),
  (29, .isub, 1, 0, 0, 0, 0, []),
  (30, .putfield 19, 3, 4, 1, 120, 0, []),
  (33, .goto 35, 3, 38, 0, 0, 0, []),
  (36, .aload_n 0, 1, 0, 0, 0, 0, []),
  (37, .getfield 19, 3, 4, 1, 120, 0, []),
  (40, .aload_n 0, 1, 0, 0, 0, 0, []),
  (41, .getfield 13, 3, 4, 0, 116, 0, []),
  (44, .arraylength, 1, 0, 0, 0, 0, []),
  (45, .if_icmp .ge 23, 3, 38, 0, 0, 0, []),
  (48, .aload_n 0, 1, 0, 0, 0, 0, []),
  (49, .getfield 13, 3, 4, 0, 116, 0, []),
  (52, .aload_n 0, 1, 0, 0, 0, 0, []),
  (53, .getfield 19, 3, 4, 1, 120, 0, []),
  (56, .iload_n 1, 1, 0, 0, 0, 0, []),
  (57, .iastore, 1, 0, 0, 0, 0, []),
  (58, .aload_n 0, 1, 0, 0, 0, 0, []),
  (59, .dup, 1, 0, 0, 0, 0, []),
  (60, .getfield 19, 3, 4, 1, 120, 0, []),
  (63, .iconst 1, 1, 0, 0, 0, 0, []),
  (64, .iadd, 1, 0, 0, 0, 0, []),
  (65, .putfield 19, 3, 4, 1, 120, 0, []),
  (68, .return_, 1, 0, 0, 0, 0, [])]
def m_X4_push : am_M := (yX4_push, cX4_push, 2, none)
def t_X4_becomeLetter : List ri_row := [(0, .aload_n 0, 1, 0, 0, 0, 0, []),
  (1, .getfield 13, 3, 4, 0, 116, 0, []),
  (4, .iconst 0, 1, 0, 0, 0, 0, []),
  (5, .iload_n 1, 1, 0, 0, 0, 0, []),
  (6, .iastore, 1, 0, 0, 0, 0, []),
  (7, .aload_n 0, 1, 0, 0, 0, 0, []),
  (8, .iconst 1, 1, 0, 0, 0, 0, []),
  (9, .putfield 19, 3, 4, 1, 120, 0, []),
  (12, .return_, 1, 0, 0, 0, 0, [])]
def m_X4_becomeLetter : am_M := (yX4_becomeLetter, cX4_becomeLetter, 2, none)
def t_X4_copy : List ri_row := [(0, .aload_n 0, 1, 0, 0, 0, 0, []),
  (1, .aload_n 1, 1, 0, 0, 0, 0, []),
  (2, .getfield 19, 3, 4, 1, 120, 0, []),
  (5, .aload_n 0, 1, 0, 0, 0, 0, []),
  (6, .getfield 13, 3, 4, 0, 116, 0, []),
  (9, .arraylength, 1, 0, 0, 0, 0, []),
  (10, .invokestatic 23, 3, 0, 4, 338, 0, []),
  (13, .putfield 19, 3, 4, 1, 120, 0, []),
  (16, .aload_n 1, 1, 0, 0, 0, 0, []),
  (17, .getfield 13, 3, 4, 0, 116, 0, []),
  (20, .iconst 0, 1, 0, 0, 0, 0, []),
  (21, .aload_n 0, 1, 0, 0, 0, 0, []),
  (22, .getfield 13, 3, 4, 0, 116, 0, []),
  (25, .iconst 0, 1, 0, 0, 0, 0, []),
  (26, .aload_n 0, 1, 0, 0, 0, 0, []),
  (27, .getfield 19, 3, 4, 1, 120, 0, []),
  (30, .invokestatic 26, 3, 0, 2, 412, 0, []),
  (33, .return_, 1, 0, 0, 0, 0, [])]
def m_X4_copy : am_M := (yX4_copy, cX4_copy, 2, none)
def t_X4_becomeBack : List ri_row := [(0, .aload_n 0, 1, 0, 0, 0, 0, []),
  (1, .aload_n 1, 1, 0, 0, 0, 0, []),
  (2, .getfield 19, 3, 4, 1, 120, 0, []),
  (5, .aload_n 0, 1, 0, 0, 0, 0, []),
  (6, .getfield 13, 3, 4, 0, 116, 0, []),
  (9, .arraylength, 1, 0, 0, 0, 0, []),
  (10, .invokestatic 23, 3, 0, 4, 338, 0, []),
  (13, .putfield 19, 3, 4, 1, 120, 0, []),
  (16, .iconst 0, 1, 0, 0, 0, 0, []),
  (17, .istore_n 2, 1, 0, 0, 0, 0, []),
  (18, .iload_n 2, 1, 0, 0, 0, 0, []),
  (19, .aload_n 0, 1, 0, 0, 0, 0, []),
  (20, .getfield 19, 3, 4, 1, 120, 0, []),
  (23, .if_icmp .ge 29, 3, 30, 0, 0, 0, []),
  (26, .aload_n 0, 1, 0, 0, 0, 0, []),
  (27, .getfield 13, 3, 4, 0, 116, 0, []),
  (30, .iload_n 2, 1, 0, 0, 0, 0, []),
  (31, .aload_n 1, 1, 0, 0, 0, 0, []),
  (32, .getfield 13, 3, 4, 0, 116, 0, []),
  (35, .aload_n 0, 1, 0, 0, 0, 0, []),
  (36, .getfield 19, 3, 4, 1, 120, 0, []),
  (39, .iconst 1, 1, 0, 0, 0, 0, []),
  (40, .isub, 1, 0, 0, 0, 0, []),
  (41, .iload_n 2, 1, 0, 0, 0, 0, []),
  (42, .isub, 1, 0, 0, 0, 0, []),
  (43, .iaload, 1, 0, 0, 0, 0, []),
  (44, .ineg, 1, 0, 0, 0, 0, []),
  (45, .iastore, 1, 0, 0, 0, 0, []),
  (46, .iinc 2 1, 3, 0, 0, 0, 0, []),
  (49, .goto (-31), 3, 10, 0, 0, 0, []),
  (52, .return_, 1, 0, 0, 0, 0, [])]
def m_X4_becomeBack : am_M := (yX4_becomeBack, cX4_becomeBack, 3, none)
def t_X4_looseEnds : List ri_row := [(0, .iconst 0, 1, 0, 0, 0, 0, []),
  (1, .istore_n 1, 1, 0, 0, 0, 0, []),
  (2, .iload_n 1, 1, 0, 0, 0, 0, []),
  (3, .aload_n 0, 1, 0, 0, 0, 0, []),
  (4, .getfield 19, 3, 4, 1, 120, 0, []),
  (7, .iconst 2, 1, 0, 0, 0, 0, []),
  (8, .idiv, 1, 0, 0, 0, 0, []),
  (9, .if_icmp .ge 32, 3, 25, 0, 0, 0, []),
  (12, .aload_n 0, 1, 0, 0, 0, 0, []),
  (13, .getfield 13, 3, 4, 0, 116, 0, []),
  (16, .iload_n 1, 1, 0, 0, 0, 0, []),
  (17, .iaload, 1, 0, 0, 0, 0, []),
  (18, .aload_n 0, 1, 0, 0, 0, 0, []),
  (19, .getfield 13, 3, 4, 0, 116, 0, []),
  (22, .aload_n 0, 1, 0, 0, 0, 0, []),
  (23, .getfield 19, 3, 4, 1, 120, 0, []),
  (26, .iconst 1, 1, 0, 0, 0, 0, []),
  (27, .isub, 1, 0, 0, 0, 0, []),
  (28, .iload_n 1, 1, 0, 0, 0, 0, []),
  (29, .isub, 1, 0, 0, 0, 0, []),
  (30, .iaload, 1, 0, 0, 0, 0, []),
  (31, .ineg, 1, 0, 0, 0, 0, []),
  (32, .if_icmp .ne 9, 3, 25, 0, 0, 0, []),
  (35, .iinc 1 1, 3, 0, 0, 0, 0, []),
  (38, .goto (-36), 3, 2, 0, 0, 0, []),
  (41, .iload_n 1, 1, 0, 0, 0, 0, []),
  (42, .ireturn, 1, 0, 0, 0, 0, [])]
def m_X4_looseEnds : am_M := (yX4_looseEnds, cX4_looseEnds, 2, some .int)
def t_X4_closedSize : List ri_row := [(0, .aload_n 0, 1, 0, 0, 0, 0, []),
  (1, .getfield 19, 3, 4, 1, 120, 0, []),
  (4, .iconst 2, 1, 0, 0, 0, 0, []),
  (5, .aload_n 0, 1, 0, 0, 0, 0, []),
  (6, .invokevirtual 32, 3, 31, 4, 417, 0, []),
  (9, .imul, 1, 0, 0, 0, 0, []),
  (10, .isub, 1, 0, 0, 0, 0, []),
  (11, .ireturn, 1, 0, 0, 0, 0, [])]
def m_X4_closedSize : am_M := (yX4_closedSize, cX4_closedSize, 1, some .int)
def t_X4_close : List ri_row := [(0, .aload_n 0, 1, 0, 0, 0, 0, []),
  (1, .invokevirtual 32, 3, 31, 4, 417, 0, []),
  (4, .istore_n 1, 1, 0, 0, 0, 0, []),
  (5, .aload_n 0, 1, 0, 0, 0, 0, []),
  (6, .dup, 1, 0, 0, 0, 0, []),
  (7, .getfield 19, 3, 4, 1, 120, 0, []),
  (10, .iconst 2, 1, 0, 0, 0, 0, []),
  (11, .iload_n 1, 1, 0, 0, 0, 0, []),
  (12, .imul, 1, 0, 0, 0, 0, []),
  (13, .isub, 1, 0, 0, 0, 0, []),
  (14, .putfield 19, 3, 4, 1, 120, 0, []),
  (17, .aload_n 0, 1, 0, 0, 0, 0, []),
  (18, .getfield 13, 3, 4, 0, 116, 0, []),
  (21, .iload_n 1, 1, 0, 0, 0, 0, []),
  (22, .aload_n 0, 1, 0, 0, 0, 0, []),
  (23, .getfield 13, 3, 4, 0, 116, 0, []),
  (26, .iconst 0, 1, 0, 0, 0, 0, []),
  (27, .aload_n 0, 1, 0, 0, 0, 0, []),
  (28, .getfield 19, 3, 4, 1, 120, 0, []),
  (31, .invokestatic 26, 3, 0, 2, 412, 0, []),
  (34, .return_, 1, 0, 0, 0, 0, [])]
def m_X4_close : am_M := (yX4_close, cX4_close, 2, none)
def t_X4_isLike : List ri_row := [(0, .aload_n 0, 1, 0, 0, 0, 0, []),
  (1, .getfield 19, 3, 4, 1, 120, 0, []),
  (4, .aload_n 1, 1, 0, 0, 0, 0, []),
  (5, .getfield 19, 3, 4, 1, 120, 0, []),
  (8, .if_icmp .eq 5, 3, 7, 0, 0, 0, []),
  (11, .iconst 0, 1, 0, 0, 0, 0, []),
  (12, .ireturn, 1, 0, 1, 0, 0, []),
  (13, .iconst 0, 1, 0, 0, 0, 0, []),
  (14, .istore_n 2, 1, 0, 0, 0, 0, []),
  (15, .iload_n 2, 1, 0, 0, 0, 0, []),
  (16, .aload_n 0, 1, 0, 0, 0, 0, []),
  (17, .getfield 19, 3, 4, 1, 120, 0, []),
  (20, .if_icmp .ge 26, 3, 26, 0, 0, 0, []),
  (23, .aload_n 0, 1, 0, 0, 0, 0, []),
  (24, .getfield 13, 3, 4, 0, 116, 0, []),
  (27, .iload_n 2, 1, 0, 0, 0, 0, []),
  (28, .iaload, 1, 0, 0, 0, 0, []),
  (29, .aload_n 1, 1, 0, 0, 0, 0, []),
  (30, .getfield 13, 3, 4, 0, 116, 0, []),
  (33, .iload_n 2, 1, 0, 0, 0, 0, []),
  (34, .iaload, 1, 0, 0, 0, 0, []),
  (35, .if_icmp .eq 5, 3, 24, 0, 0, 0, []),
  (38, .iconst 0, 1, 0, 0, 0, 0, []),
  (39, .ireturn, 1, 0, 1, 0, 0, []),
  (40, .iinc 2 1, 3, 0, 0, 0, 0, []),
  (43, .goto (-28), 3, 9, 0, 0, 0, []),
  (46, .iconst 1, 1, 0, 0, 0, 0, []),
  (47, .ireturn, 1, 0, 1, 0, 0, [])]
def m_X4_isLike : am_M := (yX4_isLike, cX4_isLike, 3, some .boolean)
def t_X4_isOneWith : List ri_row := [(0, .aload_n 0, 1, 0, 0, 0, 0, []),
  (1, .invokevirtual 32, 3, 31, 4, 417, 0, []),
  (4, .istore_n 2, 1, 0, 0, 0, 0, []),
  (5, .aload_n 0, 1, 0, 0, 0, 0, []),
  (6, .getfield 19, 3, 4, 1, 120, 0, []),
  (9, .iconst 2, 1, 0, 0, 0, 0, []),
  (10, .iload_n 2, 1, 0, 0, 0, 0, []),
  (11, .imul, 1, 0, 0, 0, 0, []),
  (12, .isub, 1, 0, 0, 0, 0, []),
  (13, .aload_n 1, 1, 0, 0, 0, 0, []),
  (14, .getfield 19, 3, 4, 1, 120, 0, []),
  (17, .if_icmp .eq 5, 3, 14, 0, 0, 0, []),
  (20, .iconst 0, 1, 0, 0, 0, 0, []),
  (21, .ireturn, 1, 0, 1, 0, 0, []),
  (22, .iconst 0, 1, 0, 0, 0, 0, []),
  (23, .istore_n 3, 1, 0, 0, 0, 0, []),
  (24, .iload_n 3, 1, 0, 0, 0, 0, []),
  (25, .aload_n 1, 1, 0, 0, 0, 0, []),
  (26, .getfield 19, 3, 4, 1, 120, 0, []),
  (29, .if_icmp .ge 31, 3, 36, 0, 0, 0, []),
  (32, .aload_n 0, 1, 0, 0, 0, 0, []),
  (33, .iload_n 2, 1, 0, 0, 0, 0, []),
  (34, .aload_n 1, 1, 0, 0, 0, 0, []),
  (35, .iload_n 3, 1, 0, 0, 0, 0, []),
  (36, .invokevirtual 36, 3, 36, 4, 483, 0, []),
  (39, .ifCond .ne 13, 3, 32, 0, 0, 0, []),
  (42, .aload_n 0, 1, 0, 0, 0, 0, []),
  (43, .iload_n 2, 1, 0, 0, 0, 0, []),
  (44, .aload_n 1, 1, 0, 0, 0, 0, []),
  (45, .iload_n 3, 1, 0, 0, 0, 0, []),
  (46, .invokevirtual 40, 3, 37, 4, 487, 0, []),
  (49, .ifCond .eq 5, 3, 34, 0, 0, 0, []),
  (52, .iconst 1, 1, 0, 0, 0, 0, []),
  (53, .ireturn, 1, 0, 1, 0, 0, []),
  (54, .iinc 3 1, 3, 0, 0, 0, 0, []),
  (57, .goto (-33), 3, 16, 0, 0, 0, []),
  (60, .iconst 0, 1, 0, 0, 0, 0, []),
  (61, .ireturn, 1, 0, 1, 0, 0, [])]
def m_X4_isOneWith : am_M := (yX4_isOneWith, cX4_isOneWith, 4, some .boolean)
def t_X4_runsAlong : List ri_row := [(0, .iload_n 3, 1, 0, 0, 0, 0, []),
  (1, .istore 4, 2, 0, 0, 0, 0, []),
  (3, .iconst 0, 1, 0, 0, 0, 0, []),
  (4, .istore 5, 2, 0, 0, 0, 0, []),
  (6, .iload 5, 2, 0, 0, 0, 0, []),
  (8, .aload_n 2, 1, 0, 0, 0, 0, []),
  (9, .getfield 19, 3, 4, 1, 120, 0, []),
  (12, .if_icmp .ge 51, 3, 35, 0, 0, 0, []),
  (15, .aload_n 0, 1, 0, 0, 0, 0, []),
  (16, .getfield 13, 3, 4, 0, 116, 0, []),
  (19, .iload_n 1, 1, 0, 0, 0, 0, []),
  (20, .iload 5, 2, 0, 0, 0, 0, []),
  (22, .iadd, 1, 0, 0, 0, 0, []),
  (23, .iaload, 1, 0, 0, 0, 0, []),
  (24, .aload_n 2, 1, 0, 0, 0, 0, []),
  (25, .getfield 13, 3, 4, 0, 116, 0, []),
  (28, .iload 4, 2, 0, 0, 0, 0, []),
  (30, .iaload, 1, 0, 0, 0, 0, []),
  (31, .if_icmp .eq 5, 3, 21, 0, 0, 0, []),
  (34, .iconst 0, 1, 0, 0, 0, 0, []),
  (35, .ireturn, 1, 0, 1, 0, 0, []),
  (36, .iload 4, 2, 0, 0, 0, 0, []),
  (38, .iconst 1, 1, 0, 0, 0, 0, []),
  (39, .iadd, 1, 0, 0, 0, 0, []),
  (40, .aload_n 2, 1, 0, 0, 0, 0, []),
  (41, .getfield 19, 3, 4, 1, 120, 0, []),
  (44, .if_icmp .ne 7, 3, 29, 0, 0, 0, []),
  (47, .iconst 0, 1, 0, 0, 0, 0, []),
  (48, .goto 7, 3, 32, 0, 0, 0, []),
  (51, .iload 4, 2, 0, 0, 0, 0, []),
  (53, .iconst 1, 1, 0, 0, 0, 0, []),
  (54, .iadd, 1, 0, 0, 0, 0, []),
  (55, .istore 4, 2, 0, 0, 0, 0, []),
  (57, .iinc 5 1, 3, 0, 0, 0, 0, []),
  (60, .goto (-54), 3, 4, 0, 0, 0, []),
  (63, .iconst 1, 1, 0, 0, 0, 0, []),
  (64, .ireturn, 1, 0, 1, 0, 0, [])]
def m_X4_runsAlong : am_M := (yX4_runsAlong, cX4_runsAlong, 6, some .boolean)
def t_X4_runsAgainst : List ri_row := [(0, .iload_n 3, 1, 0, 0, 0, 0, []),
  (1, .istore 4, 2, 0, 0, 0, 0, []),
  (3, .iconst 0, 1, 0, 0, 0, 0, []),
  (4, .istore 5, 2, 0, 0, 0, 0, []),
  (6, .iload 5, 2, 0, 0, 0, 0, []),
  (8, .aload_n 2, 1, 0, 0, 0, 0, []),
  (9, .getfield 19, 3, 4, 1, 120, 0, []),
  (12, .if_icmp .ge 51, 3, 35, 0, 0, 0, []),
  (15, .aload_n 0, 1, 0, 0, 0, 0, []),
  (16, .getfield 13, 3, 4, 0, 116, 0, []),
  (19, .iload_n 1, 1, 0, 0, 0, 0, []),
  (20, .iload 5, 2, 0, 0, 0, 0, []),
  (22, .iadd, 1, 0, 0, 0, 0, []),
  (23, .iaload, 1, 0, 0, 0, 0, []),
  (24, .aload_n 2, 1, 0, 0, 0, 0, []),
  (25, .getfield 13, 3, 4, 0, 116, 0, []),
  (28, .iload 4, 2, 0, 0, 0, 0, []),
  (30, .iaload, 1, 0, 0, 0, 0, []),
  (31, .ineg, 1, 0, 0, 0, 0, []),
  (32, .if_icmp .eq 5, 3, 22, 0, 0, 0, []),
  (35, .iconst 0, 1, 0, 0, 0, 0, []),
  (36, .ireturn, 1, 0, 1, 0, 0, []),
  (37, .iload 4, 2, 0, 0, 0, 0, []),
  (39, .ifCond .ne 12, 3, 29, 0, 0, 0, []),
  (42, .aload_n 2, 1, 0, 0, 0, 0, []),
  (43, .getfield 19, 3, 4, 1, 120, 0, []),
  (46, .iconst 1, 1, 0, 0, 0, 0, []),
  (47, .isub, 1, 0, 0, 0, 0, []),
  (48, .goto 7, 3, 32, 0, 0, 0, []),
  (51, .iload 4, 2, 0, 0, 0, 0, []),
  (53, .iconst 1, 1, 0, 0, 0, 0, []),
  (54, .isub, 1, 0, 0, 0, 0, []),
  (55, .istore 4, 2, 0, 0, 0, 0, []),
  (57, .iinc 5 1, 3, 0, 0, 0, 0, []),
  (60, .goto (-54), 3, 4, 0, 0, 0, []),
  (63, .iconst 1, 1, 0, 0, 0, 0, []),
  (64, .ireturn, 1, 0, 1, 0, 0, [])]
def m_X4_runsAgainst : am_M := (yX4_runsAgainst, cX4_runsAgainst, 6, some .boolean)
def t_X4_isPower : List ri_row := [(0, .iconst 1, 1, 0, 0, 0, 0, []),
  (1, .istore_n 1, 1, 0, 0, 0, 0, []),
  (2, .iload_n 1, 1, 0, 0, 0, 0, []),
  (3, .aload_n 0, 1, 0, 0, 0, 0, []),
  (4, .getfield 19, 3, 4, 1, 120, 0, []),
  (7, .iconst 2, 1, 0, 0, 0, 0, []),
  (8, .idiv, 1, 0, 0, 0, 0, []),
  (9, .if_icmp .gt 28, 3, 21, 0, 0, 0, []),
  (12, .aload_n 0, 1, 0, 0, 0, 0, []),
  (13, .getfield 19, 3, 4, 1, 120, 0, []),
  (16, .iload_n 1, 1, 0, 0, 0, 0, []),
  (17, .irem, 1, 0, 0, 0, 0, []),
  (18, .ifCond .ne 13, 3, 19, 0, 0, 0, []),
  (21, .aload_n 0, 1, 0, 0, 0, 0, []),
  (22, .iload_n 1, 1, 0, 0, 0, 0, []),
  (23, .invokevirtual 43, 3, 39, 4, 425, 0, []),
  (26, .ifCond .eq 5, 3, 19, 0, 0, 0, []),
  (29, .iconst 1, 1, 0, 0, 0, 0, []),
  (30, .ireturn, 1, 0, 1, 0, 0, []),
  (31, .iinc 1 1, 3, 0, 0, 0, 0, []),
  (34, .goto (-32), 3, 2, 0, 0, 0, []),
  (37, .iconst 0, 1, 0, 0, 0, 0, []),
  (38, .ireturn, 1, 0, 1, 0, 0, [])]
def m_X4_isPower : am_M := (yX4_isPower, cX4_isPower, 2, some .boolean)
def t_X4_repeats : List ri_row := [(0, .iload_n 1, 1, 0, 0, 0, 0, []),
  (1, .istore_n 2, 1, 0, 0, 0, 0, []),
  (2, .iload_n 2, 1, 0, 0, 0, 0, []),
  (3, .aload_n 0, 1, 0, 0, 0, 0, []),
  (4, .getfield 19, 3, 4, 1, 120, 0, []),
  (7, .if_icmp .ge 28, 3, 21, 0, 0, 0, []),
  (10, .aload_n 0, 1, 0, 0, 0, 0, []),
  (11, .getfield 13, 3, 4, 0, 116, 0, []),
  (14, .iload_n 2, 1, 0, 0, 0, 0, []),
  (15, .iaload, 1, 0, 0, 0, 0, []),
  (16, .aload_n 0, 1, 0, 0, 0, 0, []),
  (17, .getfield 13, 3, 4, 0, 116, 0, []),
  (20, .iload_n 2, 1, 0, 0, 0, 0, []),
  (21, .iload_n 1, 1, 0, 0, 0, 0, []),
  (22, .isub, 1, 0, 0, 0, 0, []),
  (23, .iaload, 1, 0, 0, 0, 0, []),
  (24, .if_icmp .eq 5, 3, 19, 0, 0, 0, []),
  (27, .iconst 0, 1, 0, 0, 0, 0, []),
  (28, .ireturn, 1, 0, 1, 0, 0, []),
  (29, .iinc 2 1, 3, 0, 0, 0, 0, []),
  (32, .goto (-30), 3, 2, 0, 0, 0, []),
  (35, .iconst 1, 1, 0, 0, 0, 0, []),
  (36, .ireturn, 1, 0, 1, 0, 0, [])]
def m_X4_repeats : am_M := (yX4_repeats, cX4_repeats, 3, some .boolean)
def t_X4_balanceOf : List ri_row := [(0, .iconst 0, 1, 0, 0, 0, 0, []),
  (1, .istore_n 2, 1, 0, 0, 0, 0, []),
  (2, .iconst 0, 1, 0, 0, 0, 0, []),
  (3, .istore_n 3, 1, 0, 0, 0, 0, []),
  (4, .iload_n 3, 1, 0, 0, 0, 0, []),
  (5, .aload_n 0, 1, 0, 0, 0, 0, []),
  (6, .getfield 19, 3, 4, 1, 120, 0, []),
  (9, .if_icmp .ge 39, 3, 26, 0, 0, 0, []),
  (12, .aload_n 0, 1, 0, 0, 0, 0, []),
  (13, .getfield 13, 3, 4, 0, 116, 0, []),
  (16, .iload_n 3, 1, 0, 0, 0, 0, []),
  (17, .iaload, 1, 0, 0, 0, 0, []),
  (18, .iload_n 1, 1, 0, 0, 0, 0, []),
  (19, .if_icmp .ne 9, 3, 16, 0, 0, 0, []),
  (22, .iinc 2 1, 3, 0, 0, 0, 0, []),
  (25, .goto 17, 3, 24, 0, 0, 0, []),
  (28, .aload_n 0, 1, 0, 0, 0, 0, []),
  (29, .getfield 13, 3, 4, 0, 116, 0, []),
  (32, .iload_n 3, 1, 0, 0, 0, 0, []),
  (33, .iaload, 1, 0, 0, 0, 0, []),
  (34, .iload_n 1, 1, 0, 0, 0, 0, []),
  (35, .ineg, 1, 0, 0, 0, 0, []),
  (36, .if_icmp .ne 6, 3, 24, 0, 0, 0, []),
  (39, .iinc 2 (-1), 3, 0, 0, 0, 0, []),
  (42, .iinc 3 1, 3, 0, 0, 0, 0, []),
  (45, .goto (-41), 3, 4, 0, 0, 0, []),
  (48, .iload_n 2, 1, 0, 0, 0, 0, []),
  (49, .ireturn, 1, 0, 0, 0, 0, [])]
def m_X4_balanceOf : am_M := (yX4_balanceOf, cX4_balanceOf, 4, some .int)
def t_X5_init : List ri_row := [(0, .aload_n 0, 1, 0, 0, 0, 0, []),
  (1, .invokespecial 3, 3, 0, 1, 199, 0, []),
  (4, .aload_n 0, 1, 0, 0, 0, 0, []),
  (5, .iconst 4, 1, 0, 0, 0, 0, []),
  (6, .anewarray 9, 3, 2, 0, 200, 0, []),
  (9, .putfield 11, 3, 5, 2, 204, 2, []),
  (12, .aload_n 0, 1, 0, 0, 0, 0, []),
  (13, .bipush 16, 2, 0, 0, 0, 0, []),
  (15, .newarray .int, 2, 0, 0, 0, 0, []),
  (17, .putfield 17, 3, 5, 3, 205, 2, []),
  (20, .aload_n 0, 1, 0, 0, 0, 0, []),
  (21, .new 9, 3, 4, 0, 200, 0, []),
  (24, .dup, 1, 0, 0, 0, 0, []),
  (25, .bipush 60, 2, 0, 0, 0, 0, []),
  (27, .invokespecial 21, 3, 26, 0, 201, 0, []),
  (30, .putfield 24, 3, 5, 4, 206, 2, []),
  (33, .aload_n 0, 1, 0, 0, 0, 0, []),
  (34, .aload_n 1, 1, 0, 0, 0, 0, []),
  (35, .putfield 28, 3, 5, 0, 202, 2, []),
  (38, .aload_n 0, 1, 0, 0, 0, 0, []),
  (39, .aload_n 2, 1, 0, 0, 0, 0, []),
  (40, .putfield 32, 3, 5, 1, 203, 2, []),
  (43, .iconst 0, 1, 0, 0, 0, 0, []),
  (44, .istore_n 3, 1, 0, 0, 0, 0, []),
  (45, .iload_n 3, 1, 0, 0, 0, 0, []),
  (46, .iconst 3, 1, 0, 0, 0, 0, []),
  (47, .if_icmp .gt 25, 3, 37, 0, 0, 0, []),
  (50, .aload_n 0, 1, 0, 0, 0, 0, []),
  (51, .getfield 11, 3, 5, 2, 204, 0, []),
  (54, .iload_n 3, 1, 0, 0, 0, 0, []),
  (55, .new 9, 3, 4, 0, 200, 0, []),
  (58, .dup, 1, 0, 0, 0, 0, []),
  (59, .sipush 400, 3, 0, 0, 0, 0, []),
  (62, .invokespecial 21, 3, 26, 0, 201, 0, []),
  (65, .aastore, 1, 0, 0, 0, 0, []),
  (66, .iinc 3 1, 3, 0, 0, 0, 0, []),
  (69, .goto (-24), 3, 24, 0, 0, 0, []),
  (72, .return_, 1, 0, 0, 0, 0, [])]
def m_X5_init : am_M := (yX5_init, cX5_init, 4, none)
def t_X5_forCarrying : List ri_row := [(0, .aload_n 0, 1, 0, 0, 0, 0, []),
  (1, .getfield 24, 3, 5, 4, 206, 0, []),
  (4, .aload_n 2, 1, 0, 0, 0, 0, []),
  (5, .invokevirtual 36, 3, 29, 4, 737, 0, []),
  (8, .aload_n 0, 1, 0, 0, 0, 0, []),
  (9, .invokevirtual 40, 3, 43, 5, 738, 0, []),
  (12, .aload_n 0, 1, 0, 0, 0, 0, []),
  (13, .getfield 11, 3, 5, 2, 204, 0, []),
  (16, .iconst 0, 1, 0, 0, 0, 0, []),
  (17, .aaload, 1, 0, 0, 0, 0, []),
  (18, .aload_n 1, 1, 0, 0, 0, 0, []),
  (19, .invokevirtual 36, 3, 29, 4, 737, 0, []),
  (22, .aload_n 1, 1, 0, 0, 0, 0, []),
  (23, .aload_n 2, 1, 0, 0, 0, 0, []),
  (24, .invokevirtual 43, 3, 35, 4, 747, 0, []),
  (27, .ifCond .eq 11, 3, 21, 0, 0, 0, []),
  (30, .aload 4, 2, 0, 0, 0, 0, []),
  (32, .iconst 0, 1, 0, 0, 0, 0, []),
  (33, .putfield 47, 3, 2, 1, 238, 0, []),
  (36, .iconst 1, 1, 0, 0, 0, 0, []),
  (37, .ireturn, 1, 0, 1, 0, 0, []),
  (38, .iconst 1, 1, 0, 0, 0, 0, []),
  (39, .istore 5, 2, 0, 0, 0, 0, []),
  (41, .iload 5, 2, 0, 0, 0, 0, []),
  (43, .iload_n 3, 1, 0, 0, 0, 0, []),
  (44, .if_icmp .gt 45, 3, 49, 0, 0, 0, []),
  (47, .aload_n 0, 1, 0, 0, 0, 0, []),
  (48, .iconst (-1), 1, 0, 0, 0, 0, []),
  (49, .putfield 53, 3, 5, 5, 207, 0, []),
  (52, .aload_n 0, 1, 0, 0, 0, 0, []),
  (53, .iconst 0, 1, 0, 0, 0, 0, []),
  (54, .iload 5, 2, 0, 0, 0, 0, []),
  (56, .iconst 0, 1, 0, 0, 0, 0, []),
  (57, .iconst 1, 1, 0, 0, 0, 0, []),
  (58, .invokevirtual 56, 3, 44, 5, 748, 0, []),
  (61, .aload_n 0, 1, 0, 0, 0, 0, []),
  (62, .getfield 53, 3, 5, 5, 207, 0, []),
  (65, .iconst (-1), 1, 0, 0, 0, 0, []),
  (66, .if_icmp .eq 17, 3, 47, 0, 0, 0, []),
  (69, .aload_n 0, 1, 0, 0, 0, 0, []),
  (70, .aload_n 0, 1, 0, 0, 0, 0, []),
  (71, .getfield 53, 3, 5, 5, 207, 0, []),
  (74, .iload 5, 2, 0, 0, 0, 0, []),
  (76, .aload 4, 2, 0, 0, 0, 0, []),
  (78, .invokevirtual 60, 3, 45, 5, 752, 0, []),
  (81, .iconst 1, 1, 0, 0, 0, 0, []),
  (82, .ireturn, 1, 0, 1, 0, 0, []),
  (83, .iinc 5 1, 3, 0, 0, 0, 0, []),
  (86, .goto (-45), 3, 23, 0, 0, 0, []),
  (89, .iconst 0, 1, 0, 0, 0, 0, []),
  (90, .ireturn, 1, 0, 1, 0, 0, [])]
def m_X5_forCarrying : am_M := (yX5_forCarrying, cX5_forCarrying, 6, some .boolean)
def t_X5_measureAhead : List ri_row := [(0, .iconst 0, 1, 0, 0, 0, 0, []),
  (1, .istore_n 1, 1, 0, 0, 0, 0, []),
  (2, .iload_n 1, 1, 0, 0, 0, 0, []),
  (3, .iconst 2, 1, 0, 0, 0, 0, []),
  (4, .aload_n 0, 1, 0, 0, 0, 0, []),
  (5, .getfield 28, 3, 5, 0, 202, 0, []),
  (8, .getfield 64, 3, 7, 0, 140, 0, []),
  (11, .imul, 1, 0, 0, 0, 0, []),
  (12, .if_icmp .ge 60, 3, 40, 0, 0, 0, []),
  (15, .aload_n 0, 1, 0, 0, 0, 0, []),
  (16, .getfield 11, 3, 5, 2, 204, 0, []),
  (19, .iconst 0, 1, 0, 0, 0, 0, []),
  (20, .aaload, 1, 0, 0, 0, 0, []),
  (21, .aload_n 0, 1, 0, 0, 0, 0, []),
  (22, .getfield 24, 3, 5, 4, 206, 0, []),
  (25, .invokevirtual 36, 3, 29, 4, 737, 0, []),
  (28, .aload_n 0, 1, 0, 0, 0, 0, []),
  (29, .getfield 17, 3, 5, 3, 205, 0, []),
  (32, .iload_n 1, 1, 0, 0, 0, 0, []),
  (33, .aload_n 0, 1, 0, 0, 0, 0, []),
  (34, .getfield 28, 3, 5, 0, 202, 0, []),
  (37, .iload_n 1, 1, 0, 0, 0, 0, []),
  (38, .iconst 1, 1, 0, 0, 0, 0, []),
  (39, .ixor, 1, 0, 0, 0, 0, []),
  (40, .aload_n 0, 1, 0, 0, 0, 0, []),
  (41, .getfield 11, 3, 5, 2, 204, 0, []),
  (44, .iconst 0, 1, 0, 0, 0, 0, []),
  (45, .aaload, 1, 0, 0, 0, 0, []),
  (46, .invokevirtual 69, 3, 65, 7, 742, 0, []),
  (49, .ifCond .eq 15, 3, 36, 0, 0, 0, []),
  (52, .aload_n 0, 1, 0, 0, 0, 0, []),
  (53, .getfield 11, 3, 5, 2, 204, 0, []),
  (56, .iconst 0, 1, 0, 0, 0, 0, []),
  (57, .aaload, 1, 0, 0, 0, 0, []),
  (58, .invokevirtual 73, 3, 32, 4, 743, 0, []),
  (61, .goto 4, 3, 37, 0, 0, 0, []),
  (64, .iconst (-1), 1, 0, 0, 0, 0, []),
  (65, .iastore, 1, 0, 0, 0, 0, []),
  (66, .iinc 1 1, 3, 0, 0, 0, 0, []),
  (69, .goto (-67), 3, 2, 0, 0, 0, []),
  (72, .return_, 1, 0, 0, 0, 0, [])]
def m_X5_measureAhead : am_M := (yX5_measureAhead, cX5_measureAhead, 2, none)
def t_X5_tryTwists : List ri_row := [(0, .iload_n 1, 1, 0, 0, 0, 0, []),
  (1, .ifCond .lt 17, 3, 10, 0, 0, 0, []),
  (4, .iload_n 1, 1, 0, 0, 0, 0, []),
  (5, .iload_n 2, 1, 0, 0, 0, 0, []),
  (6, .if_icmp .ge 12, 3, 10, 0, 0, 0, []),
  (9, .iload_n 2, 1, 0, 0, 0, 0, []),
  (10, .aload_n 0, 1, 0, 0, 0, 0, []),
  (11, .getfield 11, 3, 5, 2, 204, 0, []),
  (14, .arraylength, 1, 0, 0, 0, 0, []),
  (15, .if_icmp .lt 4, 3, 11, 0, 0, 0, []),
  (18, .return_, 1, 0, 0, 0, 0, []),
  (19, .iload_n 1, 1, 0, 0, 0, 0, []),
  (20, .iconst 1, 1, 0, 0, 0, 0, []),
  (21, .iadd, 1, 0, 0, 0, 0, []),
  (22, .iload_n 2, 1, 0, 0, 0, 0, []),
  (23, .if_icmp .ne 7, 3, 18, 0, 0, 0, []),
  (26, .iconst 1, 1, 0, 0, 0, 0, []),
  (27, .goto 4, 3, 19, 0, 0, 0, []),
  (30, .iconst 0, 1, 0, 0, 0, 0, []),
  (31, .istore 5, 2, 0, 0, 0, 0, []),
  (33, .aload_n 0, 1, 0, 0, 0, 0, []),
  (34, .getfield 11, 3, 5, 2, 204, 0, []),
  (37, .iload_n 1, 1, 0, 0, 0, 0, []),
  (38, .aaload, 1, 0, 0, 0, 0, []),
  (39, .invokevirtual 73, 3, 32, 4, 743, 0, []),
  (42, .istore 6, 2, 0, 0, 0, 0, []),
  (44, .iconst 0, 1, 0, 0, 0, 0, []),
  (45, .istore 7, 2, 0, 0, 0, 0, []),
  (47, .iload 7, 2, 0, 0, 0, 0, []),
  (49, .iconst 2, 1, 0, 0, 0, 0, []),
  (50, .aload_n 0, 1, 0, 0, 0, 0, []),
  (51, .getfield 28, 3, 5, 0, 202, 0, []),
  (54, .getfield 64, 3, 7, 0, 140, 0, []),
  (57, .imul, 1, 0, 0, 0, 0, []),
  (58, .if_icmp .ge 158, 3, 114, 0, 0, 0, []),
  (61, .iload_n 3, 1, 0, 0, 0, 0, []),
  (62, .iload 7, 2, 0, 0, 0, 0, []),
  (64, .iload 4, 2, 0, 0, 0, 0, []),
  (66, .imul, 1, 0, 0, 0, 0, []),
  (67, .iadd, 1, 0, 0, 0, 0, []),
  (68, .istore 8, 2, 0, 0, 0, 0, []),
  (70, .iload 5, 2, 0, 0, 0, 0, []),
  (72, .ifCond .eq 21, 3, 52, 0, 0, 0, []),
  (75, .aload_n 0, 1, 0, 0, 0, 0, []),
  (76, .getfield 53, 3, 5, 5, 207, 0, []),
  (79, .iconst (-1), 1, 0, 0, 0, 0, []),
  (80, .if_icmp .eq 13, 3, 52, 0, 0, 0, []),
  (83, .iload 8, 2, 0, 0, 0, 0, []),
  (85, .aload_n 0, 1, 0, 0, 0, 0, []),
  (86, .getfield 53, 3, 5, 5, 207, 0, []),
  (89, .if_icmp .lt 4, 3, 52, 0, 0, 0, []),
  (92, .return_, 1, 0, 0, 0, 0, []),
  (93, .iload 5, 2, 0, 0, 0, 0, []),
  (95, .ifCond .eq 29, 3, 67, 0, 0, 0, []),
  (98, .aload_n 0, 1, 0, 0, 0, 0, []),
  (99, .getfield 17, 3, 5, 3, 205, 0, []),
  (102, .iload 7, 2, 0, 0, 0, 0, []),
  (104, .iaload, 1, 0, 0, 0, 0, []),
  (105, .iconst (-1), 1, 0, 0, 0, 0, []),
  (106, .if_icmp .eq 18, 3, 67, 0, 0, 0, []),
  (109, .aload_n 0, 1, 0, 0, 0, 0, []),
  (110, .getfield 17, 3, 5, 3, 205, 0, []),
  (113, .iload 7, 2, 0, 0, 0, 0, []),
  (115, .iaload, 1, 0, 0, 0, 0, []),
  (116, .iload 6, 2, 0, 0, 0, 0, []),
  (118, .if_icmp .eq 6, 3, 67, 0, 0, 0, []),
  (121, .goto 89, 3, 112, 0, 0, 0, []),
  (124, .aload_n 0, 1, 0, 0, 0, 0, []),
  (125, .getfield 11, 3, 5, 2, 204, 0, []),
  (128, .iload_n 1, 1, 0, 0, 0, 0, []),
  (129, .iconst 1, 1, 0, 0, 0, 0, []),
  (130, .iadd, 1, 0, 0, 0, 0, []),
  (131, .aaload, 1, 0, 0, 0, 0, []),
  (132, .astore 9, 2, 0, 0, 0, 0, []),
  (134, .aload 9, 2, 0, 0, 0, 0, []),
  (136, .aload_n 0, 1, 0, 0, 0, 0, []),
  (137, .getfield 11, 3, 5, 2, 204, 0, []),
  (140, .iload_n 1, 1, 0, 0, 0, 0, []),
  (141, .aaload, 1, 0, 0, 0, 0, []),
  (142, .invokevirtual 36, 3, 29, 4, 737, 0, []),
  (145, .aload_n 0, 1, 0, 0, 0, 0, []),
  (146, .getfield 28, 3, 5, 0, 202, 0, []),
  (149, .iload 7, 2, 0, 0, 0, 0, []),
  (151, .aload 9, 2, 0, 0, 0, 0, []),
  (153, .invokevirtual 69, 3, 65, 7, 742, 0, []),
  (156, .ifCond .ne 6, 3, 87, 0, 0, 0, []),
  (159, .goto 51, 3, 112, 0, 0, 0, []),
  (162, .iload 5, 2, 0, 0, 0, 0, []),
  (164, .ifCond .ne 28, 3, 104, 0, 0, 0, []),
  (167, .aload_n 0, 1, 0, 0, 0, 0, []),
  (168, .iload_n 1, 1, 0, 0, 0, 0, []),
  (169, .iconst 1, 1, 0, 0, 0, 0, []),
  (170, .iadd, 1, 0, 0, 0, 0, []),
  (171, .iload_n 2, 1, 0, 0, 0, 0, []),
  (172, .iload 8, 2, 0, 0, 0, 0, []),
  (174, .iload 4, 2, 0, 0, 0, 0, []),
  (176, .iconst 2, 1, 0, 0, 0, 0, []),
  (177, .imul, 1, 0, 0, 0, 0, []),
  (178, .aload_n 0, 1, 0, 0, 0, 0, []),
  (179, .getfield 28, 3, 5, 0, 202, 0, []),
  (182, .getfield 64, 3, 7, 0, 140, 0, []),
  (185, .imul, 1, 0, 0, 0, 0, []),
  (186, .invokevirtual 56, 3, 44, 5, 748, 0, []),
  (189, .goto 21, 3, 112, 0, 0, 0, []),
  (192, .aload 9, 2, 0, 0, 0, 0, []),
  (194, .aload_n 0, 1, 0, 0, 0, 0, []),
  (195, .getfield 24, 3, 5, 4, 206, 0, []),
  (198, .invokevirtual 43, 3, 35, 4, 747, 0, []),
  (201, .ifCond .eq 9, 3, 112, 0, 0, 0, []),
  (204, .aload_n 0, 1, 0, 0, 0, 0, []),
  (205, .iload 8, 2, 0, 0, 0, 0, []),
  (207, .putfield 53, 3, 5, 5, 207, 0, []),
  (210, .iinc 7 1, 3, 0, 0, 0, 0, []),
  (213, .goto (-166), 3, 28, 0, 0, 0, []),
  (216, .return_, 1, 0, 0, 0, 0, [])]
def m_X5_tryTwists : am_M := (yX5_tryTwists, cX5_tryTwists, 10, none)
def t_X5_spell : List ri_row := [(0, .iconst 1, 1, 0, 0, 0, 0, []),
  (1, .iconst 2, 1, 0, 0, 0, 0, []),
  (2, .aload_n 0, 1, 0, 0, 0, 0, []),
  (3, .getfield 28, 3, 5, 0, 202, 0, []),
  (6, .getfield 64, 3, 7, 0, 140, 0, []),
  (9, .imul, 1, 0, 0, 0, 0, []),
  (10, .invokestatic 77, 3, 0, 3, 756, 0, []),
  (13, .istore 4, 2, 0, 0, 0, 0, []),
  (15, .iload_n 1, 1, 0, 0, 0, 0, []),
  (16, .istore 5, 2, 0, 0, 0, 0, []),
  (18, .aload_n 3, 1, 0, 0, 0, 0, []),
  (19, .iload_n 2, 1, 0, 0, 0, 0, []),
  (20, .putfield 47, 3, 2, 1, 238, 0, []),
  (23, .iload_n 2, 1, 0, 0, 0, 0, []),
  (24, .iconst 1, 1, 0, 0, 0, 0, []),
  (25, .isub, 1, 0, 0, 0, 0, []),
  (26, .istore 6, 2, 0, 0, 0, 0, []),
  (28, .iload 6, 2, 0, 0, 0, 0, []),
  (30, .ifCond .lt 28, 3, 32, 0, 0, 0, []),
  (33, .aload_n 3, 1, 0, 0, 0, 0, []),
  (34, .getfield 83, 3, 2, 0, 234, 0, []),
  (37, .iload 6, 2, 0, 0, 0, 0, []),
  (39, .iload 5, 2, 0, 0, 0, 0, []),
  (41, .iload 4, 2, 0, 0, 0, 0, []),
  (43, .irem, 1, 0, 0, 0, 0, []),
  (44, .iastore, 1, 0, 0, 0, 0, []),
  (45, .iload 5, 2, 0, 0, 0, 0, []),
  (47, .iload 4, 2, 0, 0, 0, 0, []),
  (49, .idiv, 1, 0, 0, 0, 0, []),
  (50, .istore 5, 2, 0, 0, 0, 0, []),
  (52, .iinc 6 (-1), 3, 0, 0, 0, 0, []),
  (55, .goto (-27), 3, 17, 0, 0, 0, []),
  (58, .return_, 1, 0, 0, 0, 0, [])]
def m_X5_spell : am_M := (yX5_spell, cX5_spell, 7, none)
def t_X5_forImages : List ri_row := [(0, .iconst 1, 1, 0, 0, 0, 0, []),
  (1, .istore_n 3, 1, 0, 0, 0, 0, []),
  (2, .iconst 0, 1, 0, 0, 0, 0, []),
  (3, .istore 4, 2, 0, 0, 0, 0, []),
  (5, .iload 4, 2, 0, 0, 0, 0, []),
  (7, .iload_n 1, 1, 0, 0, 0, 0, []),
  (8, .if_icmp .gt 55, 3, 35, 0, 0, 0, []),
  (11, .iconst 0, 1, 0, 0, 0, 0, []),
  (12, .istore 5, 2, 0, 0, 0, 0, []),
  (14, .iload 5, 2, 0, 0, 0, 0, []),
  (16, .iload_n 3, 1, 0, 0, 0, 0, []),
  (17, .if_icmp .ge 28, 3, 25, 0, 0, 0, []),
  (20, .aload_n 0, 1, 0, 0, 0, 0, []),
  (21, .iload 5, 2, 0, 0, 0, 0, []),
  (23, .iload 4, 2, 0, 0, 0, 0, []),
  (25, .aload_n 2, 1, 0, 0, 0, 0, []),
  (26, .invokevirtual 60, 3, 45, 5, 752, 0, []),
  (29, .aload_n 0, 1, 0, 0, 0, 0, []),
  (30, .aload_n 2, 1, 0, 0, 0, 0, []),
  (31, .invokevirtual 86, 3, 47, 5, 765, 0, []),
  (34, .ifCond .eq 5, 3, 23, 0, 0, 0, []),
  (37, .iconst 1, 1, 0, 0, 0, 0, []),
  (38, .ireturn, 1, 0, 1, 0, 0, []),
  (39, .iinc 5 1, 3, 0, 0, 0, 0, []),
  (42, .goto (-28), 3, 9, 0, 0, 0, []),
  (45, .iload_n 3, 1, 0, 0, 0, 0, []),
  (46, .iconst 2, 1, 0, 0, 0, 0, []),
  (47, .aload_n 0, 1, 0, 0, 0, 0, []),
  (48, .getfield 28, 3, 5, 0, 202, 0, []),
  (51, .getfield 64, 3, 7, 0, 140, 0, []),
  (54, .imul, 1, 0, 0, 0, 0, []),
  (55, .imul, 1, 0, 0, 0, 0, []),
  (56, .istore_n 3, 1, 0, 0, 0, 0, []),
  (57, .iinc 4 1, 3, 0, 0, 0, 0, []),
  (60, .goto (-55), 3, 4, 0, 0, 0, []),
  (63, .iconst 0, 1, 0, 0, 0, 0, []),
  (64, .ireturn, 1, 0, 1, 0, 0, [])]
def m_X5_forImages : am_M := (yX5_forImages, cX5_forImages, 6, some .boolean)
def t_X5_doesAsImages : List ri_row := [(0, .aload_n 0, 1, 0, 0, 0, 0, []),
  (1, .getfield 11, 3, 5, 2, 204, 0, []),
  (4, .iconst 0, 1, 0, 0, 0, 0, []),
  (5, .aaload, 1, 0, 0, 0, 0, []),
  (6, .astore_n 2, 1, 0, 0, 0, 0, []),
  (7, .iconst 1, 1, 0, 0, 0, 0, []),
  (8, .istore_n 3, 1, 0, 0, 0, 0, []),
  (9, .iload_n 3, 1, 0, 0, 0, 0, []),
  (10, .aload_n 0, 1, 0, 0, 0, 0, []),
  (11, .getfield 32, 3, 5, 1, 203, 0, []),
  (14, .getfield 90, 3, 0, 1, 182, 0, []),
  (17, .if_icmp .gt 46, 3, 35, 0, 0, 0, []),
  (20, .aload_n 2, 1, 0, 0, 0, 0, []),
  (21, .iload_n 3, 1, 0, 0, 0, 0, []),
  (22, .invokevirtual 95, 3, 28, 4, 769, 0, []),
  (25, .aload_n 0, 1, 0, 0, 0, 0, []),
  (26, .getfield 28, 3, 5, 0, 202, 0, []),
  (29, .aload_n 1, 1, 0, 0, 0, 0, []),
  (30, .aload_n 2, 1, 0, 0, 0, 0, []),
  (31, .invokevirtual 98, 3, 66, 7, 770, 0, []),
  (34, .ifCond .eq 21, 3, 31, 0, 0, 0, []),
  (37, .aload_n 2, 1, 0, 0, 0, 0, []),
  (38, .aload_n 0, 1, 0, 0, 0, 0, []),
  (39, .getfield 32, 3, 5, 1, 203, 0, []),
  (42, .getfield 102, 3, 0, 0, 179, 0, []),
  (45, .iload_n 3, 1, 0, 0, 0, 0, []),
  (46, .iconst 1, 1, 0, 0, 0, 0, []),
  (47, .isub, 1, 0, 0, 0, 0, []),
  (48, .aaload, 1, 0, 0, 0, 0, []),
  (49, .invokevirtual 105, 3, 34, 4, 771, 0, []),
  (52, .ifCond .ne 5, 3, 33, 0, 0, 0, []),
  (55, .iconst 0, 1, 0, 0, 0, 0, []),
  (56, .ireturn, 1, 0, 1, 0, 0, []),
  (57, .iinc 3 1, 3, 0, 0, 0, 0, []),
  (60, .goto (-51), 3, 7, 0, 0, 0, []),
  (63, .iconst 1, 1, 0, 0, 0, 0, []),
  (64, .ireturn, 1, 0, 1, 0, 0, [])]
def m_X5_doesAsImages : am_M := (yX5_doesAsImages, cX5_doesAsImages, 4, some .boolean)
def t_X6_init : List ri_row := [(0, .aload_n 0, 1, 0, 0, 0, 0, []),
  (1, .invokespecial 3, 3, 0, 1, 226, 0, []),
  (4, .aload_n 0, 1, 0, 0, 0, 0, []),
  (5, .iconst (-1), 1, 0, 0, 0, 0, []),
  (6, .putfield 9, 3, 6, 1, 249, 0, []),
  (9, .aload_n 0, 1, 0, 0, 0, 0, []),
  (10, .new 15, 3, 2, 0, 227, 0, []),
  (13, .dup, 1, 0, 0, 0, 0, []),
  (14, .invokespecial 17, 3, 17, 0, 229, 0, []),
  (17, .putfield 18, 3, 6, 2, 251, 2, []),
  (20, .aload_n 0, 1, 0, 0, 0, 0, []),
  (21, .bipush 120, 2, 0, 0, 0, 0, []),
  (23, .newarray .int, 2, 0, 0, 0, 0, []),
  (25, .putfield 22, 3, 6, 3, 253, 2, []),
  (28, .aload_n 0, 1, 0, 0, 0, 0, []),
  (29, .iconst 4, 1, 0, 0, 0, 0, []),
  (30, .newarray .int, 2, 0, 0, 0, 0, []),
  (32, .putfield 26, 3, 6, 4, 254, 2, []),
  (35, .return_, 1, 0, 0, 0, 0, [])]
def m_X6_init : am_M := (yX6_init, cX6_init, 1, none)
def t_X6_add : List ri_row := [(0, .aload_n 0, 1, 0, 0, 0, 0, []),
  (1, .getfield 29, 3, 6, 0, 247, 0, []),
  (4, .aload_n 0, 1, 0, 0, 0, 0, []),
  (5, .getfield 22, 3, 6, 3, 253, 0, []),
  (8, .arraylength, 1, 0, 0, 0, 0, []),
  (9, .if_icmp .ge 23, 3, 18, 0, 0, 0, []),
  (12, .aload_n 0, 1, 0, 0, 0, 0, []),
  (13, .getfield 22, 3, 6, 3, 253, 0, []),
  (16, .aload_n 0, 1, 0, 0, 0, 0, []),
  (17, .getfield 29, 3, 6, 0, 247, 0, []),
  (20, .iload_n 1, 1, 0, 0, 0, 0, []),
  (21, .iastore, 1, 0, 0, 0, 0, []),
  (22, .aload_n 0, 1, 0, 0, 0, 0, []),
  (23, .dup, 1, 0, 0, 0, 0, []),
  (24, .getfield 29, 3, 6, 0, 247, 0, []),
  (27, .iconst 1, 1, 0, 0, 0, 0, []),
  (28, .iadd, 1, 0, 0, 0, 0, []),
  (29, .putfield 29, 3, 6, 0, 247, 0, []),
  (32, .return_, 1, 0, 0, 0, 0, [])]
def m_X6_add : am_M := (yX6_add, cX6_add, 2, none)
def t_X6_understand : List ri_row := [(0, .aload_n 0, 1, 0, 0, 0, 0, []),
  (1, .getfield 18, 3, 6, 2, 251, 0, []),
  (4, .iconst 0, 1, 0, 0, 0, 0, []),
  (5, .putfield 32, 3, 2, 1, 239, 0, []),
  (8, .aload_n 0, 1, 0, 0, 0, 0, []),
  (9, .iload_n 1, 1, 0, 0, 0, 0, []),
  (10, .putfield 33, 3, 6, 5, 255, 0, []),
  (13, .aload_n 0, 1, 0, 0, 0, 0, []),
  (14, .iconst 0, 1, 0, 0, 0, 0, []),
  (15, .putfield 36, 3, 6, 6, 256, 0, []),
  (18, .aload_n 0, 1, 0, 0, 0, 0, []),
  (19, .iconst 0, 1, 0, 0, 0, 0, []),
  (20, .putfield 39, 3, 6, 7, 257, 0, []),
  (23, .iconst 0, 1, 0, 0, 0, 0, []),
  (24, .istore_n 2, 1, 0, 0, 0, 0, []),
  (25, .iload_n 2, 1, 0, 0, 0, 0, []),
  (26, .aload_n 0, 1, 0, 0, 0, 0, []),
  (27, .getfield 29, 3, 6, 0, 247, 0, []),
  (30, .if_icmp .ge 47, 3, 44, 0, 0, 0, []),
  (33, .aload_n 0, 1, 0, 0, 0, 0, []),
  (34, .iload_n 2, 1, 0, 0, 0, 0, []),
  (35, .putfield 9, 3, 6, 1, 249, 0, []),
  (38, .aload_n 0, 1, 0, 0, 0, 0, []),
  (39, .getfield 22, 3, 6, 3, 253, 0, []),
  (42, .iload_n 2, 1, 0, 0, 0, 0, []),
  (43, .iaload, 1, 0, 0, 0, 0, []),
  (44, .bipush 32, 2, 0, 0, 0, 0, []),
  (46, .if_icmp .ne 7, 3, 30, 0, 0, 0, []),
  (49, .iconst 0, 1, 0, 0, 0, 0, []),
  (50, .goto 14, 3, 37, 0, 0, 0, []),
  (53, .aload_n 0, 1, 0, 0, 0, 0, []),
  (54, .aload_n 0, 1, 0, 0, 0, 0, []),
  (55, .getfield 22, 3, 6, 3, 253, 0, []),
  (58, .iload_n 2, 1, 0, 0, 0, 0, []),
  (59, .iaload, 1, 0, 0, 0, 0, []),
  (60, .iload_n 2, 1, 0, 0, 0, 0, []),
  (61, .invokevirtual 42, 3, 51, 6, 527, 0, []),
  (64, .istore_n 3, 1, 0, 0, 0, 0, []),
  (65, .iload_n 3, 1, 0, 0, 0, 0, []),
  (66, .ifCond .eq 5, 3, 42, 0, 0, 0, []),
  (69, .iload_n 3, 1, 0, 0, 0, 0, []),
  (70, .ireturn, 1, 0, 0, 0, 0, []),
  (71, .iinc 2 1, 3, 0, 0, 0, 0, []),
  (74, .goto (-49), 3, 15, 0, 0, 0, []),
  (77, .aload_n 0, 1, 0, 0, 0, 0, []),
  (78, .aload_n 0, 1, 0, 0, 0, 0, []),
  (79, .getfield 29, 3, 6, 0, 247, 0, []),
  (82, .putfield 9, 3, 6, 1, 249, 0, []),
  (85, .aload_n 0, 1, 0, 0, 0, 0, []),
  (86, .getfield 36, 3, 6, 6, 256, 0, []),
  (89, .ifCond .gt 19, 3, 59, 0, 0, 0, []),
  (92, .aload_n 0, 1, 0, 0, 0, 0, []),
  (93, .getfield 39, 3, 6, 7, 257, 0, []),
  (96, .iconst 1, 1, 0, 0, 0, 0, []),
  (97, .if_icmp .eq 11, 3, 59, 0, 0, 0, []),
  (100, .aload_n 0, 1, 0, 0, 0, 0, []),
  (101, .getfield 39, 3, 6, 7, 257, 0, []),
  (104, .iconst 3, 1, 0, 0, 0, 0, []),
  (105, .if_icmp .ne 5, 3, 61, 0, 0, 0, []),
  (108, .iconst 1, 1, 0, 0, 0, 0, []),
  (109, .ireturn, 1, 0, 0, 0, 0, []),
  (110, .aload_n 0, 1, 0, 0, 0, 0, []),
  (111, .iconst (-1), 1, 0, 0, 0, 0, []),
  (112, .putfield 9, 3, 6, 1, 249, 0, []),
  (115, .iconst 0, 1, 0, 0, 0, 0, []),
  (116, .ireturn, 1, 0, 0, 0, 0, [])]
def m_X6_understand : am_M := (yX6_understand, cX6_understand, 4, some .int)
def t_X6_take : List ri_row := [(0, .aload_n 0, 1, 0, 0, 0, 0, []),
  (1, .getfield 39, 3, 6, 7, 257, 0, []),
  (4, .lookupswitch 40 #[(1, 28), (3, 34)], 28, 0, 0, 0, 0, []),
  (32, .aload_n 0, 1, 0, 0, 0, 0, []),
  (33, .iload_n 1, 1, 0, 0, 0, 0, []),
  (34, .invokevirtual 46, 3, 53, 6, 531, 0, []),
  (37, .ireturn, 1, 0, 0, 0, 0, []),
  (38, .aload_n 0, 1, 0, 0, 0, 0, []),
  (39, .iload_n 1, 1, 0, 0, 0, 0, []),
  (40, .invokevirtual 50, 3, 54, 6, 542, 0, []),
  (43, .ireturn, 1, 0, 0, 0, 0, []),
  (44, .aload_n 0, 1, 0, 0, 0, 0, []),
  (45, .iload_n 1, 1, 0, 0, 0, 0, []),
  (46, .iload_n 2, 1, 0, 0, 0, 0, []),
  (47, .invokevirtual 53, 3, 55, 6, 546, 0, []),
  (50, .ireturn, 1, 0, 0, 0, 0, [])]
def m_X6_take : am_M := (yX6_take, cX6_take, 3, some .int)
def t_X6_isFigure : List ri_row := [(0, .iload_n 0, 1, 0, 0, 0, 0, []),
  (1, .bipush 48, 2, 0, 0, 0, 0, []),
  (3, .if_icmp .lt 13, 3, 8, 0, 0, 0, []),
  (6, .iload_n 0, 1, 0, 0, 0, 0, []),
  (7, .bipush 57, 2, 0, 0, 0, 0, []),
  (9, .if_icmp .gt 7, 3, 8, 0, 0, 0, []),
  (12, .iconst 1, 1, 0, 0, 0, 0, []),
  (13, .goto 4, 3, 9, 0, 0, 0, []),
  (16, .iconst 0, 1, 0, 0, 0, 0, []),
  (17, .ireturn, 1, 0, 1, 0, 0, [])]
def m_X6_isFigure : am_M := (yX6_isFigure, cX6_isFigure, 1, some .boolean)
def t_X6_takeHandle : List ri_row := [(0, .iload_n 1, 1, 0, 0, 0, 0, []),
  (1, .invokestatic 56, 3, 52, 0, 535, 0, []),
  (4, .ifCond .ne 5, 3, 5, 0, 0, 0, []),
  (7, .iconst 1, 1, 0, 0, 0, 0, []),
  (8, .ireturn, 1, 0, 0, 0, 0, []),
  (9, .iload_n 1, 1, 0, 0, 0, 0, []),
  (10, .bipush 48, 2, 0, 0, 0, 0, []),
  (12, .isub, 1, 0, 0, 0, 0, []),
  (13, .istore_n 2, 1, 0, 0, 0, 0, []),
  (14, .iload_n 2, 1, 0, 0, 0, 0, []),
  (15, .iconst 1, 1, 0, 0, 0, 0, []),
  (16, .if_icmp .lt 28, 3, 25, 0, 0, 0, []),
  (19, .iload_n 2, 1, 0, 0, 0, 0, []),
  (20, .aload_n 0, 1, 0, 0, 0, 0, []),
  (21, .getfield 60, 3, 6, 8, 258, 0, []),
  (24, .iconst 2, 1, 0, 0, 0, 0, []),
  (25, .if_icmp .ne 12, 3, 22, 0, 0, 0, []),
  (28, .aload_n 0, 1, 0, 0, 0, 0, []),
  (29, .getfield 33, 3, 6, 5, 255, 0, []),
  (32, .iconst 1, 1, 0, 0, 0, 0, []),
  (33, .isub, 1, 0, 0, 0, 0, []),
  (34, .goto 7, 3, 24, 0, 0, 0, []),
  (37, .aload_n 0, 1, 0, 0, 0, 0, []),
  (38, .getfield 33, 3, 6, 5, 255, 0, []),
  (41, .if_icmp .le 5, 3, 27, 0, 0, 0, []),
  (44, .iconst 2, 1, 0, 0, 0, 0, []),
  (45, .ireturn, 1, 0, 0, 0, 0, []),
  (46, .aload_n 0, 1, 0, 0, 0, 0, []),
  (47, .getfield 18, 3, 6, 2, 251, 0, []),
  (50, .getfield 32, 3, 2, 1, 239, 0, []),
  (53, .bipush 60, 2, 0, 0, 0, 0, []),
  (55, .if_icmp .lt 13, 3, 38, 0, 0, 0, []),
  (58, .aload_n 0, 1, 0, 0, 0, 0, []),
  (59, .aload_n 0, 1, 0, 0, 0, 0, []),
  (60, .getfield 63, 3, 6, 9, 259, 0, []),
  (63, .putfield 9, 3, 6, 1, 249, 0, []),
  (66, .iconst 3, 1, 0, 0, 0, 0, []),
  (67, .ireturn, 1, 0, 0, 0, 0, []),
  (68, .aload_n 0, 1, 0, 0, 0, 0, []),
  (69, .getfield 18, 3, 6, 2, 251, 0, []),
  (72, .iconst 2, 1, 0, 0, 0, 0, []),
  (73, .aload_n 0, 1, 0, 0, 0, 0, []),
  (74, .getfield 60, 3, 6, 8, 258, 0, []),
  (77, .aload_n 0, 1, 0, 0, 0, 0, []),
  (78, .getfield 33, 3, 6, 5, 255, 0, []),
  (81, .imul, 1, 0, 0, 0, 0, []),
  (82, .iload_n 2, 1, 0, 0, 0, 0, []),
  (83, .iadd, 1, 0, 0, 0, 0, []),
  (84, .iconst 1, 1, 0, 0, 0, 0, []),
  (85, .isub, 1, 0, 0, 0, 0, []),
  (86, .imul, 1, 0, 0, 0, 0, []),
  (87, .invokevirtual 66, 3, 18, 2, 538, 0, []),
  (90, .aload_n 0, 1, 0, 0, 0, 0, []),
  (91, .iconst 2, 1, 0, 0, 0, 0, []),
  (92, .putfield 39, 3, 6, 7, 257, 0, []),
  (95, .iconst 0, 1, 0, 0, 0, 0, []),
  (96, .ireturn, 1, 0, 0, 0, 0, [])]
def m_X6_takeHandle : am_M := (yX6_takeHandle, cX6_takeHandle, 3, some .int)
def t_X6_takeTimes : List ri_row := [(0, .iload_n 1, 1, 0, 0, 0, 0, []),
  (1, .invokestatic 56, 3, 52, 0, 535, 0, []),
  (4, .ifCond .ne 5, 3, 5, 0, 0, 0, []),
  (7, .iconst 1, 1, 0, 0, 0, 0, []),
  (8, .ireturn, 1, 0, 0, 0, 0, []),
  (9, .iload_n 1, 1, 0, 0, 0, 0, []),
  (10, .bipush 48, 2, 0, 0, 0, 0, []),
  (12, .isub, 1, 0, 0, 0, 0, []),
  (13, .istore_n 2, 1, 0, 0, 0, 0, []),
  (14, .iload_n 2, 1, 0, 0, 0, 0, []),
  (15, .iconst 1, 1, 0, 0, 0, 0, []),
  (16, .if_icmp .ge 5, 3, 14, 0, 0, 0, []),
  (19, .iconst 2, 1, 0, 0, 0, 0, []),
  (20, .ireturn, 1, 0, 0, 0, 0, []),
  (21, .aload_n 0, 1, 0, 0, 0, 0, []),
  (22, .getfield 36, 3, 6, 6, 256, 0, []),
  (25, .ifCond .lt 11, 3, 21, 0, 0, 0, []),
  (28, .aload_n 0, 1, 0, 0, 0, 0, []),
  (29, .getfield 36, 3, 6, 6, 256, 0, []),
  (32, .iconst 4, 1, 0, 0, 0, 0, []),
  (33, .if_icmp .lt 5, 3, 23, 0, 0, 0, []),
  (36, .iconst 1, 1, 0, 0, 0, 0, []),
  (37, .ireturn, 1, 0, 0, 0, 0, []),
  (38, .aload_n 0, 1, 0, 0, 0, 0, []),
  (39, .getfield 26, 3, 6, 4, 254, 0, []),
  (42, .aload_n 0, 1, 0, 0, 0, 0, []),
  (43, .getfield 36, 3, 6, 6, 256, 0, []),
  (46, .iaload, 1, 0, 0, 0, 0, []),
  (47, .istore_n 3, 1, 0, 0, 0, 0, []),
  (48, .aload_n 0, 1, 0, 0, 0, 0, []),
  (49, .getfield 18, 3, 6, 2, 251, 0, []),
  (52, .getfield 32, 3, 2, 1, 239, 0, []),
  (55, .iload_n 3, 1, 0, 0, 0, 0, []),
  (56, .isub, 1, 0, 0, 0, 0, []),
  (57, .istore 4, 2, 0, 0, 0, 0, []),
  (59, .iload_n 3, 1, 0, 0, 0, 0, []),
  (60, .iload 4, 2, 0, 0, 0, 0, []),
  (62, .iload_n 2, 1, 0, 0, 0, 0, []),
  (63, .imul, 1, 0, 0, 0, 0, []),
  (64, .iadd, 1, 0, 0, 0, 0, []),
  (65, .bipush 60, 2, 0, 0, 0, 0, []),
  (67, .if_icmp .le 5, 3, 44, 0, 0, 0, []),
  (70, .iconst 3, 1, 0, 0, 0, 0, []),
  (71, .ireturn, 1, 0, 0, 0, 0, []),
  (72, .iconst 0, 1, 0, 0, 0, 0, []),
  (73, .istore 5, 2, 0, 0, 0, 0, []),
  (75, .iload 5, 2, 0, 0, 0, 0, []),
  (77, .iload 4, 2, 0, 0, 0, 0, []),
  (79, .iload_n 2, 1, 0, 0, 0, 0, []),
  (80, .iconst 1, 1, 0, 0, 0, 0, []),
  (81, .isub, 1, 0, 0, 0, 0, []),
  (82, .imul, 1, 0, 0, 0, 0, []),
  (83, .if_icmp .ge 28, 3, 65, 0, 0, 0, []),
  (86, .aload_n 0, 1, 0, 0, 0, 0, []),
  (87, .getfield 18, 3, 6, 2, 251, 0, []),
  (90, .aload_n 0, 1, 0, 0, 0, 0, []),
  (91, .getfield 18, 3, 6, 2, 251, 0, []),
  (94, .getfield 70, 3, 2, 0, 235, 0, []),
  (97, .iload_n 3, 1, 0, 0, 0, 0, []),
  (98, .iload 5, 2, 0, 0, 0, 0, []),
  (100, .iadd, 1, 0, 0, 0, 0, []),
  (101, .iaload, 1, 0, 0, 0, 0, []),
  (102, .invokevirtual 66, 3, 18, 2, 538, 0, []),
  (105, .iinc 5 1, 3, 0, 0, 0, 0, []),
  (108, .goto (-33), 3, 46, 0, 0, 0, []),
  (111, .aload_n 0, 1, 0, 0, 0, 0, []),
  (112, .iconst 0, 1, 0, 0, 0, 0, []),
  (113, .putfield 39, 3, 6, 7, 257, 0, []),
  (116, .iconst 0, 1, 0, 0, 0, 0, []),
  (117, .ireturn, 1, 0, 0, 0, 0, [])]
def m_X6_takeTimes : am_M := (yX6_takeTimes, cX6_takeTimes, 6, some .int)
def t_X6_takeItem : List ri_row := [(0, .aload_n 0, 1, 0, 0, 0, 0, []),
  (1, .getfield 39, 3, 6, 7, 257, 0, []),
  (4, .iconst 2, 1, 0, 0, 0, 0, []),
  (5, .if_icmp .ne 7, 3, 6, 0, 0, 0, []),
  (8, .iconst 1, 1, 0, 0, 0, 0, []),
  (9, .goto 4, 3, 7, 0, 0, 0, []),
  (12, .iconst 0, 1, 0, 0, 0, 0, []),
  (13, .istore_n 3, 1, 0, 0, 0, 0, []),
  (14, .aload_n 0, 1, 0, 0, 0, 0, []),
  (15, .iconst 0, 1, 0, 0, 0, 0, []),
  (16, .putfield 39, 3, 6, 7, 257, 0, []),
  (19, .iload_n 1, 1, 0, 0, 0, 0, []),
  (20, .bipush 45, 2, 0, 0, 0, 0, []),
  (22, .if_icmp .ne 40, 3, 35, 0, 0, 0, []),
  (25, .iload_n 3, 1, 0, 0, 0, 0, []),
  (26, .ifCond .eq 36, 3, 35, 0, 0, 0, []),
  (29, .aload_n 0, 1, 0, 0, 0, 0, []),
  (30, .getfield 18, 3, 6, 2, 251, 0, []),
  (33, .getfield 32, 3, 2, 1, 239, 0, []),
  (36, .ifCond .le 26, 3, 35, 0, 0, 0, []),
  (39, .aload_n 0, 1, 0, 0, 0, 0, []),
  (40, .getfield 18, 3, 6, 2, 251, 0, []),
  (43, .getfield 70, 3, 2, 0, 235, 0, []),
  (46, .aload_n 0, 1, 0, 0, 0, 0, []),
  (47, .getfield 18, 3, 6, 2, 251, 0, []),
  (50, .getfield 32, 3, 2, 1, 239, 0, []),
  (53, .iconst 1, 1, 0, 0, 0, 0, []),
  (54, .isub, 1, 0, 0, 0, 0, []),
  (55, .dup2, 1, 0, 0, 0, 0, []),
  (56, .iaload, 1, 0, 0, 0, 0, []),
  (57, .iconst 1, 1, 0, 0, 0, 0, []),
  (58, .ixor, 1, 0, 0, 0, 0, []),
  (59, .iastore, 1, 0, 0, 0, 0, []),
  (60, .iconst 0, 1, 0, 0, 0, 0, []),
  (61, .ireturn, 1, 0, 0, 0, 0, []),
  (62, .iload_n 1, 1, 0, 0, 0, 0, []),
  (63, .bipush 97, 2, 0, 0, 0, 0, []),
  (65, .if_icmp .lt 29, 3, 54, 0, 0, 0, []),
  (68, .iload_n 1, 1, 0, 0, 0, 0, []),
  (69, .bipush 99, 2, 0, 0, 0, 0, []),
  (71, .if_icmp .gt 23, 3, 54, 0, 0, 0, []),
  (74, .aload_n 0, 1, 0, 0, 0, 0, []),
  (75, .iload_n 1, 1, 0, 0, 0, 0, []),
  (76, .bipush 97, 2, 0, 0, 0, 0, []),
  (78, .isub, 1, 0, 0, 0, 0, []),
  (79, .putfield 60, 3, 6, 8, 258, 0, []),
  (82, .aload_n 0, 1, 0, 0, 0, 0, []),
  (83, .iload_n 2, 1, 0, 0, 0, 0, []),
  (84, .putfield 63, 3, 6, 9, 259, 0, []),
  (87, .aload_n 0, 1, 0, 0, 0, 0, []),
  (88, .iconst 1, 1, 0, 0, 0, 0, []),
  (89, .putfield 39, 3, 6, 7, 257, 0, []),
  (92, .iconst 0, 1, 0, 0, 0, 0, []),
  (93, .ireturn, 1, 0, 0, 0, 0, []),
  (94, .iload_n 1, 1, 0, 0, 0, 0, []),
  (95, .bipush 40, 2, 0, 0, 0, 0, []),
  (97, .if_icmp .ne 41, 3, 79, 0, 0, 0, []),
  (100, .aload_n 0, 1, 0, 0, 0, 0, []),
  (101, .getfield 36, 3, 6, 6, 256, 0, []),
  (104, .iconst 4, 1, 0, 0, 0, 0, []),
  (105, .if_icmp .lt 5, 3, 63, 0, 0, 0, []),
  (108, .iconst 4, 1, 0, 0, 0, 0, []),
  (109, .ireturn, 1, 0, 0, 0, 0, []),
  (110, .aload_n 0, 1, 0, 0, 0, 0, []),
  (111, .getfield 26, 3, 6, 4, 254, 0, []),
  (114, .aload_n 0, 1, 0, 0, 0, 0, []),
  (115, .getfield 36, 3, 6, 6, 256, 0, []),
  (118, .aload_n 0, 1, 0, 0, 0, 0, []),
  (119, .getfield 18, 3, 6, 2, 251, 0, []),
  (122, .getfield 32, 3, 2, 1, 239, 0, []),
  (125, .iastore, 1, 0, 0, 0, 0, []),
  (126, .aload_n 0, 1, 0, 0, 0, 0, []),
  (127, .dup, 1, 0, 0, 0, 0, []),
  (128, .getfield 36, 3, 6, 6, 256, 0, []),
  (131, .iconst 1, 1, 0, 0, 0, 0, []),
  (132, .iadd, 1, 0, 0, 0, 0, []),
  (133, .putfield 36, 3, 6, 6, 256, 0, []),
  (136, .iconst 0, 1, 0, 0, 0, 0, []),
  (137, .ireturn, 1, 0, 0, 0, 0, []),
  (138, .iload_n 1, 1, 0, 0, 0, 0, []),
  (139, .bipush 41, 2, 0, 0, 0, 0, []),
  (141, .if_icmp .ne 27, 3, 96, 0, 0, 0, []),
  (144, .aload_n 0, 1, 0, 0, 0, 0, []),
  (145, .getfield 36, 3, 6, 6, 256, 0, []),
  (148, .ifCond .le 20, 3, 96, 0, 0, 0, []),
  (151, .aload_n 0, 1, 0, 0, 0, 0, []),
  (152, .dup, 1, 0, 0, 0, 0, []),
  (153, .getfield 36, 3, 6, 6, 256, 0, []),
  (156, .iconst 1, 1, 0, 0, 0, 0, []),
  (157, .isub, 1, 0, 0, 0, 0, []),
  (158, .putfield 36, 3, 6, 6, 256, 0, []),
  (161, .aload_n 0, 1, 0, 0, 0, 0, []),
  (162, .iconst 3, 1, 0, 0, 0, 0, []),
  (163, .putfield 39, 3, 6, 7, 257, 0, []),
  (166, .iconst 0, 1, 0, 0, 0, 0, []),
  (167, .ireturn, 1, 0, 0, 0, 0, []),
  (168, .iconst 1, 1, 0, 0, 0, 0, []),
  (169, .ireturn, 1, 0, 0, 0, 0, [])]
def m_X6_takeItem : am_M := (yX6_takeItem, cX6_takeItem, 4, some .int)
def t_X7_init : List ri_row := [(0, .aload_n 0, 1, 0, 0, 0, 0, []),
  (1, .invokespecial 5, 3, 0, 1, 136, 0, []),
  (4, .aload_n 0, 1, 0, 0, 0, 0, []),
  (5, .sipush 2080, 3, 0, 0, 0, 0, []),
  (8, .newarray .int, 2, 0, 0, 0, 0, []),
  (10, .putfield 11, 3, 7, 1, 142, 2, []),
  (13, .aload_n 0, 1, 0, 0, 0, 0, []),
  (14, .sipush 3600, 3, 0, 0, 0, 0, []),
  (17, .newarray .int, 2, 0, 0, 0, 0, []),
  (19, .putfield 15, 3, 7, 2, 143, 2, []),
  (22, .aload_n 0, 1, 0, 0, 0, 0, []),
  (23, .new 18, 3, 4, 0, 137, 0, []),
  (26, .dup, 1, 0, 0, 0, 0, []),
  (27, .bipush 9, 2, 0, 0, 0, 0, []),
  (29, .invokespecial 20, 3, 26, 0, 138, 0, []),
  (32, .putfield 23, 3, 7, 3, 144, 2, []),
  (35, .aload_n 0, 1, 0, 0, 0, 0, []),
  (36, .new 18, 3, 4, 0, 137, 0, []),
  (39, .dup, 1, 0, 0, 0, 0, []),
  (40, .bipush 9, 2, 0, 0, 0, 0, []),
  (42, .invokespecial 20, 3, 26, 0, 138, 0, []),
  (45, .putfield 27, 3, 7, 4, 145, 2, []),
  (48, .return_, 1, 0, 0, 0, 0, [])]
def m_X7_init : am_M := (yX7_init, cX7_init, 1, none)
def t_X7_layOut : List ri_row := [(0, .aload_n 0, 1, 0, 0, 0, 0, []),
  (1, .iconst 3, 1, 0, 0, 0, 0, []),
  (2, .iload_n 1, 1, 0, 0, 0, 0, []),
  (3, .imul, 1, 0, 0, 0, 0, []),
  (4, .iconst 1, 1, 0, 0, 0, 0, []),
  (5, .isub, 1, 0, 0, 0, 0, []),
  (6, .putfield 30, 3, 7, 0, 139, 0, []),
  (9, .iconst 0, 1, 0, 0, 0, 0, []),
  (10, .istore_n 2, 1, 0, 0, 0, 0, []),
  (11, .iload_n 2, 1, 0, 0, 0, 0, []),
  (12, .aload_n 0, 1, 0, 0, 0, 0, []),
  (13, .getfield 30, 3, 7, 0, 139, 0, []),
  (16, .if_icmp .ge 44, 3, 40, 0, 0, 0, []),
  (19, .iconst 1, 1, 0, 0, 0, 0, []),
  (20, .istore_n 3, 1, 0, 0, 0, 0, []),
  (21, .iload_n 3, 1, 0, 0, 0, 0, []),
  (22, .iconst 2, 1, 0, 0, 0, 0, []),
  (23, .iload_n 1, 1, 0, 0, 0, 0, []),
  (24, .imul, 1, 0, 0, 0, 0, []),
  (25, .if_icmp .gt 29, 3, 38, 0, 0, 0, []),
  (28, .aload_n 0, 1, 0, 0, 0, 0, []),
  (29, .iconst 2, 1, 0, 0, 0, 0, []),
  (30, .iload_n 2, 1, 0, 0, 0, 0, []),
  (31, .imul, 1, 0, 0, 0, 0, []),
  (32, .iload_n 3, 1, 0, 0, 0, 0, []),
  (33, .iload_n 1, 1, 0, 0, 0, 0, []),
  (34, .invokevirtual 34, 3, 58, 7, 310, 0, []),
  (37, .aload_n 0, 1, 0, 0, 0, 0, []),
  (38, .iconst 2, 1, 0, 0, 0, 0, []),
  (39, .iload_n 2, 1, 0, 0, 0, 0, []),
  (40, .imul, 1, 0, 0, 0, 0, []),
  (41, .iconst 1, 1, 0, 0, 0, 0, []),
  (42, .iadd, 1, 0, 0, 0, 0, []),
  (43, .iload_n 3, 1, 0, 0, 0, 0, []),
  (44, .iload_n 1, 1, 0, 0, 0, 0, []),
  (45, .invokevirtual 34, 3, 58, 7, 310, 0, []),
  (48, .iinc 3 1, 3, 0, 0, 0, 0, []),
  (51, .goto (-30), 3, 15, 0, 0, 0, []),
  (54, .iinc 2 1, 3, 0, 0, 0, 0, []),
  (57, .goto (-46), 3, 9, 0, 0, 0, []),
  (60, .return_, 1, 0, 0, 0, 0, [])]
def m_X7_layOut : am_M := (yX7_layOut, cX7_layOut, 4, none)
def t_X7_layWord : List ri_row := [(0, .iload_n 1, 1, 0, 0, 0, 0, []),
  (1, .iconst 2, 1, 0, 0, 0, 0, []),
  (2, .idiv, 1, 0, 0, 0, 0, []),
  (3, .istore 4, 2, 0, 0, 0, 0, []),
  (5, .iload_n 1, 1, 0, 0, 0, 0, []),
  (6, .iconst 2, 1, 0, 0, 0, 0, []),
  (7, .irem, 1, 0, 0, 0, 0, []),
  (8, .ifCond .ne 7, 3, 10, 0, 0, 0, []),
  (11, .iconst 1, 1, 0, 0, 0, 0, []),
  (12, .goto 4, 3, 11, 0, 0, 0, []),
  (15, .iconst (-1), 1, 0, 0, 0, 0, []),
  (16, .istore 5, 2, 0, 0, 0, 0, []),
  (18, .aload_n 0, 1, 0, 0, 0, 0, []),
  (19, .getfield 23, 3, 7, 3, 144, 0, []),
  (22, .iconst 0, 1, 0, 0, 0, 0, []),
  (23, .putfield 38, 3, 4, 1, 122, 0, []),
  (26, .iload 4, 2, 0, 0, 0, 0, []),
  (28, .iload_n 3, 1, 0, 0, 0, 0, []),
  (29, .if_icmp .ge 15, 3, 25, 0, 0, 0, []),
  (32, .aload_n 0, 1, 0, 0, 0, 0, []),
  (33, .iload 4, 2, 0, 0, 0, 0, []),
  (35, .iload 5, 2, 0, 0, 0, 0, []),
  (37, .iload_n 2, 1, 0, 0, 0, 0, []),
  (38, .invokevirtual 41, 3, 59, 7, 314, 0, []),
  (41, .goto 38, 3, 47, 0, 0, 0, []),
  (44, .iload 4, 2, 0, 0, 0, 0, []),
  (46, .iconst 2, 1, 0, 0, 0, 0, []),
  (47, .iload_n 3, 1, 0, 0, 0, 0, []),
  (48, .imul, 1, 0, 0, 0, 0, []),
  (49, .if_icmp .ge 17, 3, 38, 0, 0, 0, []),
  (52, .aload_n 0, 1, 0, 0, 0, 0, []),
  (53, .iload 4, 2, 0, 0, 0, 0, []),
  (55, .iload_n 3, 1, 0, 0, 0, 0, []),
  (56, .isub, 1, 0, 0, 0, 0, []),
  (57, .iload 5, 2, 0, 0, 0, 0, []),
  (59, .iload_n 2, 1, 0, 0, 0, 0, []),
  (60, .invokevirtual 44, 3, 60, 7, 322, 0, []),
  (63, .goto 16, 3, 47, 0, 0, 0, []),
  (66, .aload_n 0, 1, 0, 0, 0, 0, []),
  (67, .iload 4, 2, 0, 0, 0, 0, []),
  (69, .iconst 2, 1, 0, 0, 0, 0, []),
  (70, .iload_n 3, 1, 0, 0, 0, 0, []),
  (71, .imul, 1, 0, 0, 0, 0, []),
  (72, .isub, 1, 0, 0, 0, 0, []),
  (73, .iload 5, 2, 0, 0, 0, 0, []),
  (75, .iload_n 2, 1, 0, 0, 0, 0, []),
  (76, .invokevirtual 47, 3, 61, 7, 326, 0, []),
  (79, .aload_n 0, 1, 0, 0, 0, 0, []),
  (80, .getfield 27, 3, 7, 4, 145, 0, []),
  (83, .aload_n 0, 1, 0, 0, 0, 0, []),
  (84, .getfield 23, 3, 7, 3, 144, 0, []),
  (87, .invokevirtual 50, 3, 30, 4, 334, 0, []),
  (90, .aload_n 0, 1, 0, 0, 0, 0, []),
  (91, .iload_n 1, 1, 0, 0, 0, 0, []),
  (92, .iload_n 2, 1, 0, 0, 0, 0, []),
  (93, .aload_n 0, 1, 0, 0, 0, 0, []),
  (94, .getfield 23, 3, 7, 3, 144, 0, []),
  (97, .invokevirtual 54, 3, 64, 7, 341, 0, []),
  (100, .aload_n 0, 1, 0, 0, 0, 0, []),
  (101, .iload_n 1, 1, 0, 0, 0, 0, []),
  (102, .iload_n 2, 1, 0, 0, 0, 0, []),
  (103, .ineg, 1, 0, 0, 0, 0, []),
  (104, .aload_n 0, 1, 0, 0, 0, 0, []),
  (105, .getfield 27, 3, 7, 4, 145, 0, []),
  (108, .invokevirtual 54, 3, 64, 7, 341, 0, []),
  (111, .return_, 1, 0, 0, 0, 0, [])]
def m_X7_layWord : am_M := (yX7_layWord, cX7_layWord, 6, none)
def t_X7_spellFirst : List ri_row := [(0, .aload_n 0, 1, 0, 0, 0, 0, []),
  (1, .getfield 23, 3, 7, 3, 144, 0, []),
  (4, .iload_n 3, 1, 0, 0, 0, 0, []),
  (5, .invokevirtual 58, 3, 27, 4, 318, 0, []),
  (8, .iload_n 3, 1, 0, 0, 0, 0, []),
  (9, .iconst 2, 1, 0, 0, 0, 0, []),
  (10, .iload_n 1, 1, 0, 0, 0, 0, []),
  (11, .imul, 1, 0, 0, 0, 0, []),
  (12, .iconst 2, 1, 0, 0, 0, 0, []),
  (13, .iadd, 1, 0, 0, 0, 0, []),
  (14, .if_icmp .ne 17, 3, 21, 0, 0, 0, []),
  (17, .aload_n 0, 1, 0, 0, 0, 0, []),
  (18, .getfield 23, 3, 7, 3, 144, 0, []),
  (21, .iload_n 2, 1, 0, 0, 0, 0, []),
  (22, .iconst 2, 1, 0, 0, 0, 0, []),
  (23, .iload_n 1, 1, 0, 0, 0, 0, []),
  (24, .imul, 1, 0, 0, 0, 0, []),
  (25, .iconst 1, 1, 0, 0, 0, 0, []),
  (26, .iadd, 1, 0, 0, 0, 0, []),
  (27, .imul, 1, 0, 0, 0, 0, []),
  (28, .invokevirtual 58, 3, 27, 4, 318, 0, []),
  (31, .return_, 1, 0, 0, 0, 0, [])]
def m_X7_spellFirst : am_M := (yX7_spellFirst, cX7_spellFirst, 4, none)
def t_X7_spellSecond : List ri_row := [(0, .aload_n 0, 1, 0, 0, 0, 0, []),
  (1, .getfield 23, 3, 7, 3, 144, 0, []),
  (4, .iload_n 3, 1, 0, 0, 0, 0, []),
  (5, .invokevirtual 58, 3, 27, 4, 318, 0, []),
  (8, .iload_n 3, 1, 0, 0, 0, 0, []),
  (9, .iconst 2, 1, 0, 0, 0, 0, []),
  (10, .iload_n 1, 1, 0, 0, 0, 0, []),
  (11, .imul, 1, 0, 0, 0, 0, []),
  (12, .iconst 1, 1, 0, 0, 0, 0, []),
  (13, .iadd, 1, 0, 0, 0, 0, []),
  (14, .if_icmp .ne 18, 3, 22, 0, 0, 0, []),
  (17, .aload_n 0, 1, 0, 0, 0, 0, []),
  (18, .getfield 23, 3, 7, 3, 144, 0, []),
  (21, .iload_n 2, 1, 0, 0, 0, 0, []),
  (22, .ineg, 1, 0, 0, 0, 0, []),
  (23, .iconst 2, 1, 0, 0, 0, 0, []),
  (24, .iload_n 1, 1, 0, 0, 0, 0, []),
  (25, .imul, 1, 0, 0, 0, 0, []),
  (26, .iconst 2, 1, 0, 0, 0, 0, []),
  (27, .iadd, 1, 0, 0, 0, 0, []),
  (28, .imul, 1, 0, 0, 0, 0, []),
  (29, .invokevirtual 58, 3, 27, 4, 318, 0, []),
  (32, .return_, 1, 0, 0, 0, 0, [])]
def m_X7_spellSecond : am_M := (yX7_spellSecond, cX7_spellSecond, 4, none)
def t_X7_spellThird : List ri_row := [(0, .iload_n 3, 1, 0, 0, 0, 0, []),
  (1, .iconst 2, 1, 0, 0, 0, 0, []),
  (2, .iload_n 1, 1, 0, 0, 0, 0, []),
  (3, .imul, 1, 0, 0, 0, 0, []),
  (4, .iconst 2, 1, 0, 0, 0, 0, []),
  (5, .iadd, 1, 0, 0, 0, 0, []),
  (6, .if_icmp .eq 12, 3, 14, 0, 0, 0, []),
  (9, .iload_n 3, 1, 0, 0, 0, 0, []),
  (10, .iconst 2, 1, 0, 0, 0, 0, []),
  (11, .iload_n 1, 1, 0, 0, 0, 0, []),
  (12, .imul, 1, 0, 0, 0, 0, []),
  (13, .iconst 3, 1, 0, 0, 0, 0, []),
  (14, .iadd, 1, 0, 0, 0, 0, []),
  (15, .if_icmp .ne 10, 3, 19, 0, 0, 0, []),
  (18, .aload_n 0, 1, 0, 0, 0, 0, []),
  (19, .iload_n 1, 1, 0, 0, 0, 0, []),
  (20, .iload_n 2, 1, 0, 0, 0, 0, []),
  (21, .ineg, 1, 0, 0, 0, 0, []),
  (22, .invokevirtual 61, 3, 62, 7, 330, 0, []),
  (25, .aload_n 0, 1, 0, 0, 0, 0, []),
  (26, .getfield 23, 3, 7, 3, 144, 0, []),
  (29, .iload_n 3, 1, 0, 0, 0, 0, []),
  (30, .invokevirtual 58, 3, 27, 4, 318, 0, []),
  (33, .iload_n 3, 1, 0, 0, 0, 0, []),
  (34, .iconst 2, 1, 0, 0, 0, 0, []),
  (35, .iload_n 1, 1, 0, 0, 0, 0, []),
  (36, .imul, 1, 0, 0, 0, 0, []),
  (37, .iconst 3, 1, 0, 0, 0, 0, []),
  (38, .iadd, 1, 0, 0, 0, 0, []),
  (39, .if_icmp .eq 12, 3, 37, 0, 0, 0, []),
  (42, .iload_n 3, 1, 0, 0, 0, 0, []),
  (43, .iconst 2, 1, 0, 0, 0, 0, []),
  (44, .iload_n 1, 1, 0, 0, 0, 0, []),
  (45, .imul, 1, 0, 0, 0, 0, []),
  (46, .iconst 4, 1, 0, 0, 0, 0, []),
  (47, .iadd, 1, 0, 0, 0, 0, []),
  (48, .if_icmp .ne 9, 3, 41, 0, 0, 0, []),
  (51, .aload_n 0, 1, 0, 0, 0, 0, []),
  (52, .iload_n 1, 1, 0, 0, 0, 0, []),
  (53, .iload_n 2, 1, 0, 0, 0, 0, []),
  (54, .invokevirtual 61, 3, 62, 7, 330, 0, []),
  (57, .return_, 1, 0, 0, 0, 0, [])]
def m_X7_spellThird : am_M := (yX7_spellThird, cX7_spellThird, 4, none)
def t_X7_spellBetween : List ri_row := [(0, .iconst 2, 1, 0, 0, 0, 0, []),
  (1, .iload_n 1, 1, 0, 0, 0, 0, []),
  (2, .imul, 1, 0, 0, 0, 0, []),
  (3, .iconst 1, 1, 0, 0, 0, 0, []),
  (4, .iadd, 1, 0, 0, 0, 0, []),
  (5, .istore_n 3, 1, 0, 0, 0, 0, []),
  (6, .iconst 2, 1, 0, 0, 0, 0, []),
  (7, .iload_n 1, 1, 0, 0, 0, 0, []),
  (8, .imul, 1, 0, 0, 0, 0, []),
  (9, .iconst 2, 1, 0, 0, 0, 0, []),
  (10, .iadd, 1, 0, 0, 0, 0, []),
  (11, .istore 4, 2, 0, 0, 0, 0, []),
  (13, .iconst 2, 1, 0, 0, 0, 0, []),
  (14, .iload_n 1, 1, 0, 0, 0, 0, []),
  (15, .imul, 1, 0, 0, 0, 0, []),
  (16, .iconst 3, 1, 0, 0, 0, 0, []),
  (17, .iadd, 1, 0, 0, 0, 0, []),
  (18, .istore 5, 2, 0, 0, 0, 0, []),
  (20, .aload_n 0, 1, 0, 0, 0, 0, []),
  (21, .getfield 23, 3, 7, 3, 144, 0, []),
  (24, .iload_n 2, 1, 0, 0, 0, 0, []),
  (25, .ifCond .le 8, 3, 24, 0, 0, 0, []),
  (28, .iload 4, 2, 0, 0, 0, 0, []),
  (30, .goto 6, 3, 26, 0, 0, 0, []),
  (33, .iload 5, 2, 0, 0, 0, 0, []),
  (35, .ineg, 1, 0, 0, 0, 0, []),
  (36, .invokevirtual 58, 3, 27, 4, 318, 0, []),
  (39, .aload_n 0, 1, 0, 0, 0, 0, []),
  (40, .getfield 23, 3, 7, 3, 144, 0, []),
  (43, .iload_n 2, 1, 0, 0, 0, 0, []),
  (44, .ifCond .le 8, 3, 34, 0, 0, 0, []),
  (47, .iload_n 3, 1, 0, 0, 0, 0, []),
  (48, .ineg, 1, 0, 0, 0, 0, []),
  (49, .goto 5, 3, 35, 0, 0, 0, []),
  (52, .iload 4, 2, 0, 0, 0, 0, []),
  (54, .invokevirtual 58, 3, 27, 4, 318, 0, []),
  (57, .aload_n 0, 1, 0, 0, 0, 0, []),
  (58, .getfield 23, 3, 7, 3, 144, 0, []),
  (61, .iload_n 2, 1, 0, 0, 0, 0, []),
  (62, .ifCond .le 9, 3, 43, 0, 0, 0, []),
  (65, .iload 4, 2, 0, 0, 0, 0, []),
  (67, .ineg, 1, 0, 0, 0, 0, []),
  (68, .goto 4, 3, 44, 0, 0, 0, []),
  (71, .iload_n 3, 1, 0, 0, 0, 0, []),
  (72, .invokevirtual 58, 3, 27, 4, 318, 0, []),
  (75, .aload_n 0, 1, 0, 0, 0, 0, []),
  (76, .getfield 23, 3, 7, 3, 144, 0, []),
  (79, .iload_n 2, 1, 0, 0, 0, 0, []),
  (80, .ifCond .le 8, 3, 51, 0, 0, 0, []),
  (83, .iload 5, 2, 0, 0, 0, 0, []),
  (85, .goto 6, 3, 53, 0, 0, 0, []),
  (88, .iload 4, 2, 0, 0, 0, 0, []),
  (90, .ineg, 1, 0, 0, 0, 0, []),
  (91, .invokevirtual 58, 3, 27, 4, 318, 0, []),
  (94, .return_, 1, 0, 0, 0, 0, [])]
def m_X7_spellBetween : am_M := (yX7_spellBetween, cX7_spellBetween, 6, none)
def t_X7_slotOf : List ri_row := [(0, .iload_n 0, 1, 0, 0, 0, 0, []),
  (1, .bipush 13, 2, 0, 0, 0, 0, []),
  (3, .imul, 1, 0, 0, 0, 0, []),
  (4, .iload_n 1, 1, 0, 0, 0, 0, []),
  (5, .iadd, 1, 0, 0, 0, 0, []),
  (6, .bipush 6, 2, 0, 0, 0, 0, []),
  (8, .iadd, 1, 0, 0, 0, 0, []),
  (9, .bipush 10, 2, 0, 0, 0, 0, []),
  (11, .imul, 1, 0, 0, 0, 0, []),
  (12, .ireturn, 1, 0, 0, 0, 0, [])]
def m_X7_slotOf : am_M := (yX7_slotOf, cX7_slotOf, 2, some .int)
def t_X7_keepWord : List ri_row := [(0, .iload_n 1, 1, 0, 0, 0, 0, []),
  (1, .iload_n 2, 1, 0, 0, 0, 0, []),
  (2, .invokestatic 65, 3, 63, 0, 345, 0, []),
  (5, .istore 4, 2, 0, 0, 0, 0, []),
  (7, .aload_n 0, 1, 0, 0, 0, 0, []),
  (8, .getfield 11, 3, 7, 1, 142, 0, []),
  (11, .iload 4, 2, 0, 0, 0, 0, []),
  (13, .aload_n 3, 1, 0, 0, 0, 0, []),
  (14, .getfield 38, 3, 4, 1, 122, 0, []),
  (17, .iastore, 1, 0, 0, 0, 0, []),
  (18, .aload_n 3, 1, 0, 0, 0, 0, []),
  (19, .getfield 69, 3, 4, 0, 119, 0, []),
  (22, .iconst 0, 1, 0, 0, 0, 0, []),
  (23, .aload_n 0, 1, 0, 0, 0, 0, []),
  (24, .getfield 11, 3, 7, 1, 142, 0, []),
  (27, .iload 4, 2, 0, 0, 0, 0, []),
  (29, .iconst 1, 1, 0, 0, 0, 0, []),
  (30, .iadd, 1, 0, 0, 0, 0, []),
  (31, .aload_n 3, 1, 0, 0, 0, 0, []),
  (32, .getfield 38, 3, 4, 1, 122, 0, []),
  (35, .invokestatic 72, 3, 0, 2, 348, 0, []),
  (38, .return_, 1, 0, 0, 0, 0, [])]
def m_X7_keepWord : am_M := (yX7_keepWord, cX7_keepWord, 5, none)
def t_X7_doTwist : List ri_row := [(0, .iload_n 1, 1, 0, 0, 0, 0, []),
  (1, .ifCond .lt 19, 3, 9, 0, 0, 0, []),
  (4, .iload_n 1, 1, 0, 0, 0, 0, []),
  (5, .bipush 16, 2, 0, 0, 0, 0, []),
  (7, .if_icmp .ge 13, 3, 9, 0, 0, 0, []),
  (10, .aload_n 2, 1, 0, 0, 0, 0, []),
  (11, .getfield 38, 3, 4, 1, 122, 0, []),
  (14, .sipush 400, 3, 0, 0, 0, 0, []),
  (17, .if_icmp .le 5, 3, 11, 0, 0, 0, []),
  (20, .iconst 0, 1, 0, 0, 0, 0, []),
  (21, .ireturn, 1, 0, 1, 0, 0, []),
  (22, .iload_n 1, 1, 0, 0, 0, 0, []),
  (23, .iconst 0, 1, 0, 0, 0, 0, []),
  (24, .invokestatic 65, 3, 63, 0, 345, 0, []),
  (27, .istore_n 3, 1, 0, 0, 0, 0, []),
  (28, .iconst 0, 1, 0, 0, 0, 0, []),
  (29, .istore 4, 2, 0, 0, 0, 0, []),
  (31, .iconst 0, 1, 0, 0, 0, 0, []),
  (32, .istore 5, 2, 0, 0, 0, 0, []),
  (34, .iload 5, 2, 0, 0, 0, 0, []),
  (36, .aload_n 2, 1, 0, 0, 0, 0, []),
  (37, .getfield 38, 3, 4, 1, 122, 0, []),
  (40, .if_icmp .ge 143, 3, 96, 0, 0, 0, []),
  (43, .iload_n 3, 1, 0, 0, 0, 0, []),
  (44, .aload_n 2, 1, 0, 0, 0, 0, []),
  (45, .getfield 69, 3, 4, 0, 119, 0, []),
  (48, .iload 5, 2, 0, 0, 0, 0, []),
  (50, .iaload, 1, 0, 0, 0, 0, []),
  (51, .bipush 10, 2, 0, 0, 0, 0, []),
  (53, .imul, 1, 0, 0, 0, 0, []),
  (54, .iadd, 1, 0, 0, 0, 0, []),
  (55, .istore 6, 2, 0, 0, 0, 0, []),
  (57, .iload 6, 2, 0, 0, 0, 0, []),
  (59, .ifCond .lt 28, 3, 47, 0, 0, 0, []),
  (62, .iload 6, 2, 0, 0, 0, 0, []),
  (64, .bipush 10, 2, 0, 0, 0, 0, []),
  (66, .iadd, 1, 0, 0, 0, 0, []),
  (67, .aload_n 0, 1, 0, 0, 0, 0, []),
  (68, .getfield 11, 3, 7, 1, 142, 0, []),
  (71, .arraylength, 1, 0, 0, 0, 0, []),
  (72, .if_icmp .gt 15, 3, 47, 0, 0, 0, []),
  (75, .aload_n 0, 1, 0, 0, 0, 0, []),
  (76, .getfield 11, 3, 7, 1, 142, 0, []),
  (79, .iload 6, 2, 0, 0, 0, 0, []),
  (81, .iaload, 1, 0, 0, 0, 0, []),
  (82, .bipush 10, 2, 0, 0, 0, 0, []),
  (84, .if_icmp .lt 5, 3, 49, 0, 0, 0, []),
  (87, .iconst 0, 1, 0, 0, 0, 0, []),
  (88, .ireturn, 1, 0, 1, 0, 0, []),
  (89, .iload 6, 2, 0, 0, 0, 0, []),
  (91, .aload_n 0, 1, 0, 0, 0, 0, []),
  (92, .getfield 11, 3, 7, 1, 142, 0, []),
  (95, .iload 6, 2, 0, 0, 0, 0, []),
  (97, .iaload, 1, 0, 0, 0, 0, []),
  (98, .iadd, 1, 0, 0, 0, 0, []),
  (99, .istore 7, 2, 0, 0, 0, 0, []),
  (101, .iload 6, 2, 0, 0, 0, 0, []),
  (103, .iconst 1, 1, 0, 0, 0, 0, []),
  (104, .iadd, 1, 0, 0, 0, 0, []),
  (105, .istore 8, 2, 0, 0, 0, 0, []),
  (107, .iload 8, 2, 0, 0, 0, 0, []),
  (109, .iload 7, 2, 0, 0, 0, 0, []),
  (111, .if_icmp .gt 66, 3, 94, 0, 0, 0, []),
  (114, .aload_n 0, 1, 0, 0, 0, 0, []),
  (115, .getfield 11, 3, 7, 1, 142, 0, []),
  (118, .iload 8, 2, 0, 0, 0, 0, []),
  (120, .iaload, 1, 0, 0, 0, 0, []),
  (121, .istore 9, 2, 0, 0, 0, 0, []),
  (123, .iload 4, 2, 0, 0, 0, 0, []),
  (125, .ifCond .le 24, 3, 81, 0, 0, 0, []),
  (128, .aload_n 0, 1, 0, 0, 0, 0, []),
  (129, .getfield 15, 3, 7, 2, 143, 0, []),
  (132, .iload 4, 2, 0, 0, 0, 0, []),
  (134, .iconst 1, 1, 0, 0, 0, 0, []),
  (135, .isub, 1, 0, 0, 0, 0, []),
  (136, .iaload, 1, 0, 0, 0, 0, []),
  (137, .iload 9, 2, 0, 0, 0, 0, []),
  (139, .ineg, 1, 0, 0, 0, 0, []),
  (140, .if_icmp .ne 9, 3, 81, 0, 0, 0, []),
  (143, .iinc 4 (-1), 3, 0, 0, 0, 0, []),
  (146, .goto 25, 3, 92, 0, 0, 0, []),
  (149, .iload 4, 2, 0, 0, 0, 0, []),
  (151, .aload_n 0, 1, 0, 0, 0, 0, []),
  (152, .getfield 15, 3, 7, 2, 143, 0, []),
  (155, .arraylength, 1, 0, 0, 0, 0, []),
  (156, .if_icmp .ge 15, 3, 92, 0, 0, 0, []),
  (159, .aload_n 0, 1, 0, 0, 0, 0, []),
  (160, .getfield 15, 3, 7, 2, 143, 0, []),
  (163, .iload 4, 2, 0, 0, 0, 0, []),
  (165, .iload 9, 2, 0, 0, 0, 0, []),
  (167, .iastore, 1, 0, 0, 0, 0, []),
  (168, .iinc 4 1, 3, 0, 0, 0, 0, []),
  (171, .iinc 8 1, 3, 0, 0, 0, 0, []),
  (174, .goto (-67), 3, 60, 0, 0, 0, []),
  (177, .iinc 5 1, 3, 0, 0, 0, 0, []),
  (180, .goto (-146), 3, 19, 0, 0, 0, []),
  (183, .iload 4, 2, 0, 0, 0, 0, []),
  (185, .sipush 400, 3, 0, 0, 0, 0, []),
  (188, .if_icmp .gt 13, 3, 104, 0, 0, 0, []),
  (191, .iload 4, 2, 0, 0, 0, 0, []),
  (193, .aload_n 2, 1, 0, 0, 0, 0, []),
  (194, .getfield 69, 3, 4, 0, 119, 0, []),
  (197, .arraylength, 1, 0, 0, 0, 0, []),
  (198, .if_icmp .le 5, 3, 106, 0, 0, 0, []),
  (201, .iconst 0, 1, 0, 0, 0, 0, []),
  (202, .ireturn, 1, 0, 1, 0, 0, []),
  (203, .aload_n 0, 1, 0, 0, 0, 0, []),
  (204, .getfield 15, 3, 7, 2, 143, 0, []),
  (207, .iconst 0, 1, 0, 0, 0, 0, []),
  (208, .aload_n 2, 1, 0, 0, 0, 0, []),
  (209, .getfield 69, 3, 4, 0, 119, 0, []),
  (212, .iconst 0, 1, 0, 0, 0, 0, []),
  (213, .iload 4, 2, 0, 0, 0, 0, []),
  (215, .invokestatic 72, 3, 0, 2, 348, 0, []),
  (218, .aload_n 2, 1, 0, 0, 0, 0, []),
  (219, .iload 4, 2, 0, 0, 0, 0, []),
  (221, .putfield 38, 3, 4, 1, 122, 0, []),
  (224, .iconst 1, 1, 0, 0, 0, 0, []),
  (225, .ireturn, 1, 0, 1, 0, 0, [])]
def m_X7_doTwist : am_M := (yX7_doTwist, cX7_doTwist, 10, some .boolean)
def t_X7_doPlan : List ri_row := [(0, .aload_n 1, 1, 0, 0, 0, 0, []),
  (1, .getfield 78, 3, 2, 1, 240, 0, []),
  (4, .iconst 1, 1, 0, 0, 0, 0, []),
  (5, .isub, 1, 0, 0, 0, 0, []),
  (6, .istore_n 3, 1, 0, 0, 0, 0, []),
  (7, .iload_n 3, 1, 0, 0, 0, 0, []),
  (8, .ifCond .lt 25, 3, 19, 0, 0, 0, []),
  (11, .aload_n 0, 1, 0, 0, 0, 0, []),
  (12, .aload_n 1, 1, 0, 0, 0, 0, []),
  (13, .getfield 81, 3, 2, 0, 236, 0, []),
  (16, .iload_n 3, 1, 0, 0, 0, 0, []),
  (17, .iaload, 1, 0, 0, 0, 0, []),
  (18, .aload_n 2, 1, 0, 0, 0, 0, []),
  (19, .invokevirtual 84, 3, 65, 7, 600, 0, []),
  (22, .ifCond .ne 5, 3, 17, 0, 0, 0, []),
  (25, .iconst 0, 1, 0, 0, 0, 0, []),
  (26, .ireturn, 1, 0, 1, 0, 0, []),
  (27, .iinc 3 (-1), 3, 0, 0, 0, 0, []),
  (30, .goto (-23), 3, 5, 0, 0, 0, []),
  (33, .iconst 1, 1, 0, 0, 0, 0, []),
  (34, .ireturn, 1, 0, 1, 0, 0, [])]
def m_X7_doPlan : am_M := (yX7_doPlan, cX7_doPlan, 4, some .boolean)
def t_X8_init : List ri_row := [(0, .aload_n 0, 1, 0, 0, 0, 0, []),
  (1, .invokespecial 3, 3, 0, 1, 100, 0, []),
  (4, .aload_n 0, 1, 0, 0, 0, 0, []),
  (5, .bipush 12, 2, 0, 0, 0, 0, []),
  (7, .anewarray 9, 3, 3, 0, 103, 0, []),
  (10, .putfield 11, 3, 8, 0, 351, 2, []),
  (13, .aload_n 0, 1, 0, 0, 0, 0, []),
  (14, .bipush 8, 2, 0, 0, 0, 0, []),
  (16, .anewarray 15, 3, 4, 0, 105, 0, []),
  (19, .putfield 17, 3, 8, 1, 352, 2, []),
  (22, .aload_n 0, 1, 0, 0, 0, 0, []),
  (23, .new 21, 3, 4, 0, 107, 0, []),
  (26, .dup, 1, 0, 0, 0, 0, []),
  (27, .bipush 60, 2, 0, 0, 0, 0, []),
  (29, .invokespecial 23, 3, 26, 0, 109, 0, []),
  (32, .putfield 26, 3, 8, 2, 353, 2, []),
  (35, .aload_n 0, 1, 0, 0, 0, 0, []),
  (36, .new 30, 3, 7, 0, 131, 0, []),
  (39, .dup, 1, 0, 0, 0, 0, []),
  (40, .invokespecial 32, 3, 56, 0, 133, 0, []),
  (43, .putfield 33, 3, 8, 3, 354, 2, []),
  (46, .aload_n 0, 1, 0, 0, 0, 0, []),
  (47, .new 37, 3, 1, 0, 157, 0, []),
  (50, .dup, 1, 0, 0, 0, 0, []),
  (51, .invokespecial 39, 3, 10, 0, 159, 0, []),
  (54, .putfield 40, 3, 8, 4, 355, 2, []),
  (57, .aload_n 0, 1, 0, 0, 0, 0, []),
  (58, .new 44, 3, 0, 0, 169, 0, []),
  (61, .dup, 1, 0, 0, 0, 0, []),
  (62, .aload_n 0, 1, 0, 0, 0, 0, []),
  (63, .getfield 33, 3, 8, 3, 354, 0, []),
  (66, .invokespecial 46, 3, 0, 0, 171, 0, []),
  (69, .putfield 49, 3, 8, 5, 356, 2, []),
  (72, .aload_n 0, 1, 0, 0, 0, 0, []),
  (73, .new 53, 3, 5, 0, 194, 0, []),
  (76, .dup, 1, 0, 0, 0, 0, []),
  (77, .aload_n 0, 1, 0, 0, 0, 0, []),
  (78, .getfield 33, 3, 8, 3, 354, 0, []),
  (81, .aload_n 0, 1, 0, 0, 0, 0, []),
  (82, .getfield 49, 3, 8, 5, 356, 0, []),
  (85, .invokespecial 55, 3, 41, 0, 196, 0, []),
  (88, .putfield 58, 3, 8, 6, 357, 2, []),
  (91, .aload_n 0, 1, 0, 0, 0, 0, []),
  (92, .new 62, 3, 6, 0, 221, 0, []),
  (95, .dup, 1, 0, 0, 0, 0, []),
  (96, .invokespecial 64, 3, 48, 0, 223, 0, []),
  (99, .putfield 65, 3, 8, 7, 358, 2, []),
  (102, .aload_n 0, 1, 0, 0, 0, 0, []),
  (103, .new 21, 3, 4, 0, 107, 0, []),
  (106, .dup, 1, 0, 0, 0, 0, []),
  (107, .sipush 400, 3, 0, 0, 0, 0, []),
  (110, .invokespecial 23, 3, 26, 0, 109, 0, []),
  (113, .putfield 69, 3, 8, 8, 359, 2, []),
  (116, .aload_n 0, 1, 0, 0, 0, 0, []),
  (117, .new 15, 3, 2, 0, 105, 0, []),
  (120, .dup, 1, 0, 0, 0, 0, []),
  (121, .invokespecial 72, 3, 17, 0, 281, 0, []),
  (124, .putfield 73, 3, 8, 9, 360, 2, []),
  (127, .aload_n 0, 1, 0, 0, 0, 0, []),
  (128, .new 15, 3, 2, 0, 105, 0, []),
  (131, .dup, 1, 0, 0, 0, 0, []),
  (132, .invokespecial 72, 3, 17, 0, 281, 0, []),
  (135, .putfield 77, 3, 8, 10, 361, 2, []),
  (138, .iconst 0, 1, 0, 0, 0, 0, []),
  (139, .istore_n 1, 1, 0, 0, 0, 0, []),
  (140, .iload_n 1, 1, 0, 0, 0, 0, []),
  (141, .bipush 12, 2, 0, 0, 0, 0, []),
  (143, .if_icmp .ge 22, 3, 77, 0, 0, 0, []),
  (146, .aload_n 0, 1, 0, 0, 0, 0, []),
  (147, .getfield 11, 3, 8, 0, 351, 0, []),
  (150, .iload_n 1, 1, 0, 0, 0, 0, []),
  (151, .new 9, 3, 3, 0, 103, 0, []),
  (154, .dup, 1, 0, 0, 0, 0, []),
  (155, .invokespecial 80, 3, 23, 0, 283, 0, []),
  (158, .aastore, 1, 0, 0, 0, 0, []),
  (159, .iinc 1 1, 3, 0, 0, 0, 0, []),
  (162, .goto (-22), 3, 65, 0, 0, 0, []),
  (165, .iconst 0, 1, 0, 0, 0, 0, []),
  (166, .istore_n 1, 1, 0, 0, 0, 0, []),
  (167, .iload_n 1, 1, 0, 0, 0, 0, []),
  (168, .bipush 8, 2, 0, 0, 0, 0, []),
  (170, .if_icmp .ge 22, 3, 91, 0, 0, 0, []),
  (173, .aload_n 0, 1, 0, 0, 0, 0, []),
  (174, .getfield 17, 3, 8, 1, 352, 0, []),
  (177, .iload_n 1, 1, 0, 0, 0, 0, []),
  (178, .new 15, 3, 2, 0, 105, 0, []),
  (181, .dup, 1, 0, 0, 0, 0, []),
  (182, .invokespecial 72, 3, 17, 0, 281, 0, []),
  (185, .aastore, 1, 0, 0, 0, 0, []),
  (186, .iinc 1 1, 3, 0, 0, 0, 0, []),
  (189, .goto (-22), 3, 79, 0, 0, 0, []),
  (192, .aload_n 0, 1, 0, 0, 0, 0, []),
  (193, .iconst 2, 1, 0, 0, 0, 0, []),
  (194, .invokevirtual 81, 3, 97, 8, 302, 0, []),
  (197, .return_, 1, 0, 0, 0, 0, [])]
def m_X8_init : am_M := (yX8_init, cX8_init, 2, none)
def t_X8_skin : List ri_row := [(0, .iload_n 1, 1, 0, 0, 0, 0, []),
  (1, .iconst 1, 1, 0, 0, 0, 0, []),
  (2, .if_icmp .lt 8, 3, 6, 0, 0, 0, []),
  (5, .iload_n 1, 1, 0, 0, 0, 0, []),
  (6, .iconst 3, 1, 0, 0, 0, 0, []),
  (7, .if_icmp .le 7, 3, 8, 0, 0, 0, []),
  (10, .sipush (-1002), 3, 0, 0, 0, 0, []),
  (13, .ireturn, 1, 0, 0, 0, 0, []),
  (14, .aload_n 0, 1, 0, 0, 0, 0, []),
  (15, .iload_n 1, 1, 0, 0, 0, 0, []),
  (16, .invokevirtual 81, 3, 97, 8, 302, 0, []),
  (19, .iconst 2, 1, 0, 0, 0, 0, []),
  (20, .iload_n 1, 1, 0, 0, 0, 0, []),
  (21, .imul, 1, 0, 0, 0, 0, []),
  (22, .ireturn, 1, 0, 0, 0, 0, [])]
def m_X8_skin : am_M := (yX8_skin, cX8_skin, 2, some .int)
def t_X8_letter : List ri_row := [(0, .iload_n 1, 1, 0, 0, 0, 0, []),
  (1, .ifCond .eq 24, 3, 14, 0, 0, 0, []),
  (4, .iload_n 1, 1, 0, 0, 0, 0, []),
  (5, .bipush (-2), 2, 0, 0, 0, 0, []),
  (7, .aload_n 0, 1, 0, 0, 0, 0, []),
  (8, .getfield 84, 3, 8, 11, 362, 0, []),
  (11, .imul, 1, 0, 0, 0, 0, []),
  (12, .if_icmp .lt 13, 3, 14, 0, 0, 0, []),
  (15, .iload_n 1, 1, 0, 0, 0, 0, []),
  (16, .iconst 2, 1, 0, 0, 0, 0, []),
  (17, .aload_n 0, 1, 0, 0, 0, 0, []),
  (18, .getfield 84, 3, 8, 11, 362, 0, []),
  (21, .imul, 1, 0, 0, 0, 0, []),
  (22, .if_icmp .le 7, 3, 16, 0, 0, 0, []),
  (25, .sipush (-1002), 3, 0, 0, 0, 0, []),
  (28, .ireturn, 1, 0, 0, 0, 0, []),
  (29, .aload_n 0, 1, 0, 0, 0, 0, []),
  (30, .getfield 26, 3, 8, 2, 353, 0, []),
  (33, .getfield 88, 3, 4, 1, 123, 0, []),
  (36, .bipush 60, 2, 0, 0, 0, 0, []),
  (38, .if_icmp .lt 7, 3, 23, 0, 0, 0, []),
  (41, .sipush (-1004), 3, 0, 0, 0, 0, []),
  (44, .ireturn, 1, 0, 0, 0, 0, []),
  (45, .aload_n 0, 1, 0, 0, 0, 0, []),
  (46, .getfield 26, 3, 8, 2, 353, 0, []),
  (49, .iload_n 1, 1, 0, 0, 0, 0, []),
  (50, .invokevirtual 91, 3, 27, 4, 399, 0, []),
  (53, .aload_n 0, 1, 0, 0, 0, 0, []),
  (54, .getfield 26, 3, 8, 2, 353, 0, []),
  (57, .getfield 88, 3, 4, 1, 123, 0, []),
  (60, .ireturn, 1, 0, 0, 0, 0, [])]
def m_X8_letter : am_M := (yX8_letter, cX8_letter, 2, some .int)
def t_X8_ring : List ri_row := [(0, .aload_n 0, 1, 0, 0, 0, 0, []),
  (1, .getfield 26, 3, 8, 2, 353, 0, []),
  (4, .getfield 88, 3, 4, 1, 123, 0, []),
  (7, .ifCond .ne 7, 3, 6, 0, 0, 0, []),
  (10, .sipush (-1003), 3, 0, 0, 0, 0, []),
  (13, .ireturn, 1, 0, 0, 0, 0, []),
  (14, .aload_n 0, 1, 0, 0, 0, 0, []),
  (15, .getfield 94, 3, 8, 12, 363, 0, []),
  (18, .bipush 12, 2, 0, 0, 0, 0, []),
  (20, .if_icmp .lt 7, 3, 12, 0, 0, 0, []),
  (23, .sipush (-1004), 3, 0, 0, 0, 0, []),
  (26, .ireturn, 1, 0, 0, 0, 0, []),
  (27, .aload_n 0, 1, 0, 0, 0, 0, []),
  (28, .getfield 11, 3, 8, 0, 351, 0, []),
  (31, .aload_n 0, 1, 0, 0, 0, 0, []),
  (32, .getfield 94, 3, 8, 12, 363, 0, []),
  (35, .aaload, 1, 0, 0, 0, 0, []),
  (36, .aload_n 0, 1, 0, 0, 0, 0, []),
  (37, .getfield 26, 3, 8, 2, 353, 0, []),
  (40, .aload_n 0, 1, 0, 0, 0, 0, []),
  (41, .getfield 40, 3, 8, 4, 355, 0, []),
  (44, .invokevirtual 97, 3, 24, 3, 404, 0, []),
  (47, .aload_n 0, 1, 0, 0, 0, 0, []),
  (48, .getfield 26, 3, 8, 2, 353, 0, []),
  (51, .iconst 0, 1, 0, 0, 0, 0, []),
  (52, .putfield 88, 3, 4, 1, 123, 0, []),
  (55, .aload_n 0, 1, 0, 0, 0, 0, []),
  (56, .dup, 1, 0, 0, 0, 0, []),
  (57, .getfield 94, 3, 8, 12, 363, 0, []),
  (60, .iconst 1, 1, 0, 0, 0, 0, []),
  (61, .iadd, 1, 0, 0, 0, 0, []),
  (62, .putfield 94, 3, 8, 12, 363, 0, []),
  (65, .aload_n 0, 1, 0, 0, 0, 0, []),
  (66, .getfield 94, 3, 8, 12, 363, 0, []),
  (69, .iconst 1, 1, 0, 0, 0, 0, []),
  (70, .isub, 1, 0, 0, 0, 0, []),
  (71, .ireturn, 1, 0, 0, 0, 0, [])]
def m_X8_ring : am_M := (yX8_ring, cX8_ring, 1, some .int)
def t_X8_told : List ri_row := [(0, .aload_n 0, 1, 0, 0, 0, 0, []),
  (1, .iload_n 1, 1, 0, 0, 0, 0, []),
  (2, .invokevirtual 101, 3, 98, 8, 455, 0, []),
  (5, .ifCond .ne 7, 3, 6, 0, 0, 0, []),
  (8, .sipush (-1001), 3, 0, 0, 0, 0, []),
  (11, .ireturn, 1, 0, 0, 0, 0, []),
  (12, .iload_n 2, 1, 0, 0, 0, 0, []),
  (13, .tableswitch 80 0 3 #[31, 44, 57, 67], 31, 35, 0, 0, 0, [8, 15, 22, 28]),
  (44, .aload_n 0, 1, 0, 0, 0, 0, []),
  (45, .getfield 11, 3, 8, 0, 351, 0, []),
  (48, .iload_n 1, 1, 0, 0, 0, 0, []),
  (49, .aaload, 1, 0, 0, 0, 0, []),
  (50, .getfield 105, 3, 3, 0, 290, 0, []),
  (53, .getfield 88, 3, 4, 1, 123, 0, []),
  (56, .ireturn, 1, 0, 0, 0, 0, []),
  (57, .aload_n 0, 1, 0, 0, 0, 0, []),
  (58, .getfield 11, 3, 8, 0, 351, 0, []),
  (61, .iload_n 1, 1, 0, 0, 0, 0, []),
  (62, .aaload, 1, 0, 0, 0, 0, []),
  (63, .getfield 108, 3, 3, 1, 292, 0, []),
  (66, .invokestatic 112, 3, 103, 0, 459, 0, []),
  (69, .ireturn, 1, 0, 0, 0, 0, []),
  (70, .aload_n 0, 1, 0, 0, 0, 0, []),
  (71, .getfield 11, 3, 8, 0, 351, 0, []),
  (74, .iload_n 1, 1, 0, 0, 0, 0, []),
  (75, .aaload, 1, 0, 0, 0, 0, []),
  (76, .getfield 116, 3, 3, 2, 294, 0, []),
  (79, .ireturn, 1, 0, 0, 0, 0, []),
  (80, .aload_n 0, 1, 0, 0, 0, 0, []),
  (81, .getfield 11, 3, 8, 0, 351, 0, []),
  (84, .iload_n 1, 1, 0, 0, 0, 0, []),
  (85, .aaload, 1, 0, 0, 0, 0, []),
  (86, .invokevirtual 119, 3, 25, 3, 462, 0, []),
  (89, .invokestatic 112, 3, 103, 0, 459, 0, []),
  (92, .ireturn, 1, 0, 0, 0, 0, []),
  (93, .sipush (-1002), 3, 0, 0, 0, 0, []),
  (96, .ireturn, 1, 0, 0, 0, 0, [])]
def m_X8_told : am_M := (yX8_told, cX8_told, 3, some .int)
def t_X8_at : List ri_row := [(0, .aload_n 0, 1, 0, 0, 0, 0, []),
  (1, .iload_n 1, 1, 0, 0, 0, 0, []),
  (2, .invokevirtual 101, 3, 98, 8, 455, 0, []),
  (5, .ifCond .ne 7, 3, 6, 0, 0, 0, []),
  (8, .sipush (-1001), 3, 0, 0, 0, 0, []),
  (11, .ireturn, 1, 0, 0, 0, 0, []),
  (12, .aload_n 0, 1, 0, 0, 0, 0, []),
  (13, .getfield 11, 3, 8, 0, 351, 0, []),
  (16, .iload_n 1, 1, 0, 0, 0, 0, []),
  (17, .aaload, 1, 0, 0, 0, 0, []),
  (18, .getfield 105, 3, 3, 0, 290, 0, []),
  (21, .astore_n 3, 1, 0, 0, 0, 0, []),
  (22, .iload_n 2, 1, 0, 0, 0, 0, []),
  (23, .ifCond .lt 20, 3, 23, 0, 0, 0, []),
  (26, .iload_n 2, 1, 0, 0, 0, 0, []),
  (27, .aload_n 3, 1, 0, 0, 0, 0, []),
  (28, .getfield 88, 3, 4, 1, 123, 0, []),
  (31, .if_icmp .ge 12, 3, 23, 0, 0, 0, []),
  (34, .aload_n 3, 1, 0, 0, 0, 0, []),
  (35, .getfield 123, 3, 4, 0, 118, 0, []),
  (38, .iload_n 2, 1, 0, 0, 0, 0, []),
  (39, .iaload, 1, 0, 0, 0, 0, []),
  (40, .goto 4, 3, 24, 0, 0, 0, []),
  (43, .iconst (-1), 1, 0, 0, 0, 0, []),
  (44, .ireturn, 1, 0, 0, 0, 0, [])]
def m_X8_at : am_M := (yX8_at, cX8_at, 4, some .int)
def t_X8_meets : List ri_row := [(0, .aload_n 0, 1, 0, 0, 0, 0, []),
  (1, .iload_n 1, 1, 0, 0, 0, 0, []),
  (2, .invokevirtual 101, 3, 98, 8, 455, 0, []),
  (5, .ifCond .eq 11, 3, 8, 0, 0, 0, []),
  (8, .aload_n 0, 1, 0, 0, 0, 0, []),
  (9, .iload_n 2, 1, 0, 0, 0, 0, []),
  (10, .invokevirtual 101, 3, 98, 8, 455, 0, []),
  (13, .ifCond .ne 7, 3, 10, 0, 0, 0, []),
  (16, .sipush (-1001), 3, 0, 0, 0, 0, []),
  (19, .ireturn, 1, 0, 0, 0, 0, []),
  (20, .aload_n 0, 1, 0, 0, 0, 0, []),
  (21, .getfield 11, 3, 8, 0, 351, 0, []),
  (24, .iload_n 1, 1, 0, 0, 0, 0, []),
  (25, .aaload, 1, 0, 0, 0, 0, []),
  (26, .getfield 108, 3, 3, 1, 292, 0, []),
  (29, .ifCond .ne 15, 3, 22, 0, 0, 0, []),
  (32, .aload_n 0, 1, 0, 0, 0, 0, []),
  (33, .getfield 11, 3, 8, 0, 351, 0, []),
  (36, .iload_n 2, 1, 0, 0, 0, 0, []),
  (37, .aaload, 1, 0, 0, 0, 0, []),
  (38, .getfield 108, 3, 3, 1, 292, 0, []),
  (41, .ifCond .eq 7, 3, 24, 0, 0, 0, []),
  (44, .sipush (-1003), 3, 0, 0, 0, 0, []),
  (47, .ireturn, 1, 0, 0, 0, 0, []),
  (48, .aload_n 0, 1, 0, 0, 0, 0, []),
  (49, .getfield 40, 3, 8, 4, 355, 0, []),
  (52, .aload_n 0, 1, 0, 0, 0, 0, []),
  (53, .getfield 11, 3, 8, 0, 351, 0, []),
  (56, .iload_n 1, 1, 0, 0, 0, 0, []),
  (57, .aaload, 1, 0, 0, 0, 0, []),
  (58, .getfield 105, 3, 3, 0, 290, 0, []),
  (61, .aload_n 0, 1, 0, 0, 0, 0, []),
  (62, .getfield 11, 3, 8, 0, 351, 0, []),
  (65, .iload_n 2, 1, 0, 0, 0, 0, []),
  (66, .aaload, 1, 0, 0, 0, 0, []),
  (67, .getfield 105, 3, 3, 0, 290, 0, []),
  (70, .invokevirtual 127, 3, 11, 1, 474, 0, []),
  (73, .ireturn, 1, 0, 0, 0, 0, [])]
def m_X8_meets : am_M := (yX8_meets, cX8_meets, 3, some .int)
def t_X8_one : List ri_row := [(0, .aload_n 0, 1, 0, 0, 0, 0, []),
  (1, .iload_n 1, 1, 0, 0, 0, 0, []),
  (2, .invokevirtual 101, 3, 98, 8, 455, 0, []),
  (5, .ifCond .eq 11, 3, 8, 0, 0, 0, []),
  (8, .aload_n 0, 1, 0, 0, 0, 0, []),
  (9, .iload_n 2, 1, 0, 0, 0, 0, []),
  (10, .invokevirtual 101, 3, 98, 8, 455, 0, []),
  (13, .ifCond .ne 7, 3, 10, 0, 0, 0, []),
  (16, .sipush (-1001), 3, 0, 0, 0, 0, []),
  (19, .ireturn, 1, 0, 0, 0, 0, []),
  (20, .aload_n 0, 1, 0, 0, 0, 0, []),
  (21, .getfield 11, 3, 8, 0, 351, 0, []),
  (24, .iload_n 1, 1, 0, 0, 0, 0, []),
  (25, .aaload, 1, 0, 0, 0, 0, []),
  (26, .getfield 105, 3, 3, 0, 290, 0, []),
  (29, .aload_n 0, 1, 0, 0, 0, 0, []),
  (30, .getfield 11, 3, 8, 0, 351, 0, []),
  (33, .iload_n 2, 1, 0, 0, 0, 0, []),
  (34, .aaload, 1, 0, 0, 0, 0, []),
  (35, .getfield 105, 3, 3, 0, 290, 0, []),
  (38, .invokevirtual 131, 3, 35, 4, 479, 0, []),
  (41, .invokestatic 112, 3, 103, 0, 459, 0, []),
  (44, .ireturn, 1, 0, 0, 0, 0, [])]
def m_X8_one : am_M := (yX8_one, cX8_one, 3, some .int)
def t_X8_heap : List ri_row := [(0, .iload_n 1, 1, 0, 0, 0, 0, []),
  (1, .ifCond .lt 12, 3, 7, 0, 0, 0, []),
  (4, .iload_n 1, 1, 0, 0, 0, 0, []),
  (5, .aload_n 0, 1, 0, 0, 0, 0, []),
  (6, .getfield 94, 3, 8, 12, 363, 0, []),
  (9, .ishr, 1, 0, 0, 0, 0, []),
  (10, .ifCond .eq 7, 3, 9, 0, 0, 0, []),
  (13, .sipush (-1001), 3, 0, 0, 0, 0, []),
  (16, .ireturn, 1, 0, 0, 0, 0, []),
  (17, .iconst 0, 1, 0, 0, 0, 0, []),
  (18, .istore_n 2, 1, 0, 0, 0, 0, []),
  (19, .iload_n 2, 1, 0, 0, 0, 0, []),
  (20, .aload_n 0, 1, 0, 0, 0, 0, []),
  (21, .getfield 94, 3, 8, 12, 363, 0, []),
  (24, .if_icmp .ge 36, 3, 37, 0, 0, 0, []),
  (27, .iload_n 1, 1, 0, 0, 0, 0, []),
  (28, .iload_n 2, 1, 0, 0, 0, 0, []),
  (29, .ishr, 1, 0, 0, 0, 0, []),
  (30, .iconst 1, 1, 0, 0, 0, 0, []),
  (31, .iand, 1, 0, 0, 0, 0, []),
  (32, .ifCond .eq 22, 3, 35, 0, 0, 0, []),
  (35, .aload_n 0, 1, 0, 0, 0, 0, []),
  (36, .iload_n 1, 1, 0, 0, 0, 0, []),
  (37, .iload_n 2, 1, 0, 0, 0, 0, []),
  (38, .invokevirtual 135, 3, 104, 8, 495, 0, []),
  (41, .istore_n 3, 1, 0, 0, 0, 0, []),
  (42, .iload_n 3, 1, 0, 0, 0, 0, []),
  (43, .iconst (-1), 1, 0, 0, 0, 0, []),
  (44, .if_icmp .eq 10, 3, 35, 0, 0, 0, []),
  (47, .bipush 13, 2, 0, 0, 0, 0, []),
  (49, .iload_n 2, 1, 0, 0, 0, 0, []),
  (50, .imul, 1, 0, 0, 0, 0, []),
  (51, .iload_n 3, 1, 0, 0, 0, 0, []),
  (52, .iadd, 1, 0, 0, 0, 0, []),
  (53, .ireturn, 1, 0, 0, 0, 0, []),
  (54, .iinc 2 1, 3, 0, 0, 0, 0, []),
  (57, .goto (-38), 3, 11, 0, 0, 0, []),
  (60, .iconst (-1), 1, 0, 0, 0, 0, []),
  (61, .ireturn, 1, 0, 0, 0, 0, [])]
def m_X8_heap : am_M := (yX8_heap, cX8_heap, 4, some .int)
def t_X8_drop : List ri_row := [(0, .aload_n 0, 1, 0, 0, 0, 0, []),
  (1, .getfield 94, 3, 8, 12, 363, 0, []),
  (4, .ifCond .ne 7, 3, 5, 0, 0, 0, []),
  (7, .sipush (-1003), 3, 0, 0, 0, 0, []),
  (10, .ireturn, 1, 0, 0, 0, 0, []),
  (11, .aload_n 0, 1, 0, 0, 0, 0, []),
  (12, .dup, 1, 0, 0, 0, 0, []),
  (13, .getfield 94, 3, 8, 12, 363, 0, []),
  (16, .iconst 1, 1, 0, 0, 0, 0, []),
  (17, .isub, 1, 0, 0, 0, 0, []),
  (18, .putfield 94, 3, 8, 12, 363, 0, []),
  (21, .aload_n 0, 1, 0, 0, 0, 0, []),
  (22, .getfield 94, 3, 8, 12, 363, 0, []),
  (25, .ireturn, 1, 0, 0, 0, 0, [])]
def m_X8_drop : am_M := (yX8_drop, cX8_drop, 1, some .int)
def t_X8_count : List ri_row := [(0, .iload_n 1, 1, 0, 0, 0, 0, []),
  (1, .tableswitch 69 0 4 #[35, 40, 45, 53, 61], 35, 20, 0, 0, 0, [2, 5, 8, 12, 16]),
  (36, .aload_n 0, 1, 0, 0, 0, 0, []),
  (37, .getfield 84, 3, 8, 11, 362, 0, []),
  (40, .ireturn, 1, 0, 0, 0, 0, []),
  (41, .aload_n 0, 1, 0, 0, 0, 0, []),
  (42, .getfield 94, 3, 8, 12, 363, 0, []),
  (45, .ireturn, 1, 0, 0, 0, 0, []),
  (46, .aload_n 0, 1, 0, 0, 0, 0, []),
  (47, .getfield 26, 3, 8, 2, 353, 0, []),
  (50, .getfield 88, 3, 4, 1, 123, 0, []),
  (53, .ireturn, 1, 0, 0, 0, 0, []),
  (54, .aload_n 0, 1, 0, 0, 0, 0, []),
  (55, .getfield 33, 3, 8, 3, 354, 0, []),
  (58, .getfield 139, 3, 7, 0, 141, 0, []),
  (61, .ireturn, 1, 0, 0, 0, 0, []),
  (62, .aload_n 0, 1, 0, 0, 0, 0, []),
  (63, .getfield 65, 3, 8, 7, 358, 0, []),
  (66, .getfield 142, 3, 6, 0, 248, 0, []),
  (69, .ireturn, 1, 0, 0, 0, 0, []),
  (70, .sipush (-1002), 3, 0, 0, 0, 0, []),
  (73, .ireturn, 1, 0, 0, 0, 0, [])]
def m_X8_count : am_M := (yX8_count, cX8_count, 2, some .int)
def t_X8_feed : List ri_row := [(0, .iload_n 1, 1, 0, 0, 0, 0, []),
  (1, .iconst 1, 1, 0, 0, 0, 0, []),
  (2, .if_icmp .lt 9, 3, 6, 0, 0, 0, []),
  (5, .iload_n 1, 1, 0, 0, 0, 0, []),
  (6, .bipush 8, 2, 0, 0, 0, 0, []),
  (8, .if_icmp .le 7, 3, 8, 0, 0, 0, []),
  (11, .sipush (-1002), 3, 0, 0, 0, 0, []),
  (14, .ireturn, 1, 0, 0, 0, 0, []),
  (15, .aload_n 0, 1, 0, 0, 0, 0, []),
  (16, .getfield 65, 3, 8, 7, 358, 0, []),
  (19, .getfield 142, 3, 6, 0, 248, 0, []),
  (22, .iload_n 1, 1, 0, 0, 0, 0, []),
  (23, .iadd, 1, 0, 0, 0, 0, []),
  (24, .bipush 120, 2, 0, 0, 0, 0, []),
  (26, .if_icmp .le 7, 3, 17, 0, 0, 0, []),
  (29, .sipush (-1004), 3, 0, 0, 0, 0, []),
  (32, .ireturn, 1, 0, 0, 0, 0, []),
  (33, .iload_n 1, 1, 0, 0, 0, 0, []),
  (34, .iconst 1, 1, 0, 0, 0, 0, []),
  (35, .isub, 1, 0, 0, 0, 0, []),
  (36, .istore 4, 2, 0, 0, 0, 0, []),
  (38, .iload 4, 2, 0, 0, 0, 0, []),
  (40, .ifCond .lt 28, 3, 36, 0, 0, 0, []),
  (43, .aload_n 0, 1, 0, 0, 0, 0, []),
  (44, .getfield 65, 3, 8, 7, 358, 0, []),
  (47, .lload_n 2, 1, 0, 0, 0, 0, []),
  (48, .bipush 8, 2, 0, 0, 0, 0, []),
  (50, .iload 4, 2, 0, 0, 0, 0, []),
  (52, .imul, 1, 0, 0, 0, 0, []),
  (53, .lshr, 1, 0, 0, 0, 0, []),
  (54, .ldc2_w 143, 3, 0, 0, 511, 255, []),
  (57, .land, 1, 0, 0, 0, 0, []),
  (58, .l2i, 1, 0, 0, 0, 0, []),
  (59, .invokevirtual 145, 3, 49, 6, 512, 0, []),
  (62, .iinc 4 (-1), 3, 0, 0, 0, 0, []),
  (65, .goto (-27), 3, 21, 0, 0, 0, []),
  (68, .aload_n 0, 1, 0, 0, 0, 0, []),
  (69, .getfield 65, 3, 8, 7, 358, 0, []),
  (72, .getfield 142, 3, 6, 0, 248, 0, []),
  (75, .ireturn, 1, 0, 0, 0, 0, [])]
def m_X8_feed : am_M := (yX8_feed, cX8_feed, 5, some .int)
def t_X8_read : List ri_row := [(0, .iload_n 1, 1, 0, 0, 0, 0, []),
  (1, .invokestatic 148, 3, 99, 0, 520, 0, []),
  (4, .ifCond .ne 7, 3, 5, 0, 0, 0, []),
  (7, .sipush (-1001), 3, 0, 0, 0, 0, []),
  (10, .ireturn, 1, 0, 0, 0, 0, []),
  (11, .aload_n 0, 1, 0, 0, 0, 0, []),
  (12, .getfield 65, 3, 8, 7, 358, 0, []),
  (15, .aload_n 0, 1, 0, 0, 0, 0, []),
  (16, .getfield 84, 3, 8, 11, 362, 0, []),
  (19, .invokevirtual 151, 3, 50, 6, 523, 0, []),
  (22, .istore_n 2, 1, 0, 0, 0, 0, []),
  (23, .aload_n 0, 1, 0, 0, 0, 0, []),
  (24, .getfield 65, 3, 8, 7, 358, 0, []),
  (27, .iconst 0, 1, 0, 0, 0, 0, []),
  (28, .putfield 142, 3, 6, 0, 248, 0, []),
  (31, .iload_n 2, 1, 0, 0, 0, 0, []),
  (32, .ifCond .eq 8, 3, 21, 0, 0, 0, []),
  (35, .bipush (-10), 2, 0, 0, 0, 0, []),
  (37, .iload_n 2, 1, 0, 0, 0, 0, []),
  (38, .isub, 1, 0, 0, 0, 0, []),
  (39, .ireturn, 1, 0, 0, 0, 0, []),
  (40, .aload_n 0, 1, 0, 0, 0, 0, []),
  (41, .getfield 17, 3, 8, 1, 352, 0, []),
  (44, .iload_n 1, 1, 0, 0, 0, 0, []),
  (45, .aaload, 1, 0, 0, 0, 0, []),
  (46, .aload_n 0, 1, 0, 0, 0, 0, []),
  (47, .getfield 65, 3, 8, 7, 358, 0, []),
  (50, .getfield 155, 3, 6, 2, 252, 0, []),
  (53, .invokevirtual 158, 3, 20, 2, 550, 0, []),
  (56, .aload_n 0, 1, 0, 0, 0, 0, []),
  (57, .getfield 17, 3, 8, 1, 352, 0, []),
  (60, .iload_n 1, 1, 0, 0, 0, 0, []),
  (61, .aaload, 1, 0, 0, 0, 0, []),
  (62, .getfield 162, 3, 2, 1, 241, 0, []),
  (65, .ireturn, 1, 0, 0, 0, 0, [])]
def m_X8_read : am_M := (yX8_read, cX8_read, 3, some .int)
def t_X8_fault : List ri_row := [(0, .aload_n 0, 1, 0, 0, 0, 0, []),
  (1, .getfield 65, 3, 8, 7, 358, 0, []),
  (4, .getfield 163, 3, 6, 1, 250, 0, []),
  (7, .ireturn, 1, 0, 0, 0, 0, [])]
def m_X8_fault : am_M := (yX8_fault, cX8_fault, 1, some .int)
def t_X8_twist : List ri_row := [(0, .iload_n 1, 1, 0, 0, 0, 0, []),
  (1, .invokestatic 148, 3, 99, 0, 520, 0, []),
  (4, .ifCond .eq 16, 3, 10, 0, 0, 0, []),
  (7, .aload_n 0, 1, 0, 0, 0, 0, []),
  (8, .getfield 17, 3, 8, 1, 352, 0, []),
  (11, .iload_n 1, 1, 0, 0, 0, 0, []),
  (12, .aaload, 1, 0, 0, 0, 0, []),
  (13, .iload_n 2, 1, 0, 0, 0, 0, []),
  (14, .invokevirtual 166, 3, 22, 2, 563, 0, []),
  (17, .goto 6, 3, 11, 0, 0, 0, []),
  (20, .sipush (-1001), 3, 0, 0, 0, 0, []),
  (23, .ireturn, 1, 0, 0, 0, 0, [])]
def m_X8_twist : am_M := (yX8_twist, cX8_twist, 3, some .int)
def t_X8_chain : List ri_row := [(0, .iload_n 1, 1, 0, 0, 0, 0, []),
  (1, .invokestatic 148, 3, 99, 0, 520, 0, []),
  (4, .ifCond .eq 17, 3, 9, 0, 0, 0, []),
  (7, .iload_n 2, 1, 0, 0, 0, 0, []),
  (8, .invokestatic 148, 3, 99, 0, 520, 0, []),
  (11, .ifCond .eq 10, 3, 9, 0, 0, 0, []),
  (14, .iload_n 3, 1, 0, 0, 0, 0, []),
  (15, .invokestatic 148, 3, 99, 0, 520, 0, []),
  (18, .ifCond .ne 7, 3, 11, 0, 0, 0, []),
  (21, .sipush (-1001), 3, 0, 0, 0, 0, []),
  (24, .ireturn, 1, 0, 0, 0, 0, []),
  (25, .aload_n 0, 1, 0, 0, 0, 0, []),
  (26, .getfield 17, 3, 8, 1, 352, 0, []),
  (29, .iload_n 2, 1, 0, 0, 0, 0, []),
  (30, .aaload, 1, 0, 0, 0, 0, []),
  (31, .getfield 162, 3, 2, 1, 241, 0, []),
  (34, .aload_n 0, 1, 0, 0, 0, 0, []),
  (35, .getfield 17, 3, 8, 1, 352, 0, []),
  (38, .iload_n 3, 1, 0, 0, 0, 0, []),
  (39, .aaload, 1, 0, 0, 0, 0, []),
  (40, .getfield 162, 3, 2, 1, 241, 0, []),
  (43, .iadd, 1, 0, 0, 0, 0, []),
  (44, .bipush 60, 2, 0, 0, 0, 0, []),
  (46, .if_icmp .le 7, 3, 26, 0, 0, 0, []),
  (49, .sipush (-1004), 3, 0, 0, 0, 0, []),
  (52, .ireturn, 1, 0, 0, 0, 0, []),
  (53, .aload_n 0, 1, 0, 0, 0, 0, []),
  (54, .getfield 73, 3, 8, 9, 360, 0, []),
  (57, .aload_n 0, 1, 0, 0, 0, 0, []),
  (58, .getfield 17, 3, 8, 1, 352, 0, []),
  (61, .iload_n 2, 1, 0, 0, 0, 0, []),
  (62, .aaload, 1, 0, 0, 0, 0, []),
  (63, .invokevirtual 158, 3, 20, 2, 550, 0, []),
  (66, .aload_n 0, 1, 0, 0, 0, 0, []),
  (67, .getfield 73, 3, 8, 9, 360, 0, []),
  (70, .aload_n 0, 1, 0, 0, 0, 0, []),
  (71, .getfield 17, 3, 8, 1, 352, 0, []),
  (74, .iload_n 3, 1, 0, 0, 0, 0, []),
  (75, .aaload, 1, 0, 0, 0, 0, []),
  (76, .invokevirtual 169, 3, 19, 2, 571, 0, []),
  (79, .aload_n 0, 1, 0, 0, 0, 0, []),
  (80, .getfield 17, 3, 8, 1, 352, 0, []),
  (83, .iload_n 1, 1, 0, 0, 0, 0, []),
  (84, .aaload, 1, 0, 0, 0, 0, []),
  (85, .aload_n 0, 1, 0, 0, 0, 0, []),
  (86, .getfield 73, 3, 8, 9, 360, 0, []),
  (89, .invokevirtual 158, 3, 20, 2, 550, 0, []),
  (92, .aload_n 0, 1, 0, 0, 0, 0, []),
  (93, .getfield 17, 3, 8, 1, 352, 0, []),
  (96, .iload_n 1, 1, 0, 0, 0, 0, []),
  (97, .aaload, 1, 0, 0, 0, 0, []),
  (98, .getfield 162, 3, 2, 1, 241, 0, []),
  (101, .ireturn, 1, 0, 0, 0, 0, [])]
def m_X8_chain : am_M := (yX8_chain, cX8_chain, 4, some .int)
def t_X8_turn : List ri_row := [(0, .iload_n 1, 1, 0, 0, 0, 0, []),
  (1, .invokestatic 148, 3, 99, 0, 520, 0, []),
  (4, .ifCond .eq 10, 3, 6, 0, 0, 0, []),
  (7, .iload_n 2, 1, 0, 0, 0, 0, []),
  (8, .invokestatic 148, 3, 99, 0, 520, 0, []),
  (11, .ifCond .ne 7, 3, 8, 0, 0, 0, []),
  (14, .sipush (-1001), 3, 0, 0, 0, 0, []),
  (17, .ireturn, 1, 0, 0, 0, 0, []),
  (18, .aload_n 0, 1, 0, 0, 0, 0, []),
  (19, .getfield 73, 3, 8, 9, 360, 0, []),
  (22, .aload_n 0, 1, 0, 0, 0, 0, []),
  (23, .getfield 17, 3, 8, 1, 352, 0, []),
  (26, .iload_n 2, 1, 0, 0, 0, 0, []),
  (27, .aaload, 1, 0, 0, 0, 0, []),
  (28, .invokevirtual 172, 3, 21, 2, 580, 0, []),
  (31, .aload_n 0, 1, 0, 0, 0, 0, []),
  (32, .getfield 17, 3, 8, 1, 352, 0, []),
  (35, .iload_n 1, 1, 0, 0, 0, 0, []),
  (36, .aaload, 1, 0, 0, 0, 0, []),
  (37, .aload_n 0, 1, 0, 0, 0, 0, []),
  (38, .getfield 73, 3, 8, 9, 360, 0, []),
  (41, .invokevirtual 158, 3, 20, 2, 550, 0, []),
  (44, .aload_n 0, 1, 0, 0, 0, 0, []),
  (45, .getfield 17, 3, 8, 1, 352, 0, []),
  (48, .iload_n 1, 1, 0, 0, 0, 0, []),
  (49, .aaload, 1, 0, 0, 0, 0, []),
  (50, .getfield 162, 3, 2, 1, 241, 0, []),
  (53, .ireturn, 1, 0, 0, 0, 0, [])]
def m_X8_turn : am_M := (yX8_turn, cX8_turn, 3, some .int)
def t_X8_image : List ri_row := [(0, .iload_n 1, 1, 0, 0, 0, 0, []),
  (1, .invokestatic 148, 3, 99, 0, 520, 0, []),
  (4, .ifCond .ne 7, 3, 5, 0, 0, 0, []),
  (7, .sipush (-1001), 3, 0, 0, 0, 0, []),
  (10, .ireturn, 1, 0, 0, 0, 0, []),
  (11, .aload_n 0, 1, 0, 0, 0, 0, []),
  (12, .iload_n 2, 1, 0, 0, 0, 0, []),
  (13, .invokevirtual 175, 3, 101, 8, 588, 0, []),
  (16, .ifCond .ne 7, 3, 11, 0, 0, 0, []),
  (19, .sipush (-1002), 3, 0, 0, 0, 0, []),
  (22, .ireturn, 1, 0, 0, 0, 0, []),
  (23, .aload_n 0, 1, 0, 0, 0, 0, []),
  (24, .getfield 69, 3, 8, 8, 359, 0, []),
  (27, .iload_n 2, 1, 0, 0, 0, 0, []),
  (28, .invokevirtual 178, 3, 28, 4, 592, 0, []),
  (31, .aload_n 0, 1, 0, 0, 0, 0, []),
  (32, .getfield 33, 3, 8, 3, 354, 0, []),
  (35, .aload_n 0, 1, 0, 0, 0, 0, []),
  (36, .getfield 17, 3, 8, 1, 352, 0, []),
  (39, .iload_n 1, 1, 0, 0, 0, 0, []),
  (40, .aaload, 1, 0, 0, 0, 0, []),
  (41, .aload_n 0, 1, 0, 0, 0, 0, []),
  (42, .getfield 69, 3, 8, 8, 359, 0, []),
  (45, .invokevirtual 181, 3, 66, 7, 596, 0, []),
  (48, .ifCond .ne 7, 3, 27, 0, 0, 0, []),
  (51, .sipush (-1005), 3, 0, 0, 0, 0, []),
  (54, .ireturn, 1, 0, 0, 0, 0, []),
  (55, .iload_n 3, 1, 0, 0, 0, 0, []),
  (56, .iconst (-1), 1, 0, 0, 0, 0, []),
  (57, .if_icmp .ne 11, 3, 34, 0, 0, 0, []),
  (60, .aload_n 0, 1, 0, 0, 0, 0, []),
  (61, .getfield 69, 3, 8, 8, 359, 0, []),
  (64, .getfield 88, 3, 4, 1, 123, 0, []),
  (67, .ireturn, 1, 0, 0, 0, 0, []),
  (68, .iload_n 3, 1, 0, 0, 0, 0, []),
  (69, .ifCond .lt 26, 3, 47, 0, 0, 0, []),
  (72, .iload_n 3, 1, 0, 0, 0, 0, []),
  (73, .aload_n 0, 1, 0, 0, 0, 0, []),
  (74, .getfield 69, 3, 8, 8, 359, 0, []),
  (77, .getfield 88, 3, 4, 1, 123, 0, []),
  (80, .if_icmp .ge 15, 3, 47, 0, 0, 0, []),
  (83, .aload_n 0, 1, 0, 0, 0, 0, []),
  (84, .getfield 69, 3, 8, 8, 359, 0, []),
  (87, .getfield 123, 3, 4, 0, 118, 0, []),
  (90, .iload_n 3, 1, 0, 0, 0, 0, []),
  (91, .iaload, 1, 0, 0, 0, 0, []),
  (92, .goto 4, 3, 48, 0, 0, 0, []),
  (95, .iconst 0, 1, 0, 0, 0, 0, []),
  (96, .ireturn, 1, 0, 0, 0, 0, [])]
def m_X8_image : am_M := (yX8_image, cX8_image, 4, some .int)
def t_X8_carried : List ri_row := [(0, .iload_n 1, 1, 0, 0, 0, 0, []),
  (1, .invokestatic 148, 3, 99, 0, 520, 0, []),
  (4, .ifCond .eq 24, 3, 14, 0, 0, 0, []),
  (7, .aload_n 0, 1, 0, 0, 0, 0, []),
  (8, .iload_n 2, 1, 0, 0, 0, 0, []),
  (9, .invokevirtual 101, 3, 98, 8, 455, 0, []),
  (12, .ifCond .eq 16, 3, 14, 0, 0, 0, []),
  (15, .iload_n 3, 1, 0, 0, 0, 0, []),
  (16, .iconst (-1), 1, 0, 0, 0, 0, []),
  (17, .if_icmp .eq 15, 3, 16, 0, 0, 0, []),
  (20, .aload_n 0, 1, 0, 0, 0, 0, []),
  (21, .iload_n 3, 1, 0, 0, 0, 0, []),
  (22, .invokevirtual 101, 3, 98, 8, 455, 0, []),
  (25, .ifCond .ne 7, 3, 16, 0, 0, 0, []),
  (28, .sipush (-1001), 3, 0, 0, 0, 0, []),
  (31, .ireturn, 1, 0, 0, 0, 0, []),
  (32, .aload_n 0, 1, 0, 0, 0, 0, []),
  (33, .iload_n 1, 1, 0, 0, 0, 0, []),
  (34, .iload_n 2, 1, 0, 0, 0, 0, []),
  (35, .invokevirtual 185, 3, 105, 8, 608, 0, []),
  (38, .ifCond .ne 7, 3, 23, 0, 0, 0, []),
  (41, .sipush (-1005), 3, 0, 0, 0, 0, []),
  (44, .ireturn, 1, 0, 0, 0, 0, []),
  (45, .iload_n 3, 1, 0, 0, 0, 0, []),
  (46, .iconst (-1), 1, 0, 0, 0, 0, []),
  (47, .if_icmp .ne 13, 3, 30, 0, 0, 0, []),
  (50, .aload_n 0, 1, 0, 0, 0, 0, []),
  (51, .getfield 69, 3, 8, 8, 359, 0, []),
  (54, .getfield 88, 3, 4, 1, 123, 0, []),
  (57, .goto 22, 3, 39, 0, 0, 0, []),
  (60, .aload_n 0, 1, 0, 0, 0, 0, []),
  (61, .getfield 69, 3, 8, 8, 359, 0, []),
  (64, .aload_n 0, 1, 0, 0, 0, 0, []),
  (65, .getfield 11, 3, 8, 0, 351, 0, []),
  (68, .iload_n 3, 1, 0, 0, 0, 0, []),
  (69, .aaload, 1, 0, 0, 0, 0, []),
  (70, .getfield 105, 3, 3, 0, 290, 0, []),
  (73, .invokevirtual 131, 3, 35, 4, 479, 0, []),
  (76, .invokestatic 112, 3, 103, 0, 459, 0, []),
  (79, .ireturn, 1, 0, 0, 0, 0, [])]
def m_X8_carried : am_M := (yX8_carried, cX8_carried, 4, some .int)
def t_X8_meetsThen : List ri_row := [(0, .iload_n 1, 1, 0, 0, 0, 0, []),
  (1, .invokestatic 148, 3, 99, 0, 520, 0, []),
  (4, .ifCond .eq 19, 3, 11, 0, 0, 0, []),
  (7, .aload_n 0, 1, 0, 0, 0, 0, []),
  (8, .iload_n 2, 1, 0, 0, 0, 0, []),
  (9, .invokevirtual 101, 3, 98, 8, 455, 0, []),
  (12, .ifCond .eq 11, 3, 11, 0, 0, 0, []),
  (15, .aload_n 0, 1, 0, 0, 0, 0, []),
  (16, .iload_n 3, 1, 0, 0, 0, 0, []),
  (17, .invokevirtual 101, 3, 98, 8, 455, 0, []),
  (20, .ifCond .ne 7, 3, 13, 0, 0, 0, []),
  (23, .sipush (-1001), 3, 0, 0, 0, 0, []),
  (26, .ireturn, 1, 0, 0, 0, 0, []),
  (27, .aload_n 0, 1, 0, 0, 0, 0, []),
  (28, .getfield 11, 3, 8, 0, 351, 0, []),
  (31, .iload_n 2, 1, 0, 0, 0, 0, []),
  (32, .aaload, 1, 0, 0, 0, 0, []),
  (33, .getfield 108, 3, 3, 1, 292, 0, []),
  (36, .ifCond .ne 15, 3, 25, 0, 0, 0, []),
  (39, .aload_n 0, 1, 0, 0, 0, 0, []),
  (40, .getfield 11, 3, 8, 0, 351, 0, []),
  (43, .iload_n 3, 1, 0, 0, 0, 0, []),
  (44, .aaload, 1, 0, 0, 0, 0, []),
  (45, .getfield 108, 3, 3, 1, 292, 0, []),
  (48, .ifCond .eq 7, 3, 27, 0, 0, 0, []),
  (51, .sipush (-1003), 3, 0, 0, 0, 0, []),
  (54, .ireturn, 1, 0, 0, 0, 0, []),
  (55, .aload_n 0, 1, 0, 0, 0, 0, []),
  (56, .iload_n 1, 1, 0, 0, 0, 0, []),
  (57, .iload_n 2, 1, 0, 0, 0, 0, []),
  (58, .invokevirtual 185, 3, 105, 8, 608, 0, []),
  (61, .ifCond .ne 7, 3, 34, 0, 0, 0, []),
  (64, .sipush (-1005), 3, 0, 0, 0, 0, []),
  (67, .ireturn, 1, 0, 0, 0, 0, []),
  (68, .aload_n 0, 1, 0, 0, 0, 0, []),
  (69, .getfield 40, 3, 8, 4, 355, 0, []),
  (72, .aload_n 0, 1, 0, 0, 0, 0, []),
  (73, .getfield 69, 3, 8, 8, 359, 0, []),
  (76, .aload_n 0, 1, 0, 0, 0, 0, []),
  (77, .getfield 11, 3, 8, 0, 351, 0, []),
  (80, .iload_n 3, 1, 0, 0, 0, 0, []),
  (81, .aaload, 1, 0, 0, 0, 0, []),
  (82, .getfield 105, 3, 3, 0, 290, 0, []),
  (85, .invokevirtual 127, 3, 11, 1, 474, 0, []),
  (88, .ireturn, 1, 0, 0, 0, 0, [])]
def m_X8_meetsThen : am_M := (yX8_meetsThen, cX8_meetsThen, 4, some .int)
def t_X8_same : List ri_row := [(0, .iload_n 1, 1, 0, 0, 0, 0, []),
  (1, .invokestatic 148, 3, 99, 0, 520, 0, []),
  (4, .ifCond .eq 10, 3, 6, 0, 0, 0, []),
  (7, .iload_n 2, 1, 0, 0, 0, 0, []),
  (8, .invokestatic 148, 3, 99, 0, 520, 0, []),
  (11, .ifCond .ne 7, 3, 8, 0, 0, 0, []),
  (14, .sipush (-1001), 3, 0, 0, 0, 0, []),
  (17, .ireturn, 1, 0, 0, 0, 0, []),
  (18, .aload_n 0, 1, 0, 0, 0, 0, []),
  (19, .aload_n 0, 1, 0, 0, 0, 0, []),
  (20, .getfield 17, 3, 8, 1, 352, 0, []),
  (23, .iload_n 1, 1, 0, 0, 0, 0, []),
  (24, .aaload, 1, 0, 0, 0, 0, []),
  (25, .aload_n 0, 1, 0, 0, 0, 0, []),
  (26, .getfield 17, 3, 8, 1, 352, 0, []),
  (29, .iload_n 2, 1, 0, 0, 0, 0, []),
  (30, .aaload, 1, 0, 0, 0, 0, []),
  (31, .invokevirtual 189, 3, 106, 8, 622, 0, []),
  (34, .ireturn, 1, 0, 0, 0, 0, [])]
def m_X8_same : am_M := (yX8_same, cX8_same, 3, some .int)
def t_X8_turns : List ri_row := [(0, .iload_n 1, 1, 0, 0, 0, 0, []),
  (1, .invokestatic 148, 3, 99, 0, 520, 0, []),
  (4, .ifCond .ne 7, 3, 5, 0, 0, 0, []),
  (7, .sipush (-1001), 3, 0, 0, 0, 0, []),
  (10, .ireturn, 1, 0, 0, 0, 0, []),
  (11, .aload_n 0, 1, 0, 0, 0, 0, []),
  (12, .getfield 49, 3, 8, 5, 356, 0, []),
  (15, .aload_n 0, 1, 0, 0, 0, 0, []),
  (16, .getfield 84, 3, 8, 11, 362, 0, []),
  (19, .invokevirtual 193, 3, 1, 0, 626, 0, []),
  (22, .aload_n 0, 1, 0, 0, 0, 0, []),
  (23, .getfield 49, 3, 8, 5, 356, 0, []),
  (26, .aload_n 0, 1, 0, 0, 0, 0, []),
  (27, .getfield 17, 3, 8, 1, 352, 0, []),
  (30, .iload_n 1, 1, 0, 0, 0, 0, []),
  (31, .aaload, 1, 0, 0, 0, 0, []),
  (32, .invokevirtual 196, 3, 2, 0, 631, 0, []),
  (35, .ifCond .eq 17, 3, 24, 0, 0, 0, []),
  (38, .aload_n 0, 1, 0, 0, 0, 0, []),
  (39, .getfield 49, 3, 8, 5, 356, 0, []),
  (42, .aload_n 0, 1, 0, 0, 0, 0, []),
  (43, .getfield 69, 3, 8, 8, 359, 0, []),
  (46, .invokevirtual 199, 3, 4, 0, 644, 0, []),
  (49, .goto 6, 3, 25, 0, 0, 0, []),
  (52, .sipush (-1005), 3, 0, 0, 0, 0, []),
  (55, .ireturn, 1, 0, 0, 0, 0, [])]
def m_X8_turns : am_M := (yX8_turns, cX8_turns, 2, some .int)
def t_X8_order : List ri_row := [(0, .iload_n 1, 1, 0, 0, 0, 0, []),
  (1, .invokestatic 148, 3, 99, 0, 520, 0, []),
  (4, .ifCond .ne 7, 3, 5, 0, 0, 0, []),
  (7, .sipush (-1001), 3, 0, 0, 0, 0, []),
  (10, .ireturn, 1, 0, 0, 0, 0, []),
  (11, .iload_n 2, 1, 0, 0, 0, 0, []),
  (12, .iconst 1, 1, 0, 0, 0, 0, []),
  (13, .if_icmp .lt 9, 3, 11, 0, 0, 0, []),
  (16, .iload_n 2, 1, 0, 0, 0, 0, []),
  (17, .bipush 24, 2, 0, 0, 0, 0, []),
  (19, .if_icmp .le 7, 3, 13, 0, 0, 0, []),
  (22, .sipush (-1002), 3, 0, 0, 0, 0, []),
  (25, .ireturn, 1, 0, 0, 0, 0, []),
  (26, .aload_n 0, 1, 0, 0, 0, 0, []),
  (27, .getfield 49, 3, 8, 5, 356, 0, []),
  (30, .aload_n 0, 1, 0, 0, 0, 0, []),
  (31, .getfield 84, 3, 8, 11, 362, 0, []),
  (34, .invokevirtual 193, 3, 1, 0, 626, 0, []),
  (37, .iconst 1, 1, 0, 0, 0, 0, []),
  (38, .istore_n 3, 1, 0, 0, 0, 0, []),
  (39, .iload_n 3, 1, 0, 0, 0, 0, []),
  (40, .iload_n 2, 1, 0, 0, 0, 0, []),
  (41, .if_icmp .gt 47, 3, 44, 0, 0, 0, []),
  (44, .aload_n 0, 1, 0, 0, 0, 0, []),
  (45, .getfield 49, 3, 8, 5, 356, 0, []),
  (48, .aload_n 0, 1, 0, 0, 0, 0, []),
  (49, .getfield 17, 3, 8, 1, 352, 0, []),
  (52, .iload_n 1, 1, 0, 0, 0, 0, []),
  (53, .aaload, 1, 0, 0, 0, 0, []),
  (54, .invokevirtual 196, 3, 2, 0, 631, 0, []),
  (57, .ifCond .ne 7, 3, 33, 0, 0, 0, []),
  (60, .sipush (-1005), 3, 0, 0, 0, 0, []),
  (63, .ireturn, 1, 0, 0, 0, 0, []),
  (64, .aload_n 0, 1, 0, 0, 0, 0, []),
  (65, .getfield 49, 3, 8, 5, 356, 0, []),
  (68, .aload_n 0, 1, 0, 0, 0, 0, []),
  (69, .getfield 69, 3, 8, 8, 359, 0, []),
  (72, .invokevirtual 199, 3, 4, 0, 644, 0, []),
  (75, .bipush 99, 2, 0, 0, 0, 0, []),
  (77, .if_icmp .eq 5, 3, 42, 0, 0, 0, []),
  (80, .iload_n 3, 1, 0, 0, 0, 0, []),
  (81, .ireturn, 1, 0, 0, 0, 0, []),
  (82, .iinc 3 1, 3, 0, 0, 0, 0, []),
  (85, .goto (-46), 3, 20, 0, 0, 0, []),
  (88, .iconst (-1), 1, 0, 0, 0, 0, []),
  (89, .ireturn, 1, 0, 0, 0, 0, [])]
def m_X8_order : am_M := (yX8_order, cX8_order, 4, some .int)
def t_X8_table : List ri_row := [(0, .iload_n 1, 1, 0, 0, 0, 0, []),
  (1, .invokestatic 148, 3, 99, 0, 520, 0, []),
  (4, .ifCond .ne 7, 3, 5, 0, 0, 0, []),
  (7, .sipush (-1001), 3, 0, 0, 0, 0, []),
  (10, .ireturn, 1, 0, 0, 0, 0, []),
  (11, .aload_n 0, 1, 0, 0, 0, 0, []),
  (12, .iload_n 2, 1, 0, 0, 0, 0, []),
  (13, .invokevirtual 175, 3, 101, 8, 588, 0, []),
  (16, .ifCond .eq 11, 3, 13, 0, 0, 0, []),
  (19, .aload_n 0, 1, 0, 0, 0, 0, []),
  (20, .iload_n 3, 1, 0, 0, 0, 0, []),
  (21, .invokevirtual 175, 3, 101, 8, 588, 0, []),
  (24, .ifCond .ne 7, 3, 15, 0, 0, 0, []),
  (27, .sipush (-1002), 3, 0, 0, 0, 0, []),
  (30, .ireturn, 1, 0, 0, 0, 0, []),
  (31, .aload_n 0, 1, 0, 0, 0, 0, []),
  (32, .getfield 69, 3, 8, 8, 359, 0, []),
  (35, .iload_n 2, 1, 0, 0, 0, 0, []),
  (36, .invokevirtual 178, 3, 28, 4, 592, 0, []),
  (39, .aload_n 0, 1, 0, 0, 0, 0, []),
  (40, .getfield 33, 3, 8, 3, 354, 0, []),
  (43, .aload_n 0, 1, 0, 0, 0, 0, []),
  (44, .getfield 17, 3, 8, 1, 352, 0, []),
  (47, .iload_n 1, 1, 0, 0, 0, 0, []),
  (48, .aaload, 1, 0, 0, 0, 0, []),
  (49, .aload_n 0, 1, 0, 0, 0, 0, []),
  (50, .getfield 69, 3, 8, 8, 359, 0, []),
  (53, .invokevirtual 181, 3, 66, 7, 596, 0, []),
  (56, .ifCond .eq 14, 3, 34, 0, 0, 0, []),
  (59, .aload_n 0, 1, 0, 0, 0, 0, []),
  (60, .getfield 69, 3, 8, 8, 359, 0, []),
  (63, .iload_n 3, 1, 0, 0, 0, 0, []),
  (64, .invokevirtual 203, 3, 40, 4, 672, 0, []),
  (67, .goto 6, 3, 35, 0, 0, 0, []),
  (70, .sipush (-1005), 3, 0, 0, 0, 0, []),
  (73, .ireturn, 1, 0, 0, 0, 0, [])]
def m_X8_table : am_M := (yX8_table, cX8_table, 4, some .int)
def t_X8_character : List ri_row := [(0, .iload_n 1, 1, 0, 0, 0, 0, []),
  (1, .invokestatic 148, 3, 99, 0, 520, 0, []),
  (4, .ifCond .ne 7, 3, 5, 0, 0, 0, []),
  (7, .ldc2_w 206, 3, 0, 0, 680, (-1001), []),
  (10, .lreturn, 1, 0, 0, 0, 0, []),
  (11, .iload_n 2, 1, 0, 0, 0, 0, []),
  (12, .ifCond .lt 13, 3, 13, 0, 0, 0, []),
  (15, .iload_n 2, 1, 0, 0, 0, 0, []),
  (16, .iconst 2, 1, 0, 0, 0, 0, []),
  (17, .aload_n 0, 1, 0, 0, 0, 0, []),
  (18, .getfield 84, 3, 8, 11, 362, 0, []),
  (21, .imul, 1, 0, 0, 0, 0, []),
  (22, .if_icmp .le 7, 3, 15, 0, 0, 0, []),
  (25, .ldc2_w 208, 3, 0, 0, 681, (-1002), []),
  (28, .lreturn, 1, 0, 0, 0, 0, []),
  (29, .aload_n 0, 1, 0, 0, 0, 0, []),
  (30, .getfield 49, 3, 8, 5, 356, 0, []),
  (33, .aload_n 0, 1, 0, 0, 0, 0, []),
  (34, .getfield 84, 3, 8, 11, 362, 0, []),
  (37, .invokevirtual 193, 3, 1, 0, 626, 0, []),
  (40, .aload_n 0, 1, 0, 0, 0, 0, []),
  (41, .getfield 49, 3, 8, 5, 356, 0, []),
  (44, .aload_n 0, 1, 0, 0, 0, 0, []),
  (45, .getfield 17, 3, 8, 1, 352, 0, []),
  (48, .iload_n 1, 1, 0, 0, 0, 0, []),
  (49, .aaload, 1, 0, 0, 0, 0, []),
  (50, .invokevirtual 196, 3, 2, 0, 631, 0, []),
  (53, .ifCond .eq 14, 3, 33, 0, 0, 0, []),
  (56, .aload_n 0, 1, 0, 0, 0, 0, []),
  (57, .getfield 49, 3, 8, 5, 356, 0, []),
  (60, .iload_n 2, 1, 0, 0, 0, 0, []),
  (61, .invokevirtual 210, 3, 8, 0, 682, 0, []),
  (64, .goto 6, 3, 34, 0, 0, 0, []),
  (67, .ldc2_w 214, 3, 0, 0, 696, (-1005), []),
  (70, .lreturn, 1, 0, 0, 0, 0, [])]
def m_X8_character : am_M := (yX8_character, cX8_character, 3, some .long)
def t_X8_length : List ri_row := [(0, .iload_n 1, 1, 0, 0, 0, 0, []),
  (1, .invokestatic 148, 3, 99, 0, 520, 0, []),
  (4, .ifCond .ne 7, 3, 5, 0, 0, 0, []),
  (7, .sipush (-1001), 3, 0, 0, 0, 0, []),
  (10, .ireturn, 1, 0, 0, 0, 0, []),
  (11, .iload_n 2, 1, 0, 0, 0, 0, []),
  (12, .ifCond .lt 9, 3, 10, 0, 0, 0, []),
  (15, .iload_n 2, 1, 0, 0, 0, 0, []),
  (16, .bipush 24, 2, 0, 0, 0, 0, []),
  (18, .if_icmp .le 7, 3, 12, 0, 0, 0, []),
  (21, .sipush (-1002), 3, 0, 0, 0, 0, []),
  (24, .ireturn, 1, 0, 0, 0, 0, []),
  (25, .aload_n 0, 1, 0, 0, 0, 0, []),
  (26, .getfield 49, 3, 8, 5, 356, 0, []),
  (29, .aload_n 0, 1, 0, 0, 0, 0, []),
  (30, .getfield 84, 3, 8, 11, 362, 0, []),
  (33, .invokevirtual 193, 3, 1, 0, 626, 0, []),
  (36, .iconst 0, 1, 0, 0, 0, 0, []),
  (37, .istore_n 3, 1, 0, 0, 0, 0, []),
  (38, .iload_n 3, 1, 0, 0, 0, 0, []),
  (39, .iload_n 2, 1, 0, 0, 0, 0, []),
  (40, .if_icmp .ge 29, 3, 34, 0, 0, 0, []),
  (43, .aload_n 0, 1, 0, 0, 0, 0, []),
  (44, .getfield 49, 3, 8, 5, 356, 0, []),
  (47, .aload_n 0, 1, 0, 0, 0, 0, []),
  (48, .getfield 17, 3, 8, 1, 352, 0, []),
  (51, .iload_n 1, 1, 0, 0, 0, 0, []),
  (52, .aaload, 1, 0, 0, 0, 0, []),
  (53, .invokevirtual 196, 3, 2, 0, 631, 0, []),
  (56, .ifCond .ne 7, 3, 32, 0, 0, 0, []),
  (59, .sipush (-1005), 3, 0, 0, 0, 0, []),
  (62, .ireturn, 1, 0, 0, 0, 0, []),
  (63, .iinc 3 1, 3, 0, 0, 0, 0, []),
  (66, .goto (-28), 3, 19, 0, 0, 0, []),
  (69, .aload_n 0, 1, 0, 0, 0, 0, []),
  (70, .getfield 49, 3, 8, 5, 356, 0, []),
  (73, .invokevirtual 216, 3, 3, 0, 701, 0, []),
  (76, .ireturn, 1, 0, 0, 0, 0, [])]
def m_X8_length : am_M := (yX8_length, cX8_length, 4, some .int)
def t_X8_sort : List ri_row := [(0, .iload_n 1, 1, 0, 0, 0, 0, []),
  (1, .invokestatic 148, 3, 99, 0, 520, 0, []),
  (4, .ifCond .ne 7, 3, 5, 0, 0, 0, []),
  (7, .sipush (-1001), 3, 0, 0, 0, 0, []),
  (10, .ireturn, 1, 0, 0, 0, 0, []),
  (11, .iload_n 2, 1, 0, 0, 0, 0, []),
  (12, .iconst 1, 1, 0, 0, 0, 0, []),
  (13, .if_icmp .lt 9, 3, 11, 0, 0, 0, []),
  (16, .iload_n 2, 1, 0, 0, 0, 0, []),
  (17, .bipush 12, 2, 0, 0, 0, 0, []),
  (19, .if_icmp .le 7, 3, 13, 0, 0, 0, []),
  (22, .sipush (-1002), 3, 0, 0, 0, 0, []),
  (25, .ireturn, 1, 0, 0, 0, 0, []),
  (26, .iconst 1, 1, 0, 0, 0, 0, []),
  (27, .istore_n 3, 1, 0, 0, 0, 0, []),
  (28, .iconst 0, 1, 0, 0, 0, 0, []),
  (29, .istore 4, 2, 0, 0, 0, 0, []),
  (31, .aload_n 0, 1, 0, 0, 0, 0, []),
  (32, .getfield 49, 3, 8, 5, 356, 0, []),
  (35, .aload_n 0, 1, 0, 0, 0, 0, []),
  (36, .getfield 84, 3, 8, 11, 362, 0, []),
  (39, .invokevirtual 193, 3, 1, 0, 626, 0, []),
  (42, .iconst 1, 1, 0, 0, 0, 0, []),
  (43, .istore 5, 2, 0, 0, 0, 0, []),
  (45, .iload 5, 2, 0, 0, 0, 0, []),
  (47, .iload_n 2, 1, 0, 0, 0, 0, []),
  (48, .if_icmp .gt 77, 3, 63, 0, 0, 0, []),
  (51, .aload_n 0, 1, 0, 0, 0, 0, []),
  (52, .getfield 49, 3, 8, 5, 356, 0, []),
  (55, .aload_n 0, 1, 0, 0, 0, 0, []),
  (56, .getfield 17, 3, 8, 1, 352, 0, []),
  (59, .iload_n 1, 1, 0, 0, 0, 0, []),
  (60, .aaload, 1, 0, 0, 0, 0, []),
  (61, .invokevirtual 196, 3, 2, 0, 631, 0, []),
  (64, .ifCond .ne 7, 3, 37, 0, 0, 0, []),
  (67, .sipush (-1005), 3, 0, 0, 0, 0, []),
  (70, .ireturn, 1, 0, 0, 0, 0, []),
  (71, .aload_n 0, 1, 0, 0, 0, 0, []),
  (72, .getfield 49, 3, 8, 5, 356, 0, []),
  (75, .aload_n 0, 1, 0, 0, 0, 0, []),
  (76, .getfield 69, 3, 8, 8, 359, 0, []),
  (79, .invokevirtual 199, 3, 4, 0, 644, 0, []),
  (82, .bipush 99, 2, 0, 0, 0, 0, []),
  (84, .if_icmp .eq 5, 3, 46, 0, 0, 0, []),
  (87, .iconst 0, 1, 0, 0, 0, 0, []),
  (88, .ireturn, 1, 0, 0, 0, 0, []),
  (89, .aload_n 0, 1, 0, 0, 0, 0, []),
  (90, .getfield 49, 3, 8, 5, 356, 0, []),
  (93, .invokevirtual 216, 3, 3, 0, 701, 0, []),
  (96, .istore 6, 2, 0, 0, 0, 0, []),
  (98, .iload_n 3, 1, 0, 0, 0, 0, []),
  (99, .ifCond .eq 14, 3, 57, 0, 0, 0, []),
  (102, .iload 6, 2, 0, 0, 0, 0, []),
  (104, .iload 4, 2, 0, 0, 0, 0, []),
  (106, .if_icmp .le 7, 3, 57, 0, 0, 0, []),
  (109, .iconst 1, 1, 0, 0, 0, 0, []),
  (110, .goto 4, 3, 58, 0, 0, 0, []),
  (113, .iconst 0, 1, 0, 0, 0, 0, []),
  (114, .istore_n 3, 1, 0, 0, 0, 0, []),
  (115, .iload 6, 2, 0, 0, 0, 0, []),
  (117, .istore 4, 2, 0, 0, 0, 0, []),
  (119, .iinc 5 1, 3, 0, 0, 0, 0, []),
  (122, .goto (-77), 3, 24, 0, 0, 0, []),
  (125, .aload_n 0, 1, 0, 0, 0, 0, []),
  (126, .aload_n 0, 1, 0, 0, 0, 0, []),
  (127, .getfield 17, 3, 8, 1, 352, 0, []),
  (130, .iload_n 1, 1, 0, 0, 0, 0, []),
  (131, .aaload, 1, 0, 0, 0, 0, []),
  (132, .iload_n 2, 1, 0, 0, 0, 0, []),
  (133, .invokevirtual 220, 3, 107, 8, 709, 0, []),
  (136, .ifCond .eq 5, 3, 73, 0, 0, 0, []),
  (139, .iconst 1, 1, 0, 0, 0, 0, []),
  (140, .ireturn, 1, 0, 0, 0, 0, []),
  (141, .iload_n 3, 1, 0, 0, 0, 0, []),
  (142, .ifCond .eq 7, 3, 77, 0, 0, 0, []),
  (145, .iconst 2, 1, 0, 0, 0, 0, []),
  (146, .goto 4, 3, 78, 0, 0, 0, []),
  (149, .iconst 3, 1, 0, 0, 0, 0, []),
  (150, .ireturn, 1, 0, 0, 0, 0, [])]
def m_X8_sort : am_M := (yX8_sort, cX8_sort, 7, some .int)
def t_X8_law : List ri_row := [(0, .aload_n 0, 1, 0, 0, 0, 0, []),
  (1, .iload_n 1, 1, 0, 0, 0, 0, []),
  (2, .invokevirtual 224, 3, 100, 8, 721, 0, []),
  (5, .ifCond .eq 11, 3, 8, 0, 0, 0, []),
  (8, .aload_n 0, 1, 0, 0, 0, 0, []),
  (9, .iload_n 2, 1, 0, 0, 0, 0, []),
  (10, .invokevirtual 224, 3, 100, 8, 721, 0, []),
  (13, .ifCond .ne 7, 3, 10, 0, 0, 0, []),
  (16, .sipush (-1001), 3, 0, 0, 0, 0, []),
  (19, .ireturn, 1, 0, 0, 0, 0, []),
  (20, .aload_n 0, 1, 0, 0, 0, 0, []),
  (21, .getfield 73, 3, 8, 9, 360, 0, []),
  (24, .iconst 0, 1, 0, 0, 0, 0, []),
  (25, .putfield 162, 3, 2, 1, 241, 0, []),
  (28, .aload_n 0, 1, 0, 0, 0, 0, []),
  (29, .getfield 73, 3, 8, 9, 360, 0, []),
  (32, .iconst 2, 1, 0, 0, 0, 0, []),
  (33, .iload_n 1, 1, 0, 0, 0, 0, []),
  (34, .imul, 1, 0, 0, 0, 0, []),
  (35, .invokevirtual 227, 3, 18, 2, 725, 0, []),
  (38, .aload_n 0, 1, 0, 0, 0, 0, []),
  (39, .getfield 73, 3, 8, 9, 360, 0, []),
  (42, .iconst 2, 1, 0, 0, 0, 0, []),
  (43, .iload_n 2, 1, 0, 0, 0, 0, []),
  (44, .imul, 1, 0, 0, 0, 0, []),
  (45, .invokevirtual 227, 3, 18, 2, 725, 0, []),
  (48, .aload_n 0, 1, 0, 0, 0, 0, []),
  (49, .getfield 77, 3, 8, 10, 361, 0, []),
  (52, .iconst 0, 1, 0, 0, 0, 0, []),
  (53, .putfield 162, 3, 2, 1, 241, 0, []),
  (56, .aload_n 0, 1, 0, 0, 0, 0, []),
  (57, .getfield 77, 3, 8, 10, 361, 0, []),
  (60, .iconst 2, 1, 0, 0, 0, 0, []),
  (61, .iload_n 2, 1, 0, 0, 0, 0, []),
  (62, .imul, 1, 0, 0, 0, 0, []),
  (63, .invokevirtual 227, 3, 18, 2, 725, 0, []),
  (66, .aload_n 0, 1, 0, 0, 0, 0, []),
  (67, .getfield 77, 3, 8, 10, 361, 0, []),
  (70, .iconst 2, 1, 0, 0, 0, 0, []),
  (71, .iload_n 1, 1, 0, 0, 0, 0, []),
  (72, .imul, 1, 0, 0, 0, 0, []),
  (73, .invokevirtual 227, 3, 18, 2, 725, 0, []),
  (76, .aload_n 0, 1, 0, 0, 0, 0, []),
  (77, .aload_n 0, 1, 0, 0, 0, 0, []),
  (78, .getfield 73, 3, 8, 9, 360, 0, []),
  (81, .aload_n 0, 1, 0, 0, 0, 0, []),
  (82, .getfield 77, 3, 8, 10, 361, 0, []),
  (85, .invokevirtual 189, 3, 106, 8, 622, 0, []),
  (88, .iconst (-1), 1, 0, 0, 0, 0, []),
  (89, .if_icmp .ne 5, 3, 52, 0, 0, 0, []),
  (92, .iconst 0, 1, 0, 0, 0, 0, []),
  (93, .ireturn, 1, 0, 0, 0, 0, []),
  (94, .aload_n 0, 1, 0, 0, 0, 0, []),
  (95, .getfield 73, 3, 8, 9, 360, 0, []),
  (98, .iconst 2, 1, 0, 0, 0, 0, []),
  (99, .iload_n 1, 1, 0, 0, 0, 0, []),
  (100, .imul, 1, 0, 0, 0, 0, []),
  (101, .invokevirtual 227, 3, 18, 2, 725, 0, []),
  (104, .aload_n 0, 1, 0, 0, 0, 0, []),
  (105, .getfield 77, 3, 8, 10, 361, 0, []),
  (108, .iconst 2, 1, 0, 0, 0, 0, []),
  (109, .iload_n 2, 1, 0, 0, 0, 0, []),
  (110, .imul, 1, 0, 0, 0, 0, []),
  (111, .invokevirtual 227, 3, 18, 2, 725, 0, []),
  (114, .aload_n 0, 1, 0, 0, 0, 0, []),
  (115, .aload_n 0, 1, 0, 0, 0, 0, []),
  (116, .getfield 73, 3, 8, 9, 360, 0, []),
  (119, .aload_n 0, 1, 0, 0, 0, 0, []),
  (120, .getfield 77, 3, 8, 10, 361, 0, []),
  (123, .invokevirtual 189, 3, 106, 8, 622, 0, []),
  (126, .iconst (-1), 1, 0, 0, 0, 0, []),
  (127, .if_icmp .ne 7, 3, 74, 0, 0, 0, []),
  (130, .iconst 1, 1, 0, 0, 0, 0, []),
  (131, .goto 4, 3, 75, 0, 0, 0, []),
  (134, .iconst 2, 1, 0, 0, 0, 0, []),
  (135, .ireturn, 1, 0, 0, 0, 0, [])]
def m_X8_law : am_M := (yX8_law, cX8_law, 3, some .int)
def t_X8_carry : List ri_row := [(0, .aload_n 0, 1, 0, 0, 0, 0, []),
  (1, .iload_n 1, 1, 0, 0, 0, 0, []),
  (2, .invokevirtual 101, 3, 98, 8, 455, 0, []),
  (5, .ifCond .eq 11, 3, 8, 0, 0, 0, []),
  (8, .aload_n 0, 1, 0, 0, 0, 0, []),
  (9, .iload_n 2, 1, 0, 0, 0, 0, []),
  (10, .invokevirtual 101, 3, 98, 8, 455, 0, []),
  (13, .ifCond .ne 7, 3, 10, 0, 0, 0, []),
  (16, .sipush (-1001), 3, 0, 0, 0, 0, []),
  (19, .ireturn, 1, 0, 0, 0, 0, []),
  (20, .iload_n 3, 1, 0, 0, 0, 0, []),
  (21, .iload 4, 2, 0, 0, 0, 0, []),
  (23, .invokestatic 228, 3, 102, 0, 730, 0, []),
  (26, .ifCond .ne 7, 3, 16, 0, 0, 0, []),
  (29, .sipush (-1002), 3, 0, 0, 0, 0, []),
  (32, .ireturn, 1, 0, 0, 0, 0, []),
  (33, .aload_n 0, 1, 0, 0, 0, 0, []),
  (34, .getfield 58, 3, 8, 6, 357, 0, []),
  (37, .aload_n 0, 1, 0, 0, 0, 0, []),
  (38, .getfield 11, 3, 8, 0, 351, 0, []),
  (41, .iload_n 1, 1, 0, 0, 0, 0, []),
  (42, .aaload, 1, 0, 0, 0, 0, []),
  (43, .getfield 105, 3, 3, 0, 290, 0, []),
  (46, .aload_n 0, 1, 0, 0, 0, 0, []),
  (47, .getfield 11, 3, 8, 0, 351, 0, []),
  (50, .iload_n 2, 1, 0, 0, 0, 0, []),
  (51, .aaload, 1, 0, 0, 0, 0, []),
  (52, .getfield 105, 3, 3, 0, 290, 0, []),
  (55, .iload_n 3, 1, 0, 0, 0, 0, []),
  (56, .aload_n 0, 1, 0, 0, 0, 0, []),
  (57, .getfield 73, 3, 8, 9, 360, 0, []),
  (60, .invokevirtual 231, 3, 42, 5, 733, 0, []),
  (63, .ifCond .eq 15, 3, 38, 0, 0, 0, []),
  (66, .aload_n 0, 1, 0, 0, 0, 0, []),
  (67, .getfield 73, 3, 8, 9, 360, 0, []),
  (70, .iload 4, 2, 0, 0, 0, 0, []),
  (72, .invokevirtual 166, 3, 22, 2, 563, 0, []),
  (75, .goto 4, 3, 39, 0, 0, 0, []),
  (78, .iconst (-1), 1, 0, 0, 0, 0, []),
  (79, .ireturn, 1, 0, 0, 0, 0, [])]
def m_X8_carry : am_M := (yX8_carry, cX8_carry, 5, some .int)
def t_X8_fewest : List ri_row := [(0, .iload_n 1, 1, 0, 0, 0, 0, []),
  (1, .invokestatic 148, 3, 99, 0, 520, 0, []),
  (4, .ifCond .ne 7, 3, 5, 0, 0, 0, []),
  (7, .sipush (-1001), 3, 0, 0, 0, 0, []),
  (10, .ireturn, 1, 0, 0, 0, 0, []),
  (11, .iload_n 2, 1, 0, 0, 0, 0, []),
  (12, .iload_n 3, 1, 0, 0, 0, 0, []),
  (13, .invokestatic 228, 3, 102, 0, 730, 0, []),
  (16, .ifCond .ne 7, 3, 11, 0, 0, 0, []),
  (19, .sipush (-1002), 3, 0, 0, 0, 0, []),
  (22, .ireturn, 1, 0, 0, 0, 0, []),
  (23, .aload_n 0, 1, 0, 0, 0, 0, []),
  (24, .getfield 49, 3, 8, 5, 356, 0, []),
  (27, .aload_n 0, 1, 0, 0, 0, 0, []),
  (28, .getfield 84, 3, 8, 11, 362, 0, []),
  (31, .invokevirtual 193, 3, 1, 0, 626, 0, []),
  (34, .aload_n 0, 1, 0, 0, 0, 0, []),
  (35, .getfield 49, 3, 8, 5, 356, 0, []),
  (38, .aload_n 0, 1, 0, 0, 0, 0, []),
  (39, .getfield 17, 3, 8, 1, 352, 0, []),
  (42, .iload_n 1, 1, 0, 0, 0, 0, []),
  (43, .aaload, 1, 0, 0, 0, 0, []),
  (44, .invokevirtual 196, 3, 2, 0, 631, 0, []),
  (47, .ifCond .ne 7, 3, 26, 0, 0, 0, []),
  (50, .sipush (-1005), 3, 0, 0, 0, 0, []),
  (53, .ireturn, 1, 0, 0, 0, 0, []),
  (54, .aload_n 0, 1, 0, 0, 0, 0, []),
  (55, .getfield 58, 3, 8, 6, 357, 0, []),
  (58, .iload_n 2, 1, 0, 0, 0, 0, []),
  (59, .aload_n 0, 1, 0, 0, 0, 0, []),
  (60, .getfield 73, 3, 8, 9, 360, 0, []),
  (63, .invokevirtual 235, 3, 46, 5, 761, 0, []),
  (66, .ifCond .eq 14, 3, 38, 0, 0, 0, []),
  (69, .aload_n 0, 1, 0, 0, 0, 0, []),
  (70, .getfield 73, 3, 8, 9, 360, 0, []),
  (73, .iload_n 3, 1, 0, 0, 0, 0, []),
  (74, .invokevirtual 166, 3, 22, 2, 563, 0, []),
  (77, .goto 4, 3, 39, 0, 0, 0, []),
  (80, .iconst (-1), 1, 0, 0, 0, 0, []),
  (81, .ireturn, 1, 0, 0, 0, 0, [])]
def m_X8_fewest : am_M := (yX8_fewest, cX8_fewest, 4, some .int)
def t_X8_layOut : List ri_row := [(0, .aload_n 0, 1, 0, 0, 0, 0, []),
  (1, .iload_n 1, 1, 0, 0, 0, 0, []),
  (2, .putfield 84, 3, 8, 11, 362, 0, []),
  (5, .aload_n 0, 1, 0, 0, 0, 0, []),
  (6, .iconst 0, 1, 0, 0, 0, 0, []),
  (7, .putfield 94, 3, 8, 12, 363, 0, []),
  (10, .aload_n 0, 1, 0, 0, 0, 0, []),
  (11, .getfield 26, 3, 8, 2, 353, 0, []),
  (14, .iconst 0, 1, 0, 0, 0, 0, []),
  (15, .putfield 88, 3, 4, 1, 123, 0, []),
  (18, .iconst 0, 1, 0, 0, 0, 0, []),
  (19, .istore_n 2, 1, 0, 0, 0, 0, []),
  (20, .iload_n 2, 1, 0, 0, 0, 0, []),
  (21, .bipush 8, 2, 0, 0, 0, 0, []),
  (23, .if_icmp .ge 19, 3, 23, 0, 0, 0, []),
  (26, .aload_n 0, 1, 0, 0, 0, 0, []),
  (27, .getfield 17, 3, 8, 1, 352, 0, []),
  (30, .iload_n 2, 1, 0, 0, 0, 0, []),
  (31, .aaload, 1, 0, 0, 0, 0, []),
  (32, .iconst 0, 1, 0, 0, 0, 0, []),
  (33, .putfield 162, 3, 2, 1, 241, 0, []),
  (36, .iinc 2 1, 3, 0, 0, 0, 0, []),
  (39, .goto (-19), 3, 12, 0, 0, 0, []),
  (42, .aload_n 0, 1, 0, 0, 0, 0, []),
  (43, .getfield 33, 3, 8, 3, 354, 0, []),
  (46, .iload_n 1, 1, 0, 0, 0, 0, []),
  (47, .invokevirtual 239, 3, 57, 7, 306, 0, []),
  (50, .return_, 1, 0, 0, 0, 0, [])]
def m_X8_layOut : am_M := (yX8_layOut, cX8_layOut, 3, none)
def t_X8_isRing : List ri_row := [(0, .iload_n 1, 1, 0, 0, 0, 0, []),
  (1, .ifCond .lt 21, 3, 11, 0, 0, 0, []),
  (4, .iload_n 1, 1, 0, 0, 0, 0, []),
  (5, .aload_n 0, 1, 0, 0, 0, 0, []),
  (6, .getfield 94, 3, 8, 12, 363, 0, []),
  (9, .if_icmp .ge 13, 3, 11, 0, 0, 0, []),
  (12, .iload_n 1, 1, 0, 0, 0, 0, []),
  (13, .bipush 12, 2, 0, 0, 0, 0, []),
  (15, .if_icmp .ge 7, 3, 11, 0, 0, 0, []),
  (18, .iconst 1, 1, 0, 0, 0, 0, []),
  (19, .goto 4, 3, 12, 0, 0, 0, []),
  (22, .iconst 0, 1, 0, 0, 0, 0, []),
  (23, .ireturn, 1, 0, 1, 0, 0, [])]
def m_X8_isRing : am_M := (yX8_isRing, cX8_isRing, 2, some .boolean)
def t_X8_isPlan : List ri_row := [(0, .iload_n 0, 1, 0, 0, 0, 0, []),
  (1, .ifCond .lt 13, 3, 7, 0, 0, 0, []),
  (4, .iload_n 0, 1, 0, 0, 0, 0, []),
  (5, .bipush 8, 2, 0, 0, 0, 0, []),
  (7, .if_icmp .ge 7, 3, 7, 0, 0, 0, []),
  (10, .iconst 1, 1, 0, 0, 0, 0, []),
  (11, .goto 4, 3, 8, 0, 0, 0, []),
  (14, .iconst 0, 1, 0, 0, 0, 0, []),
  (15, .ireturn, 1, 0, 1, 0, 0, [])]
def m_X8_isPlan : am_M := (yX8_isPlan, cX8_isPlan, 1, some .boolean)
def t_X8_isTwist : List ri_row := [(0, .iload_n 1, 1, 0, 0, 0, 0, []),
  (1, .ifCond .lt 18, 3, 9, 0, 0, 0, []),
  (4, .iload_n 1, 1, 0, 0, 0, 0, []),
  (5, .aload_n 0, 1, 0, 0, 0, 0, []),
  (6, .getfield 33, 3, 8, 3, 354, 0, []),
  (9, .getfield 139, 3, 7, 0, 141, 0, []),
  (12, .if_icmp .ge 7, 3, 9, 0, 0, 0, []),
  (15, .iconst 1, 1, 0, 0, 0, 0, []),
  (16, .goto 4, 3, 10, 0, 0, 0, []),
  (19, .iconst 0, 1, 0, 0, 0, 0, []),
  (20, .ireturn, 1, 0, 1, 0, 0, [])]
def m_X8_isTwist : am_M := (yX8_isTwist, cX8_isTwist, 2, some .boolean)
def t_X8_isLetter : List ri_row := [(0, .iload_n 1, 1, 0, 0, 0, 0, []),
  (1, .iconst 1, 1, 0, 0, 0, 0, []),
  (2, .if_icmp .lt 17, 3, 11, 0, 0, 0, []),
  (5, .iload_n 1, 1, 0, 0, 0, 0, []),
  (6, .iconst 2, 1, 0, 0, 0, 0, []),
  (7, .aload_n 0, 1, 0, 0, 0, 0, []),
  (8, .getfield 84, 3, 8, 11, 362, 0, []),
  (11, .imul, 1, 0, 0, 0, 0, []),
  (12, .if_icmp .gt 7, 3, 11, 0, 0, 0, []),
  (15, .iconst 1, 1, 0, 0, 0, 0, []),
  (16, .goto 4, 3, 12, 0, 0, 0, []),
  (19, .iconst 0, 1, 0, 0, 0, 0, []),
  (20, .ireturn, 1, 0, 1, 0, 0, [])]
def m_X8_isLetter : am_M := (yX8_isLetter, cX8_isLetter, 2, some .boolean)
def t_X8_isSearch : List ri_row := [(0, .iload_n 0, 1, 0, 0, 0, 0, []),
  (1, .ifCond .lt 22, 3, 13, 0, 0, 0, []),
  (4, .iload_n 0, 1, 0, 0, 0, 0, []),
  (5, .iconst 3, 1, 0, 0, 0, 0, []),
  (6, .if_icmp .gt 17, 3, 13, 0, 0, 0, []),
  (9, .iload_n 1, 1, 0, 0, 0, 0, []),
  (10, .iconst (-1), 1, 0, 0, 0, 0, []),
  (11, .if_icmp .lt 12, 3, 13, 0, 0, 0, []),
  (14, .iload_n 1, 1, 0, 0, 0, 0, []),
  (15, .iconst 3, 1, 0, 0, 0, 0, []),
  (16, .if_icmp .ge 7, 3, 13, 0, 0, 0, []),
  (19, .iconst 1, 1, 0, 0, 0, 0, []),
  (20, .goto 4, 3, 14, 0, 0, 0, []),
  (23, .iconst 0, 1, 0, 0, 0, 0, []),
  (24, .ireturn, 1, 0, 1, 0, 0, [])]
def m_X8_isSearch : am_M := (yX8_isSearch, cX8_isSearch, 2, some .boolean)
def t_X8_oneIf : List ri_row := [(0, .iload_n 0, 1, 0, 0, 0, 0, []),
  (1, .ifCond .eq 7, 3, 4, 0, 0, 0, []),
  (4, .iconst 1, 1, 0, 0, 0, 0, []),
  (5, .goto 4, 3, 5, 0, 0, 0, []),
  (8, .iconst 0, 1, 0, 0, 0, 0, []),
  (9, .ireturn, 1, 0, 0, 0, 0, [])]
def m_X8_oneIf : am_M := (yX8_oneIf, cX8_oneIf, 1, some .int)
def t_X8_firstBarring : List ri_row := [(0, .aload_n 0, 1, 0, 0, 0, 0, []),
  (1, .getfield 11, 3, 8, 0, 351, 0, []),
  (4, .iload_n 2, 1, 0, 0, 0, 0, []),
  (5, .aaload, 1, 0, 0, 0, 0, []),
  (6, .invokevirtual 119, 3, 25, 3, 462, 0, []),
  (9, .ifCond .ne 5, 3, 8, 0, 0, 0, []),
  (12, .iload_n 2, 1, 0, 0, 0, 0, []),
  (13, .ireturn, 1, 0, 0, 0, 0, []),
  (14, .aload_n 0, 1, 0, 0, 0, 0, []),
  (15, .getfield 11, 3, 8, 0, 351, 0, []),
  (18, .iload_n 2, 1, 0, 0, 0, 0, []),
  (19, .aaload, 1, 0, 0, 0, 0, []),
  (20, .getfield 105, 3, 3, 0, 290, 0, []),
  (23, .astore_n 3, 1, 0, 0, 0, 0, []),
  (24, .iload_n 2, 1, 0, 0, 0, 0, []),
  (25, .iconst 1, 1, 0, 0, 0, 0, []),
  (26, .iadd, 1, 0, 0, 0, 0, []),
  (27, .istore 4, 2, 0, 0, 0, 0, []),
  (29, .iload 4, 2, 0, 0, 0, 0, []),
  (31, .aload_n 0, 1, 0, 0, 0, 0, []),
  (32, .getfield 94, 3, 8, 12, 363, 0, []),
  (35, .if_icmp .ge 72, 3, 56, 0, 0, 0, []),
  (38, .iload_n 1, 1, 0, 0, 0, 0, []),
  (39, .iload 4, 2, 0, 0, 0, 0, []),
  (41, .ishr, 1, 0, 0, 0, 0, []),
  (42, .iconst 1, 1, 0, 0, 0, 0, []),
  (43, .iand, 1, 0, 0, 0, 0, []),
  (44, .ifCond .eq 57, 3, 54, 0, 0, 0, []),
  (47, .aload_n 0, 1, 0, 0, 0, 0, []),
  (48, .getfield 11, 3, 8, 0, 351, 0, []),
  (51, .iload 4, 2, 0, 0, 0, 0, []),
  (53, .aaload, 1, 0, 0, 0, 0, []),
  (54, .invokevirtual 119, 3, 25, 3, 462, 0, []),
  (57, .ifCond .eq 44, 3, 54, 0, 0, 0, []),
  (60, .aload_n 3, 1, 0, 0, 0, 0, []),
  (61, .aload_n 0, 1, 0, 0, 0, 0, []),
  (62, .getfield 11, 3, 8, 0, 351, 0, []),
  (65, .iload 4, 2, 0, 0, 0, 0, []),
  (67, .aaload, 1, 0, 0, 0, 0, []),
  (68, .getfield 105, 3, 3, 0, 290, 0, []),
  (71, .invokevirtual 131, 3, 35, 4, 479, 0, []),
  (74, .ifCond .ne 24, 3, 52, 0, 0, 0, []),
  (77, .aload_n 0, 1, 0, 0, 0, 0, []),
  (78, .getfield 40, 3, 8, 4, 355, 0, []),
  (81, .aload_n 3, 1, 0, 0, 0, 0, []),
  (82, .aload_n 0, 1, 0, 0, 0, 0, []),
  (83, .getfield 11, 3, 8, 0, 351, 0, []),
  (86, .iload 4, 2, 0, 0, 0, 0, []),
  (88, .aaload, 1, 0, 0, 0, 0, []),
  (89, .getfield 105, 3, 3, 0, 290, 0, []),
  (92, .invokevirtual 127, 3, 11, 1, 474, 0, []),
  (95, .ifCond .eq 6, 3, 54, 0, 0, 0, []),
  (98, .iload 4, 2, 0, 0, 0, 0, []),
  (100, .ireturn, 1, 0, 0, 0, 0, []),
  (101, .iinc 4 1, 3, 0, 0, 0, 0, []),
  (104, .goto (-75), 3, 18, 0, 0, 0, []),
  (107, .iconst (-1), 1, 0, 0, 0, 0, []),
  (108, .ireturn, 1, 0, 0, 0, 0, [])]
def m_X8_firstBarring : am_M := (yX8_firstBarring, cX8_firstBarring, 5, some .int)
def t_X8_carryToWork : List ri_row := [(0, .aload_n 0, 1, 0, 0, 0, 0, []),
  (1, .getfield 69, 3, 8, 8, 359, 0, []),
  (4, .aload_n 0, 1, 0, 0, 0, 0, []),
  (5, .getfield 11, 3, 8, 0, 351, 0, []),
  (8, .iload_n 2, 1, 0, 0, 0, 0, []),
  (9, .aaload, 1, 0, 0, 0, 0, []),
  (10, .getfield 105, 3, 3, 0, 290, 0, []),
  (13, .invokevirtual 240, 3, 29, 4, 612, 0, []),
  (16, .aload_n 0, 1, 0, 0, 0, 0, []),
  (17, .getfield 33, 3, 8, 3, 354, 0, []),
  (20, .aload_n 0, 1, 0, 0, 0, 0, []),
  (21, .getfield 17, 3, 8, 1, 352, 0, []),
  (24, .iload_n 1, 1, 0, 0, 0, 0, []),
  (25, .aaload, 1, 0, 0, 0, 0, []),
  (26, .aload_n 0, 1, 0, 0, 0, 0, []),
  (27, .getfield 69, 3, 8, 8, 359, 0, []),
  (30, .invokevirtual 181, 3, 66, 7, 596, 0, []),
  (33, .ifCond .ne 5, 3, 20, 0, 0, 0, []),
  (36, .iconst 0, 1, 0, 0, 0, 0, []),
  (37, .ireturn, 1, 0, 1, 0, 0, []),
  (38, .aload_n 0, 1, 0, 0, 0, 0, []),
  (39, .getfield 69, 3, 8, 8, 359, 0, []),
  (42, .invokevirtual 243, 3, 33, 4, 613, 0, []),
  (45, .iconst 1, 1, 0, 0, 0, 0, []),
  (46, .ireturn, 1, 0, 1, 0, 0, [])]
def m_X8_carryToWork : am_M := (yX8_carryToWork, cX8_carryToWork, 3, some .boolean)
def t_X8_firstUnlike : List ri_row := [(0, .aload_n 0, 1, 0, 0, 0, 0, []),
  (1, .getfield 49, 3, 8, 5, 356, 0, []),
  (4, .aload_n 0, 1, 0, 0, 0, 0, []),
  (5, .getfield 84, 3, 8, 11, 362, 0, []),
  (8, .invokevirtual 193, 3, 1, 0, 626, 0, []),
  (11, .aload_n 0, 1, 0, 0, 0, 0, []),
  (12, .getfield 49, 3, 8, 5, 356, 0, []),
  (15, .aload_n 1, 1, 0, 0, 0, 0, []),
  (16, .invokevirtual 196, 3, 2, 0, 631, 0, []),
  (19, .ifCond .ne 7, 3, 12, 0, 0, 0, []),
  (22, .sipush (-1005), 3, 0, 0, 0, 0, []),
  (25, .ireturn, 1, 0, 0, 0, 0, []),
  (26, .iconst (-1), 1, 0, 0, 0, 0, []),
  (27, .istore_n 3, 1, 0, 0, 0, 0, []),
  (28, .iconst 1, 1, 0, 0, 0, 0, []),
  (29, .istore 4, 2, 0, 0, 0, 0, []),
  (31, .iload 4, 2, 0, 0, 0, 0, []),
  (33, .iconst 2, 1, 0, 0, 0, 0, []),
  (34, .aload_n 0, 1, 0, 0, 0, 0, []),
  (35, .getfield 84, 3, 8, 11, 362, 0, []),
  (38, .imul, 1, 0, 0, 0, 0, []),
  (39, .if_icmp .gt 67, 3, 53, 0, 0, 0, []),
  (42, .aload_n 0, 1, 0, 0, 0, 0, []),
  (43, .getfield 69, 3, 8, 8, 359, 0, []),
  (46, .iload 4, 2, 0, 0, 0, 0, []),
  (48, .invokevirtual 178, 3, 28, 4, 592, 0, []),
  (51, .aload_n 0, 1, 0, 0, 0, 0, []),
  (52, .getfield 33, 3, 8, 3, 354, 0, []),
  (55, .aload_n 2, 1, 0, 0, 0, 0, []),
  (56, .aload_n 0, 1, 0, 0, 0, 0, []),
  (57, .getfield 69, 3, 8, 8, 359, 0, []),
  (60, .invokevirtual 181, 3, 66, 7, 596, 0, []),
  (63, .ifCond .ne 7, 3, 35, 0, 0, 0, []),
  (66, .sipush (-1005), 3, 0, 0, 0, 0, []),
  (69, .ireturn, 1, 0, 0, 0, 0, []),
  (70, .iload_n 3, 1, 0, 0, 0, 0, []),
  (71, .iconst (-1), 1, 0, 0, 0, 0, []),
  (72, .if_icmp .ne 28, 3, 51, 0, 0, 0, []),
  (75, .aload_n 0, 1, 0, 0, 0, 0, []),
  (76, .getfield 69, 3, 8, 8, 359, 0, []),
  (79, .aload_n 0, 1, 0, 0, 0, 0, []),
  (80, .getfield 49, 3, 8, 5, 356, 0, []),
  (83, .getfield 246, 3, 0, 0, 180, 0, []),
  (86, .iload 4, 2, 0, 0, 0, 0, []),
  (88, .iconst 1, 1, 0, 0, 0, 0, []),
  (89, .isub, 1, 0, 0, 0, 0, []),
  (90, .aaload, 1, 0, 0, 0, 0, []),
  (91, .invokevirtual 250, 3, 34, 4, 636, 0, []),
  (94, .ifCond .ne 6, 3, 51, 0, 0, 0, []),
  (97, .iload 4, 2, 0, 0, 0, 0, []),
  (99, .istore_n 3, 1, 0, 0, 0, 0, []),
  (100, .iinc 4 1, 3, 0, 0, 0, 0, []),
  (103, .goto (-72), 3, 16, 0, 0, 0, []),
  (106, .iload_n 3, 1, 0, 0, 0, 0, []),
  (107, .ireturn, 1, 0, 0, 0, 0, [])]
def m_X8_firstUnlike : am_M := (yX8_firstUnlike, cX8_firstUnlike, 5, some .int)
def t_X8_keepsSomeRing : List ri_row := [(0, .iconst 0, 1, 0, 0, 0, 0, []),
  (1, .istore_n 3, 1, 0, 0, 0, 0, []),
  (2, .iload_n 3, 1, 0, 0, 0, 0, []),
  (3, .aload_n 0, 1, 0, 0, 0, 0, []),
  (4, .getfield 94, 3, 8, 12, 363, 0, []),
  (7, .if_icmp .ge 41, 3, 26, 0, 0, 0, []),
  (10, .aload_n 0, 1, 0, 0, 0, 0, []),
  (11, .getfield 11, 3, 8, 0, 351, 0, []),
  (14, .iload_n 3, 1, 0, 0, 0, 0, []),
  (15, .aaload, 1, 0, 0, 0, 0, []),
  (16, .invokevirtual 119, 3, 25, 3, 462, 0, []),
  (19, .ifCond .eq 23, 3, 24, 0, 0, 0, []),
  (22, .aload_n 0, 1, 0, 0, 0, 0, []),
  (23, .aload_n 1, 1, 0, 0, 0, 0, []),
  (24, .iload_n 2, 1, 0, 0, 0, 0, []),
  (25, .aload_n 0, 1, 0, 0, 0, 0, []),
  (26, .getfield 11, 3, 8, 0, 351, 0, []),
  (29, .iload_n 3, 1, 0, 0, 0, 0, []),
  (30, .aaload, 1, 0, 0, 0, 0, []),
  (31, .getfield 105, 3, 3, 0, 290, 0, []),
  (34, .invokevirtual 253, 3, 108, 8, 713, 0, []),
  (37, .ifCond .eq 5, 3, 24, 0, 0, 0, []),
  (40, .iconst 1, 1, 0, 0, 0, 0, []),
  (41, .ireturn, 1, 0, 1, 0, 0, []),
  (42, .iinc 3 1, 3, 0, 0, 0, 0, []),
  (45, .goto (-43), 3, 2, 0, 0, 0, []),
  (48, .iconst 0, 1, 0, 0, 0, 0, []),
  (49, .ireturn, 1, 0, 1, 0, 0, [])]
def m_X8_keepsSomeRing : am_M := (yX8_keepsSomeRing, cX8_keepsSomeRing, 4, some .boolean)
def t_X8_keepsRing : List ri_row := [(0, .aload_n 0, 1, 0, 0, 0, 0, []),
  (1, .getfield 69, 3, 8, 8, 359, 0, []),
  (4, .aload_n 3, 1, 0, 0, 0, 0, []),
  (5, .invokevirtual 240, 3, 29, 4, 612, 0, []),
  (8, .iconst 1, 1, 0, 0, 0, 0, []),
  (9, .istore 4, 2, 0, 0, 0, 0, []),
  (11, .iload 4, 2, 0, 0, 0, 0, []),
  (13, .iload_n 2, 1, 0, 0, 0, 0, []),
  (14, .if_icmp .gt 39, 3, 27, 0, 0, 0, []),
  (17, .aload_n 0, 1, 0, 0, 0, 0, []),
  (18, .getfield 33, 3, 8, 3, 354, 0, []),
  (21, .aload_n 1, 1, 0, 0, 0, 0, []),
  (22, .aload_n 0, 1, 0, 0, 0, 0, []),
  (23, .getfield 69, 3, 8, 8, 359, 0, []),
  (26, .invokevirtual 181, 3, 66, 7, 596, 0, []),
  (29, .ifCond .ne 5, 3, 18, 0, 0, 0, []),
  (32, .iconst 0, 1, 0, 0, 0, 0, []),
  (33, .ireturn, 1, 0, 1, 0, 0, []),
  (34, .aload_n 0, 1, 0, 0, 0, 0, []),
  (35, .getfield 69, 3, 8, 8, 359, 0, []),
  (38, .aload_n 3, 1, 0, 0, 0, 0, []),
  (39, .invokevirtual 131, 3, 35, 4, 479, 0, []),
  (42, .ifCond .eq 5, 3, 25, 0, 0, 0, []),
  (45, .iconst 1, 1, 0, 0, 0, 0, []),
  (46, .ireturn, 1, 0, 1, 0, 0, []),
  (47, .iinc 4 1, 3, 0, 0, 0, 0, []),
  (50, .goto (-39), 3, 6, 0, 0, 0, []),
  (53, .iconst 0, 1, 0, 0, 0, 0, []),
  (54, .ireturn, 1, 0, 1, 0, 0, [])]
def m_X8_keepsRing : am_M := (yX8_keepsRing, cX8_keepsRing, 5, some .boolean)
def t_X9_init : List ri_row := [(0, .aload_n 0, 1, 0, 0, 0, 0, []),
  (1, .invokespecial 1, 3, 0, 1, 777, 0, []),
  (4, .aload_n 0, 1, 0, 0, 0, 0, []),
  (5, .bipush 60, 2, 0, 0, 0, 0, []),
  (7, .newarray .int, 2, 0, 0, 0, 0, []),
  (9, .putfield 7, 3, 9, 2, 784, 2, []),
  (12, .aload_n 0, 1, 0, 0, 0, 0, []),
  (13, .bipush 12, 2, 0, 0, 0, 0, []),
  (15, .newarray .int, 2, 0, 0, 0, 0, []),
  (17, .putfield 13, 3, 9, 4, 786, 2, []),
  (20, .aload_n 0, 1, 0, 0, 0, 0, []),
  (21, .sipush 720, 3, 0, 0, 0, 0, []),
  (24, .newarray .int, 2, 0, 0, 0, 0, []),
  (26, .putfield 16, 3, 9, 5, 787, 2, []),
  (29, .aload_n 0, 1, 0, 0, 0, 0, []),
  (30, .bipush 9, 2, 0, 0, 0, 0, []),
  (32, .newarray .int, 2, 0, 0, 0, 0, []),
  (34, .putfield 19, 3, 9, 6, 788, 2, []),
  (37, .aload_n 0, 1, 0, 0, 0, 0, []),
  (38, .sipush 540, 3, 0, 0, 0, 0, []),
  (41, .newarray .int, 2, 0, 0, 0, 0, []),
  (43, .putfield 22, 3, 9, 7, 789, 2, []),
  (46, .aload_n 0, 1, 0, 0, 0, 0, []),
  (47, .sipush 400, 3, 0, 0, 0, 0, []),
  (50, .newarray .int, 2, 0, 0, 0, 0, []),
  (52, .putfield 25, 3, 9, 8, 790, 2, []),
  (55, .aload_n 0, 1, 0, 0, 0, 0, []),
  (56, .sipush 400, 3, 0, 0, 0, 0, []),
  (59, .newarray .int, 2, 0, 0, 0, 0, []),
  (61, .putfield 28, 3, 9, 10, 792, 2, []),
  (64, .aload_n 0, 1, 0, 0, 0, 0, []),
  (65, .sipush 401, 3, 0, 0, 0, 0, []),
  (68, .newarray .int, 2, 0, 0, 0, 0, []),
  (70, .putfield 31, 3, 9, 12, 794, 2, []),
  (73, .aload_n 0, 1, 0, 0, 0, 0, []),
  (74, .sipush 3700, 3, 0, 0, 0, 0, []),
  (77, .newarray .int, 2, 0, 0, 0, 0, []),
  (79, .putfield 34, 3, 9, 14, 796, 2, []),
  (82, .aload_n 0, 1, 0, 0, 0, 0, []),
  (83, .bipush 120, 2, 0, 0, 0, 0, []),
  (85, .newarray .int, 2, 0, 0, 0, 0, []),
  (87, .putfield 37, 3, 9, 16, 798, 2, []),
  (90, .aload_n 0, 1, 0, 0, 0, 0, []),
  (91, .iconst (-1), 1, 0, 0, 0, 0, []),
  (92, .putfield 40, 3, 9, 20, 802, 0, []),
  (95, .aload_n 0, 1, 0, 0, 0, 0, []),
  (96, .iconst 4, 1, 0, 0, 0, 0, []),
  (97, .newarray .int, 2, 0, 0, 0, 0, []),
  (99, .putfield 44, 3, 9, 21, 803, 2, []),
  (102, .aload_n 0, 1, 0, 0, 0, 0, []),
  (103, .sipush 600, 3, 0, 0, 0, 0, []),
  (106, .newarray .int, 2, 0, 0, 0, 0, []),
  (108, .putfield 47, 3, 9, 23, 805, 2, []),
  (111, .aload_n 0, 1, 0, 0, 0, 0, []),
  (112, .sipush 2400, 3, 0, 0, 0, 0, []),
  (115, .newarray .int, 2, 0, 0, 0, 0, []),
  (117, .putfield 50, 3, 9, 25, 807, 2, []),
  (120, .aload_n 0, 1, 0, 0, 0, 0, []),
  (121, .bipush 6, 2, 0, 0, 0, 0, []),
  (123, .newarray .int, 2, 0, 0, 0, 0, []),
  (125, .putfield 53, 3, 9, 26, 808, 2, []),
  (128, .aload_n 0, 1, 0, 0, 0, 0, []),
  (129, .bipush 64, 2, 0, 0, 0, 0, []),
  (131, .newarray .long, 2, 0, 0, 0, 0, []),
  (133, .putfield 56, 3, 9, 27, 809, 2, []),
  (136, .aload_n 0, 1, 0, 0, 0, 0, []),
  (137, .iconst 2, 1, 0, 0, 0, 0, []),
  (138, .invokevirtual 60, 3, 112, 9, 778, 0, []),
  (141, .return_, 1, 0, 0, 0, 0, [])]
def m_X9_init : am_M := (yX9_init, cX9_init, 1, none)
def t_X9_in : List ri_row := [(0, .lload_n 0, 1, 0, 0, 0, 0, []),
  (1, .lload_n 2, 1, 0, 0, 0, 0, []),
  (2, .lcmp, 1, 0, 0, 0, 0, []),
  (3, .ifCond .lt 14, 3, 10, 0, 0, 0, []),
  (6, .lload_n 0, 1, 0, 0, 0, 0, []),
  (7, .lload 4, 2, 0, 0, 0, 0, []),
  (9, .lcmp, 1, 0, 0, 0, 0, []),
  (10, .ifCond .gt 7, 3, 10, 0, 0, 0, []),
  (13, .iconst 1, 1, 0, 0, 0, 0, []),
  (14, .goto 4, 3, 11, 0, 0, 0, []),
  (17, .iconst 0, 1, 0, 0, 0, 0, []),
  (18, .ireturn, 1, 0, 1, 0, 0, [])]
def m_X9_in : am_M := (yX9_in, cX9_in, 6, some .boolean)
def t_X9_bit : List ri_row := [(0, .iload_n 0, 1, 0, 0, 0, 0, []),
  (1, .ifCond .eq 7, 3, 4, 0, 0, 0, []),
  (4, .iconst 1, 1, 0, 0, 0, 0, []),
  (5, .goto 4, 3, 5, 0, 0, 0, []),
  (8, .iconst 0, 1, 0, 0, 0, 0, []),
  (9, .ireturn, 1, 0, 0, 0, 0, [])]
def m_X9_bit : am_M := (yX9_bit, cX9_bit, 1, some .int)
def t_X9_lay : List ri_row := [(0, .aload_n 0, 1, 0, 0, 0, 0, []),
  (1, .iload_n 1, 1, 0, 0, 0, 0, []),
  (2, .putfield 64, 3, 9, 0, 782, 0, []),
  (5, .aload_n 0, 1, 0, 0, 0, 0, []),
  (6, .iconst 0, 1, 0, 0, 0, 0, []),
  (7, .putfield 67, 3, 9, 1, 783, 0, []),
  (10, .aload_n 0, 1, 0, 0, 0, 0, []),
  (11, .iconst 0, 1, 0, 0, 0, 0, []),
  (12, .putfield 70, 3, 9, 3, 785, 0, []),
  (15, .iconst 0, 1, 0, 0, 0, 0, []),
  (16, .istore_n 2, 1, 0, 0, 0, 0, []),
  (17, .iload_n 2, 1, 0, 0, 0, 0, []),
  (18, .bipush 9, 2, 0, 0, 0, 0, []),
  (20, .if_icmp .ge 16, 3, 21, 0, 0, 0, []),
  (23, .aload_n 0, 1, 0, 0, 0, 0, []),
  (24, .getfield 19, 3, 9, 6, 788, 0, []),
  (27, .iload_n 2, 1, 0, 0, 0, 0, []),
  (28, .iconst 0, 1, 0, 0, 0, 0, []),
  (29, .iastore, 1, 0, 0, 0, 0, []),
  (30, .iinc 2 1, 3, 0, 0, 0, 0, []),
  (33, .goto (-16), 3, 11, 0, 0, 0, []),
  (36, .return_, 1, 0, 0, 0, 0, [])]
def m_X9_lay : am_M := (yX9_lay, cX9_lay, 3, none)
def t_X9_skin : List ri_row := [(0, .iload_n 1, 1, 0, 0, 0, 0, []),
  (1, .i2l, 1, 0, 0, 0, 0, []),
  (2, .lconst 1, 1, 0, 0, 0, 0, []),
  (3, .ldc2_w 73, 3, 0, 0, 872, 3, []),
  (6, .invokestatic 75, 3, 110, 0, 873, 0, []),
  (9, .ifCond .ne 7, 3, 8, 0, 0, 0, []),
  (12, .sipush (-1002), 3, 0, 0, 0, 0, []),
  (15, .ireturn, 1, 0, 0, 0, 0, []),
  (16, .aload_n 0, 1, 0, 0, 0, 0, []),
  (17, .iload_n 1, 1, 0, 0, 0, 0, []),
  (18, .invokevirtual 60, 3, 112, 9, 778, 0, []),
  (21, .iconst 2, 1, 0, 0, 0, 0, []),
  (22, .aload_n 0, 1, 0, 0, 0, 0, []),
  (23, .getfield 64, 3, 9, 0, 782, 0, []),
  (26, .imul, 1, 0, 0, 0, 0, []),
  (27, .ireturn, 1, 0, 0, 0, 0, [])]
def m_X9_skin : am_M := (yX9_skin, cX9_skin, 2, some .int)
def t_X9_twists : List ri_row := [(0, .iconst 3, 1, 0, 0, 0, 0, []),
  (1, .aload_n 0, 1, 0, 0, 0, 0, []),
  (2, .getfield 64, 3, 9, 0, 782, 0, []),
  (5, .imul, 1, 0, 0, 0, 0, []),
  (6, .iconst 1, 1, 0, 0, 0, 0, []),
  (7, .isub, 1, 0, 0, 0, 0, []),
  (8, .ireturn, 1, 0, 0, 0, 0, [])]
def m_X9_twists : am_M := (yX9_twists, cX9_twists, 1, some .int)
def t_X9_isLetter : List ri_row := [(0, .iload_n 1, 1, 0, 0, 0, 0, []),
  (1, .ifCond .eq 30, 3, 18, 0, 0, 0, []),
  (4, .iload_n 1, 1, 0, 0, 0, 0, []),
  (5, .i2l, 1, 0, 0, 0, 0, []),
  (6, .bipush (-2), 2, 0, 0, 0, 0, []),
  (8, .aload_n 0, 1, 0, 0, 0, 0, []),
  (9, .getfield 64, 3, 9, 0, 782, 0, []),
  (12, .imul, 1, 0, 0, 0, 0, []),
  (13, .i2l, 1, 0, 0, 0, 0, []),
  (14, .iconst 2, 1, 0, 0, 0, 0, []),
  (15, .aload_n 0, 1, 0, 0, 0, 0, []),
  (16, .getfield 64, 3, 9, 0, 782, 0, []),
  (19, .imul, 1, 0, 0, 0, 0, []),
  (20, .i2l, 1, 0, 0, 0, 0, []),
  (21, .invokestatic 75, 3, 110, 0, 873, 0, []),
  (24, .ifCond .eq 7, 3, 18, 0, 0, 0, []),
  (27, .iconst 1, 1, 0, 0, 0, 0, []),
  (28, .goto 4, 3, 19, 0, 0, 0, []),
  (31, .iconst 0, 1, 0, 0, 0, 0, []),
  (32, .ireturn, 1, 0, 1, 0, 0, [])]
def m_X9_isLetter : am_M := (yX9_isLetter, cX9_isLetter, 2, some .boolean)
def t_X9_letter : List ri_row := [(0, .aload_n 0, 1, 0, 0, 0, 0, []),
  (1, .iload_n 1, 1, 0, 0, 0, 0, []),
  (2, .invokevirtual 79, 3, 115, 9, 880, 0, []),
  (5, .ifCond .ne 7, 3, 6, 0, 0, 0, []),
  (8, .sipush (-1002), 3, 0, 0, 0, 0, []),
  (11, .ireturn, 1, 0, 0, 0, 0, []),
  (12, .aload_n 0, 1, 0, 0, 0, 0, []),
  (13, .getfield 67, 3, 9, 1, 783, 0, []),
  (16, .bipush 60, 2, 0, 0, 0, 0, []),
  (18, .if_icmp .ne 7, 3, 12, 0, 0, 0, []),
  (21, .sipush (-1004), 3, 0, 0, 0, 0, []),
  (24, .ireturn, 1, 0, 0, 0, 0, []),
  (25, .aload_n 0, 1, 0, 0, 0, 0, []),
  (26, .getfield 67, 3, 9, 1, 783, 0, []),
  (29, .ifCond .le 33, 3, 33, 0, 0, 0, []),
  (32, .aload_n 0, 1, 0, 0, 0, 0, []),
  (33, .getfield 7, 3, 9, 2, 784, 0, []),
  (36, .aload_n 0, 1, 0, 0, 0, 0, []),
  (37, .getfield 67, 3, 9, 1, 783, 0, []),
  (40, .iconst 1, 1, 0, 0, 0, 0, []),
  (41, .isub, 1, 0, 0, 0, 0, []),
  (42, .iaload, 1, 0, 0, 0, 0, []),
  (43, .iconst 0, 1, 0, 0, 0, 0, []),
  (44, .iload_n 1, 1, 0, 0, 0, 0, []),
  (45, .isub, 1, 0, 0, 0, 0, []),
  (46, .if_icmp .ne 16, 3, 33, 0, 0, 0, []),
  (49, .aload_n 0, 1, 0, 0, 0, 0, []),
  (50, .dup, 1, 0, 0, 0, 0, []),
  (51, .getfield 67, 3, 9, 1, 783, 0, []),
  (54, .iconst 1, 1, 0, 0, 0, 0, []),
  (55, .isub, 1, 0, 0, 0, 0, []),
  (56, .putfield 67, 3, 9, 1, 783, 0, []),
  (59, .goto 23, 3, 45, 0, 0, 0, []),
  (62, .aload_n 0, 1, 0, 0, 0, 0, []),
  (63, .getfield 7, 3, 9, 2, 784, 0, []),
  (66, .aload_n 0, 1, 0, 0, 0, 0, []),
  (67, .getfield 67, 3, 9, 1, 783, 0, []),
  (70, .iload_n 1, 1, 0, 0, 0, 0, []),
  (71, .iastore, 1, 0, 0, 0, 0, []),
  (72, .aload_n 0, 1, 0, 0, 0, 0, []),
  (73, .dup, 1, 0, 0, 0, 0, []),
  (74, .getfield 67, 3, 9, 1, 783, 0, []),
  (77, .iconst 1, 1, 0, 0, 0, 0, []),
  (78, .iadd, 1, 0, 0, 0, 0, []),
  (79, .putfield 67, 3, 9, 1, 783, 0, []),
  (82, .aload_n 0, 1, 0, 0, 0, 0, []),
  (83, .getfield 67, 3, 9, 1, 783, 0, []),
  (86, .ireturn, 1, 0, 0, 0, 0, [])]
def m_X9_letter : am_M := (yX9_letter, cX9_letter, 2, some .int)
def t_X9_ring : List ri_row := [(0, .iconst 0, 1, 0, 0, 0, 0, []),
  (1, .istore_n 1, 1, 0, 0, 0, 0, []),
  (2, .aload_n 0, 1, 0, 0, 0, 0, []),
  (3, .getfield 67, 3, 9, 1, 783, 0, []),
  (6, .istore_n 2, 1, 0, 0, 0, 0, []),
  (7, .iload_n 2, 1, 0, 0, 0, 0, []),
  (8, .iload_n 1, 1, 0, 0, 0, 0, []),
  (9, .isub, 1, 0, 0, 0, 0, []),
  (10, .iconst 1, 1, 0, 0, 0, 0, []),
  (11, .if_icmp .le 31, 3, 26, 0, 0, 0, []),
  (14, .aload_n 0, 1, 0, 0, 0, 0, []),
  (15, .getfield 7, 3, 9, 2, 784, 0, []),
  (18, .iload_n 1, 1, 0, 0, 0, 0, []),
  (19, .iaload, 1, 0, 0, 0, 0, []),
  (20, .iconst 0, 1, 0, 0, 0, 0, []),
  (21, .aload_n 0, 1, 0, 0, 0, 0, []),
  (22, .getfield 7, 3, 9, 2, 784, 0, []),
  (25, .iload_n 2, 1, 0, 0, 0, 0, []),
  (26, .iconst 1, 1, 0, 0, 0, 0, []),
  (27, .isub, 1, 0, 0, 0, 0, []),
  (28, .iaload, 1, 0, 0, 0, 0, []),
  (29, .isub, 1, 0, 0, 0, 0, []),
  (30, .if_icmp .ne 12, 3, 26, 0, 0, 0, []),
  (33, .iinc 1 1, 3, 0, 0, 0, 0, []),
  (36, .iinc 2 (-1), 3, 0, 0, 0, 0, []),
  (39, .goto (-32), 3, 5, 0, 0, 0, []),
  (42, .iload_n 2, 1, 0, 0, 0, 0, []),
  (43, .iload_n 1, 1, 0, 0, 0, 0, []),
  (44, .isub, 1, 0, 0, 0, 0, []),
  (45, .iconst 1, 1, 0, 0, 0, 0, []),
  (46, .if_icmp .ge 7, 3, 33, 0, 0, 0, []),
  (49, .sipush (-1003), 3, 0, 0, 0, 0, []),
  (52, .ireturn, 1, 0, 0, 0, 0, []),
  (53, .aload_n 0, 1, 0, 0, 0, 0, []),
  (54, .getfield 70, 3, 9, 3, 785, 0, []),
  (57, .bipush 12, 2, 0, 0, 0, 0, []),
  (59, .if_icmp .ne 7, 3, 39, 0, 0, 0, []),
  (62, .sipush (-1004), 3, 0, 0, 0, 0, []),
  (65, .ireturn, 1, 0, 0, 0, 0, []),
  (66, .aload_n 0, 1, 0, 0, 0, 0, []),
  (67, .getfield 13, 3, 9, 4, 786, 0, []),
  (70, .aload_n 0, 1, 0, 0, 0, 0, []),
  (71, .getfield 70, 3, 9, 3, 785, 0, []),
  (74, .iload_n 2, 1, 0, 0, 0, 0, []),
  (75, .iload_n 1, 1, 0, 0, 0, 0, []),
  (76, .isub, 1, 0, 0, 0, 0, []),
  (77, .iastore, 1, 0, 0, 0, 0, []),
  (78, .iload_n 1, 1, 0, 0, 0, 0, []),
  (79, .istore_n 3, 1, 0, 0, 0, 0, []),
  (80, .iload_n 3, 1, 0, 0, 0, 0, []),
  (81, .iload_n 2, 1, 0, 0, 0, 0, []),
  (82, .if_icmp .ge 31, 3, 69, 0, 0, 0, []),
  (85, .aload_n 0, 1, 0, 0, 0, 0, []),
  (86, .getfield 16, 3, 9, 5, 787, 0, []),
  (89, .bipush 60, 2, 0, 0, 0, 0, []),
  (91, .aload_n 0, 1, 0, 0, 0, 0, []),
  (92, .getfield 70, 3, 9, 3, 785, 0, []),
  (95, .imul, 1, 0, 0, 0, 0, []),
  (96, .iload_n 3, 1, 0, 0, 0, 0, []),
  (97, .iadd, 1, 0, 0, 0, 0, []),
  (98, .iload_n 1, 1, 0, 0, 0, 0, []),
  (99, .isub, 1, 0, 0, 0, 0, []),
  (100, .aload_n 0, 1, 0, 0, 0, 0, []),
  (101, .getfield 7, 3, 9, 2, 784, 0, []),
  (104, .iload_n 3, 1, 0, 0, 0, 0, []),
  (105, .iaload, 1, 0, 0, 0, 0, []),
  (106, .iastore, 1, 0, 0, 0, 0, []),
  (107, .iinc 3 1, 3, 0, 0, 0, 0, []),
  (110, .goto (-30), 3, 49, 0, 0, 0, []),
  (113, .aload_n 0, 1, 0, 0, 0, 0, []),
  (114, .iconst 0, 1, 0, 0, 0, 0, []),
  (115, .putfield 67, 3, 9, 1, 783, 0, []),
  (118, .aload_n 0, 1, 0, 0, 0, 0, []),
  (119, .dup, 1, 0, 0, 0, 0, []),
  (120, .getfield 70, 3, 9, 3, 785, 0, []),
  (123, .iconst 1, 1, 0, 0, 0, 0, []),
  (124, .iadd, 1, 0, 0, 0, 0, []),
  (125, .putfield 70, 3, 9, 3, 785, 0, []),
  (128, .aload_n 0, 1, 0, 0, 0, 0, []),
  (129, .getfield 70, 3, 9, 3, 785, 0, []),
  (132, .iconst 1, 1, 0, 0, 0, 0, []),
  (133, .isub, 1, 0, 0, 0, 0, []),
  (134, .ireturn, 1, 0, 0, 0, 0, [])]
def m_X9_ring : am_M := (yX9_ring, cX9_ring, 4, some .int)
def t_X9_noRing : List ri_row := [(0, .iload_n 1, 1, 0, 0, 0, 0, []),
  (1, .i2l, 1, 0, 0, 0, 0, []),
  (2, .lconst 0, 1, 0, 0, 0, 0, []),
  (3, .aload_n 0, 1, 0, 0, 0, 0, []),
  (4, .getfield 70, 3, 9, 3, 785, 0, []),
  (7, .iconst 1, 1, 0, 0, 0, 0, []),
  (8, .isub, 1, 0, 0, 0, 0, []),
  (9, .i2l, 1, 0, 0, 0, 0, []),
  (10, .invokestatic 75, 3, 110, 0, 873, 0, []),
  (13, .ifCond .ne 7, 3, 12, 0, 0, 0, []),
  (16, .iconst 1, 1, 0, 0, 0, 0, []),
  (17, .goto 4, 3, 13, 0, 0, 0, []),
  (20, .iconst 0, 1, 0, 0, 0, 0, []),
  (21, .ireturn, 1, 0, 1, 0, 0, [])]
def m_X9_noRing : am_M := (yX9_noRing, cX9_noRing, 2, some .boolean)
def t_X9_drop : List ri_row := [(0, .aload_n 0, 1, 0, 0, 0, 0, []),
  (1, .getfield 70, 3, 9, 3, 785, 0, []),
  (4, .ifCond .ne 7, 3, 5, 0, 0, 0, []),
  (7, .sipush (-1003), 3, 0, 0, 0, 0, []),
  (10, .ireturn, 1, 0, 0, 0, 0, []),
  (11, .aload_n 0, 1, 0, 0, 0, 0, []),
  (12, .dup, 1, 0, 0, 0, 0, []),
  (13, .getfield 70, 3, 9, 3, 785, 0, []),
  (16, .iconst 1, 1, 0, 0, 0, 0, []),
  (17, .isub, 1, 0, 0, 0, 0, []),
  (18, .putfield 70, 3, 9, 3, 785, 0, []),
  (21, .aload_n 0, 1, 0, 0, 0, 0, []),
  (22, .getfield 70, 3, 9, 3, 785, 0, []),
  (25, .ireturn, 1, 0, 0, 0, 0, [])]
def m_X9_drop : am_M := (yX9_drop, cX9_drop, 1, some .int)
def t_X9_takeU : List ri_row := [(0, .aload_n 0, 1, 0, 0, 0, 0, []),
  (1, .aload_n 0, 1, 0, 0, 0, 0, []),
  (2, .getfield 13, 3, 9, 4, 786, 0, []),
  (5, .iload_n 1, 1, 0, 0, 0, 0, []),
  (6, .iaload, 1, 0, 0, 0, 0, []),
  (7, .putfield 83, 3, 9, 9, 791, 0, []),
  (10, .iconst 0, 1, 0, 0, 0, 0, []),
  (11, .istore_n 2, 1, 0, 0, 0, 0, []),
  (12, .iload_n 2, 1, 0, 0, 0, 0, []),
  (13, .aload_n 0, 1, 0, 0, 0, 0, []),
  (14, .getfield 83, 3, 9, 9, 791, 0, []),
  (17, .if_icmp .ge 26, 3, 26, 0, 0, 0, []),
  (20, .aload_n 0, 1, 0, 0, 0, 0, []),
  (21, .getfield 25, 3, 9, 8, 790, 0, []),
  (24, .iload_n 2, 1, 0, 0, 0, 0, []),
  (25, .aload_n 0, 1, 0, 0, 0, 0, []),
  (26, .getfield 16, 3, 9, 5, 787, 0, []),
  (29, .bipush 60, 2, 0, 0, 0, 0, []),
  (31, .iload_n 1, 1, 0, 0, 0, 0, []),
  (32, .imul, 1, 0, 0, 0, 0, []),
  (33, .iload_n 2, 1, 0, 0, 0, 0, []),
  (34, .iadd, 1, 0, 0, 0, 0, []),
  (35, .iaload, 1, 0, 0, 0, 0, []),
  (36, .iastore, 1, 0, 0, 0, 0, []),
  (37, .iinc 2 1, 3, 0, 0, 0, 0, []),
  (40, .goto (-28), 3, 8, 0, 0, 0, []),
  (43, .return_, 1, 0, 0, 0, 0, [])]
def m_X9_takeU : am_M := (yX9_takeU, cX9_takeU, 3, none)
def t_X9_takeV : List ri_row := [(0, .aload_n 0, 1, 0, 0, 0, 0, []),
  (1, .aload_n 0, 1, 0, 0, 0, 0, []),
  (2, .getfield 13, 3, 9, 4, 786, 0, []),
  (5, .iload_n 1, 1, 0, 0, 0, 0, []),
  (6, .iaload, 1, 0, 0, 0, 0, []),
  (7, .putfield 86, 3, 9, 11, 793, 0, []),
  (10, .iconst 0, 1, 0, 0, 0, 0, []),
  (11, .istore_n 2, 1, 0, 0, 0, 0, []),
  (12, .iload_n 2, 1, 0, 0, 0, 0, []),
  (13, .aload_n 0, 1, 0, 0, 0, 0, []),
  (14, .getfield 86, 3, 9, 11, 793, 0, []),
  (17, .if_icmp .ge 26, 3, 26, 0, 0, 0, []),
  (20, .aload_n 0, 1, 0, 0, 0, 0, []),
  (21, .getfield 28, 3, 9, 10, 792, 0, []),
  (24, .iload_n 2, 1, 0, 0, 0, 0, []),
  (25, .aload_n 0, 1, 0, 0, 0, 0, []),
  (26, .getfield 16, 3, 9, 5, 787, 0, []),
  (29, .bipush 60, 2, 0, 0, 0, 0, []),
  (31, .iload_n 1, 1, 0, 0, 0, 0, []),
  (32, .imul, 1, 0, 0, 0, 0, []),
  (33, .iload_n 2, 1, 0, 0, 0, 0, []),
  (34, .iadd, 1, 0, 0, 0, 0, []),
  (35, .iaload, 1, 0, 0, 0, 0, []),
  (36, .iastore, 1, 0, 0, 0, 0, []),
  (37, .iinc 2 1, 3, 0, 0, 0, 0, []),
  (40, .goto (-28), 3, 8, 0, 0, 0, []),
  (43, .return_, 1, 0, 0, 0, 0, [])]
def m_X9_takeV : am_M := (yX9_takeV, cX9_takeV, 3, none)
def t_X9_turnV : List ri_row := [(0, .iconst 0, 1, 0, 0, 0, 0, []),
  (1, .istore_n 1, 1, 0, 0, 0, 0, []),
  (2, .iload_n 1, 1, 0, 0, 0, 0, []),
  (3, .aload_n 0, 1, 0, 0, 0, 0, []),
  (4, .getfield 86, 3, 9, 11, 793, 0, []),
  (7, .iconst 1, 1, 0, 0, 0, 0, []),
  (8, .isub, 1, 0, 0, 0, 0, []),
  (9, .iconst 2, 1, 0, 0, 0, 0, []),
  (10, .idiv, 1, 0, 0, 0, 0, []),
  (11, .if_icmp .gt 55, 3, 46, 0, 0, 0, []),
  (14, .aload_n 0, 1, 0, 0, 0, 0, []),
  (15, .getfield 28, 3, 9, 10, 792, 0, []),
  (18, .iload_n 1, 1, 0, 0, 0, 0, []),
  (19, .iaload, 1, 0, 0, 0, 0, []),
  (20, .istore_n 2, 1, 0, 0, 0, 0, []),
  (21, .aload_n 0, 1, 0, 0, 0, 0, []),
  (22, .getfield 28, 3, 9, 10, 792, 0, []),
  (25, .aload_n 0, 1, 0, 0, 0, 0, []),
  (26, .getfield 86, 3, 9, 11, 793, 0, []),
  (29, .iconst 1, 1, 0, 0, 0, 0, []),
  (30, .isub, 1, 0, 0, 0, 0, []),
  (31, .iload_n 1, 1, 0, 0, 0, 0, []),
  (32, .isub, 1, 0, 0, 0, 0, []),
  (33, .iaload, 1, 0, 0, 0, 0, []),
  (34, .istore_n 3, 1, 0, 0, 0, 0, []),
  (35, .aload_n 0, 1, 0, 0, 0, 0, []),
  (36, .getfield 28, 3, 9, 10, 792, 0, []),
  (39, .iload_n 1, 1, 0, 0, 0, 0, []),
  (40, .iconst 0, 1, 0, 0, 0, 0, []),
  (41, .iload_n 3, 1, 0, 0, 0, 0, []),
  (42, .isub, 1, 0, 0, 0, 0, []),
  (43, .iastore, 1, 0, 0, 0, 0, []),
  (44, .aload_n 0, 1, 0, 0, 0, 0, []),
  (45, .getfield 28, 3, 9, 10, 792, 0, []),
  (48, .aload_n 0, 1, 0, 0, 0, 0, []),
  (49, .getfield 86, 3, 9, 11, 793, 0, []),
  (52, .iconst 1, 1, 0, 0, 0, 0, []),
  (53, .isub, 1, 0, 0, 0, 0, []),
  (54, .iload_n 1, 1, 0, 0, 0, 0, []),
  (55, .isub, 1, 0, 0, 0, 0, []),
  (56, .iconst 0, 1, 0, 0, 0, 0, []),
  (57, .iload_n 2, 1, 0, 0, 0, 0, []),
  (58, .isub, 1, 0, 0, 0, 0, []),
  (59, .iastore, 1, 0, 0, 0, 0, []),
  (60, .iinc 1 1, 3, 0, 0, 0, 0, []),
  (63, .goto (-61), 3, 2, 0, 0, 0, []),
  (66, .return_, 1, 0, 0, 0, 0, [])]
def m_X9_turnV : am_M := (yX9_turnV, cX9_turnV, 4, none)
def t_X9_ofU : List ri_row := [(0, .aload_n 0, 1, 0, 0, 0, 0, []),
  (1, .getfield 25, 3, 9, 8, 790, 0, []),
  (4, .iload_n 1, 1, 0, 0, 0, 0, []),
  (5, .aload_n 0, 1, 0, 0, 0, 0, []),
  (6, .getfield 83, 3, 9, 9, 791, 0, []),
  (9, .irem, 1, 0, 0, 0, 0, []),
  (10, .iaload, 1, 0, 0, 0, 0, []),
  (11, .ireturn, 1, 0, 0, 0, 0, [])]
def m_X9_ofU : am_M := (yX9_ofU, cX9_ofU, 2, some .int)
def t_X9_ofV : List ri_row := [(0, .aload_n 0, 1, 0, 0, 0, 0, []),
  (1, .getfield 28, 3, 9, 10, 792, 0, []),
  (4, .iload_n 1, 1, 0, 0, 0, 0, []),
  (5, .aload_n 0, 1, 0, 0, 0, 0, []),
  (6, .getfield 86, 3, 9, 11, 793, 0, []),
  (9, .irem, 1, 0, 0, 0, 0, []),
  (10, .iaload, 1, 0, 0, 0, 0, []),
  (11, .ireturn, 1, 0, 0, 0, 0, [])]
def m_X9_ofV : am_M := (yX9_ofV, cX9_ofV, 2, some .int)
def t_X9_isTurned : List ri_row := [(0, .iconst 0, 1, 0, 0, 0, 0, []),
  (1, .istore_n 1, 1, 0, 0, 0, 0, []),
  (2, .iload_n 1, 1, 0, 0, 0, 0, []),
  (3, .aload_n 0, 1, 0, 0, 0, 0, []),
  (4, .getfield 83, 3, 9, 9, 791, 0, []),
  (7, .if_icmp .ge 59, 3, 38, 0, 0, 0, []),
  (10, .iconst 1, 1, 0, 0, 0, 0, []),
  (11, .istore_n 2, 1, 0, 0, 0, 0, []),
  (12, .iconst 0, 1, 0, 0, 0, 0, []),
  (13, .istore_n 3, 1, 0, 0, 0, 0, []),
  (14, .iload_n 3, 1, 0, 0, 0, 0, []),
  (15, .aload_n 0, 1, 0, 0, 0, 0, []),
  (16, .getfield 83, 3, 9, 9, 791, 0, []),
  (19, .if_icmp .ge 35, 3, 32, 0, 0, 0, []),
  (22, .iload_n 2, 1, 0, 0, 0, 0, []),
  (23, .ifCond .eq 31, 3, 32, 0, 0, 0, []),
  (26, .aload_n 0, 1, 0, 0, 0, 0, []),
  (27, .iload_n 1, 1, 0, 0, 0, 0, []),
  (28, .iload_n 3, 1, 0, 0, 0, 0, []),
  (29, .iadd, 1, 0, 0, 0, 0, []),
  (30, .invokevirtual 89, 3, 123, 9, 916, 0, []),
  (33, .aload_n 0, 1, 0, 0, 0, 0, []),
  (34, .getfield 28, 3, 9, 10, 792, 0, []),
  (37, .iload_n 3, 1, 0, 0, 0, 0, []),
  (38, .iaload, 1, 0, 0, 0, 0, []),
  (39, .if_icmp .ne 7, 3, 28, 0, 0, 0, []),
  (42, .iconst 1, 1, 0, 0, 0, 0, []),
  (43, .goto 4, 3, 29, 0, 0, 0, []),
  (46, .iconst 0, 1, 0, 0, 0, 0, []),
  (47, .istore_n 2, 1, 0, 0, 0, 0, []),
  (48, .iinc 3 1, 3, 0, 0, 0, 0, []),
  (51, .goto (-37), 3, 10, 0, 0, 0, []),
  (54, .iload_n 2, 1, 0, 0, 0, 0, []),
  (55, .ifCond .eq 5, 3, 36, 0, 0, 0, []),
  (58, .iconst 1, 1, 0, 0, 0, 0, []),
  (59, .ireturn, 1, 0, 1, 0, 0, []),
  (60, .iinc 1 1, 3, 0, 0, 0, 0, []),
  (63, .goto (-61), 3, 2, 0, 0, 0, []),
  (66, .iconst 0, 1, 0, 0, 0, 0, []),
  (67, .ireturn, 1, 0, 1, 0, 0, [])]
def m_X9_isTurned : am_M := (yX9_isTurned, cX9_isTurned, 4, some .boolean)
def t_X9_areOne : List ri_row := [(0, .aload_n 0, 1, 0, 0, 0, 0, []),
  (1, .getfield 83, 3, 9, 9, 791, 0, []),
  (4, .aload_n 0, 1, 0, 0, 0, 0, []),
  (5, .getfield 86, 3, 9, 11, 793, 0, []),
  (8, .if_icmp .eq 5, 3, 7, 0, 0, 0, []),
  (11, .iconst 0, 1, 0, 0, 0, 0, []),
  (12, .ireturn, 1, 0, 1, 0, 0, []),
  (13, .aload_n 0, 1, 0, 0, 0, 0, []),
  (14, .invokevirtual 93, 3, 125, 9, 912, 0, []),
  (17, .ifCond .eq 5, 3, 12, 0, 0, 0, []),
  (20, .iconst 1, 1, 0, 0, 0, 0, []),
  (21, .ireturn, 1, 0, 1, 0, 0, []),
  (22, .aload_n 0, 1, 0, 0, 0, 0, []),
  (23, .invokevirtual 97, 3, 122, 9, 920, 0, []),
  (26, .aload_n 0, 1, 0, 0, 0, 0, []),
  (27, .invokevirtual 93, 3, 125, 9, 912, 0, []),
  (30, .ireturn, 1, 0, 1, 0, 0, [])]
def m_X9_areOne : am_M := (yX9_areOne, cX9_areOne, 1, some .boolean)
def t_X9_one : List ri_row := [(0, .aload_n 0, 1, 0, 0, 0, 0, []),
  (1, .iload_n 1, 1, 0, 0, 0, 0, []),
  (2, .invokevirtual 100, 3, 118, 9, 896, 0, []),
  (5, .ifCond .ne 11, 3, 8, 0, 0, 0, []),
  (8, .aload_n 0, 1, 0, 0, 0, 0, []),
  (9, .iload_n 2, 1, 0, 0, 0, 0, []),
  (10, .invokevirtual 100, 3, 118, 9, 896, 0, []),
  (13, .ifCond .eq 7, 3, 10, 0, 0, 0, []),
  (16, .sipush (-1001), 3, 0, 0, 0, 0, []),
  (19, .ireturn, 1, 0, 0, 0, 0, []),
  (20, .aload_n 0, 1, 0, 0, 0, 0, []),
  (21, .iload_n 1, 1, 0, 0, 0, 0, []),
  (22, .invokevirtual 103, 3, 120, 9, 900, 0, []),
  (25, .aload_n 0, 1, 0, 0, 0, 0, []),
  (26, .iload_n 2, 1, 0, 0, 0, 0, []),
  (27, .invokevirtual 106, 3, 121, 9, 904, 0, []),
  (30, .aload_n 0, 1, 0, 0, 0, 0, []),
  (31, .invokevirtual 109, 3, 126, 9, 908, 0, []),
  (34, .invokestatic 112, 3, 111, 0, 924, 0, []),
  (37, .ireturn, 1, 0, 0, 0, 0, [])]
def m_X9_one : am_M := (yX9_one, cX9_one, 3, some .int)
def t_X9_isPower : List ri_row := [(0, .aload_n 0, 1, 0, 0, 0, 0, []),
  (1, .getfield 13, 3, 9, 4, 786, 0, []),
  (4, .iload_n 1, 1, 0, 0, 0, 0, []),
  (5, .iaload, 1, 0, 0, 0, 0, []),
  (6, .istore_n 2, 1, 0, 0, 0, 0, []),
  (7, .iconst 1, 1, 0, 0, 0, 0, []),
  (8, .istore_n 3, 1, 0, 0, 0, 0, []),
  (9, .iload_n 3, 1, 0, 0, 0, 0, []),
  (10, .iload_n 2, 1, 0, 0, 0, 0, []),
  (11, .if_icmp .ge 87, 3, 58, 0, 0, 0, []),
  (14, .iload_n 2, 1, 0, 0, 0, 0, []),
  (15, .iload_n 3, 1, 0, 0, 0, 0, []),
  (16, .irem, 1, 0, 0, 0, 0, []),
  (17, .ifCond .ne 7, 3, 16, 0, 0, 0, []),
  (20, .iconst 1, 1, 0, 0, 0, 0, []),
  (21, .goto 4, 3, 17, 0, 0, 0, []),
  (24, .iconst 0, 1, 0, 0, 0, 0, []),
  (25, .istore 4, 2, 0, 0, 0, 0, []),
  (27, .iconst 0, 1, 0, 0, 0, 0, []),
  (28, .istore 5, 2, 0, 0, 0, 0, []),
  (30, .iload 5, 2, 0, 0, 0, 0, []),
  (32, .iload_n 3, 1, 0, 0, 0, 0, []),
  (33, .iadd, 1, 0, 0, 0, 0, []),
  (34, .iload_n 2, 1, 0, 0, 0, 0, []),
  (35, .if_icmp .ge 50, 3, 52, 0, 0, 0, []),
  (38, .iload 4, 2, 0, 0, 0, 0, []),
  (40, .ifCond .eq 45, 3, 52, 0, 0, 0, []),
  (43, .aload_n 0, 1, 0, 0, 0, 0, []),
  (44, .getfield 16, 3, 9, 5, 787, 0, []),
  (47, .bipush 60, 2, 0, 0, 0, 0, []),
  (49, .iload_n 1, 1, 0, 0, 0, 0, []),
  (50, .imul, 1, 0, 0, 0, 0, []),
  (51, .iload 5, 2, 0, 0, 0, 0, []),
  (53, .iadd, 1, 0, 0, 0, 0, []),
  (54, .iaload, 1, 0, 0, 0, 0, []),
  (55, .aload_n 0, 1, 0, 0, 0, 0, []),
  (56, .getfield 16, 3, 9, 5, 787, 0, []),
  (59, .bipush 60, 2, 0, 0, 0, 0, []),
  (61, .iload_n 1, 1, 0, 0, 0, 0, []),
  (62, .imul, 1, 0, 0, 0, 0, []),
  (63, .iload 5, 2, 0, 0, 0, 0, []),
  (65, .iadd, 1, 0, 0, 0, 0, []),
  (66, .iload_n 3, 1, 0, 0, 0, 0, []),
  (67, .iadd, 1, 0, 0, 0, 0, []),
  (68, .iaload, 1, 0, 0, 0, 0, []),
  (69, .if_icmp .ne 7, 3, 48, 0, 0, 0, []),
  (72, .iconst 1, 1, 0, 0, 0, 0, []),
  (73, .goto 4, 3, 49, 0, 0, 0, []),
  (76, .iconst 0, 1, 0, 0, 0, 0, []),
  (77, .istore 4, 2, 0, 0, 0, 0, []),
  (79, .iinc 5 1, 3, 0, 0, 0, 0, []),
  (82, .goto (-52), 3, 20, 0, 0, 0, []),
  (85, .iload 4, 2, 0, 0, 0, 0, []),
  (87, .ifCond .eq 5, 3, 56, 0, 0, 0, []),
  (90, .iconst 1, 1, 0, 0, 0, 0, []),
  (91, .ireturn, 1, 0, 1, 0, 0, []),
  (92, .iinc 3 1, 3, 0, 0, 0, 0, []),
  (95, .goto (-86), 3, 7, 0, 0, 0, []),
  (98, .iconst 0, 1, 0, 0, 0, 0, []),
  (99, .ireturn, 1, 0, 1, 0, 0, [])]
def m_X9_isPower : am_M := (yX9_isPower, cX9_isPower, 6, some .boolean)
def t_X9_placeOf : List ri_row := [(0, .iload_n 0, 1, 0, 0, 0, 0, []),
  (1, .ifCond .ge 9, 3, 6, 0, 0, 0, []),
  (4, .iconst 0, 1, 0, 0, 0, 0, []),
  (5, .iload_n 0, 1, 0, 0, 0, 0, []),
  (6, .isub, 1, 0, 0, 0, 0, []),
  (7, .goto 4, 3, 7, 0, 0, 0, []),
  (10, .iload_n 0, 1, 0, 0, 0, 0, []),
  (11, .istore_n 1, 1, 0, 0, 0, 0, []),
  (12, .iload_n 1, 1, 0, 0, 0, 0, []),
  (13, .iconst 1, 1, 0, 0, 0, 0, []),
  (14, .isub, 1, 0, 0, 0, 0, []),
  (15, .iconst 2, 1, 0, 0, 0, 0, []),
  (16, .idiv, 1, 0, 0, 0, 0, []),
  (17, .istore_n 2, 1, 0, 0, 0, 0, []),
  (18, .iload_n 1, 1, 0, 0, 0, 0, []),
  (19, .iconst 2, 1, 0, 0, 0, 0, []),
  (20, .irem, 1, 0, 0, 0, 0, []),
  (21, .iconst 1, 1, 0, 0, 0, 0, []),
  (22, .if_icmp .ne 7, 3, 21, 0, 0, 0, []),
  (25, .iconst 1, 1, 0, 0, 0, 0, []),
  (26, .goto 4, 3, 22, 0, 0, 0, []),
  (29, .iconst 0, 1, 0, 0, 0, 0, []),
  (30, .istore_n 3, 1, 0, 0, 0, 0, []),
  (31, .iconst 4, 1, 0, 0, 0, 0, []),
  (32, .iload_n 2, 1, 0, 0, 0, 0, []),
  (33, .imul, 1, 0, 0, 0, 0, []),
  (34, .iload_n 3, 1, 0, 0, 0, 0, []),
  (35, .ifCond .eq 15, 3, 34, 0, 0, 0, []),
  (38, .iload_n 0, 1, 0, 0, 0, 0, []),
  (39, .ifCond .le 7, 3, 32, 0, 0, 0, []),
  (42, .iconst 0, 1, 0, 0, 0, 0, []),
  (43, .goto 16, 3, 39, 0, 0, 0, []),
  (46, .iconst 2, 1, 0, 0, 0, 0, []),
  (47, .goto 12, 3, 39, 0, 0, 0, []),
  (50, .iload_n 0, 1, 0, 0, 0, 0, []),
  (51, .ifCond .ge 7, 3, 38, 0, 0, 0, []),
  (54, .iconst 1, 1, 0, 0, 0, 0, []),
  (55, .goto 4, 3, 39, 0, 0, 0, []),
  (58, .iconst 3, 1, 0, 0, 0, 0, []),
  (59, .iadd, 1, 0, 0, 0, 0, []),
  (60, .ireturn, 1, 0, 0, 0, 0, [])]
def m_X9_placeOf : am_M := (yX9_placeOf, cX9_placeOf, 4, some .int)
def t_X9_farFrom : List ri_row := [(0, .iload_n 2, 1, 0, 0, 0, 0, []),
  (1, .invokestatic 116, 3, 129, 0, 959, 0, []),
  (4, .iload_n 1, 1, 0, 0, 0, 0, []),
  (5, .invokestatic 116, 3, 129, 0, 959, 0, []),
  (8, .isub, 1, 0, 0, 0, 0, []),
  (9, .istore_n 3, 1, 0, 0, 0, 0, []),
  (10, .iload_n 3, 1, 0, 0, 0, 0, []),
  (11, .ifCond .ge 14, 3, 15, 0, 0, 0, []),
  (14, .iload_n 3, 1, 0, 0, 0, 0, []),
  (15, .iconst 4, 1, 0, 0, 0, 0, []),
  (16, .aload_n 0, 1, 0, 0, 0, 0, []),
  (17, .getfield 64, 3, 9, 0, 782, 0, []),
  (20, .imul, 1, 0, 0, 0, 0, []),
  (21, .iadd, 1, 0, 0, 0, 0, []),
  (22, .goto 4, 3, 16, 0, 0, 0, []),
  (25, .iload_n 3, 1, 0, 0, 0, 0, []),
  (26, .ireturn, 1, 0, 0, 0, 0, [])]
def m_X9_farFrom : am_M := (yX9_farFrom, cX9_farFrom, 4, some .int)
def t_X9_goRound : List ri_row := [(0, .aload_n 0, 1, 0, 0, 0, 0, []),
  (1, .iload_n 1, 1, 0, 0, 0, 0, []),
  (2, .iload_n 2, 1, 0, 0, 0, 0, []),
  (3, .invokevirtual 119, 3, 130, 9, 955, 0, []),
  (6, .aload_n 0, 1, 0, 0, 0, 0, []),
  (7, .iload_n 1, 1, 0, 0, 0, 0, []),
  (8, .iload_n 3, 1, 0, 0, 0, 0, []),
  (9, .invokevirtual 119, 3, 130, 9, 955, 0, []),
  (12, .if_icmp .ge 7, 3, 11, 0, 0, 0, []),
  (15, .iconst 1, 1, 0, 0, 0, 0, []),
  (16, .goto 4, 3, 12, 0, 0, 0, []),
  (19, .iconst 0, 1, 0, 0, 0, 0, []),
  (20, .ireturn, 1, 0, 1, 0, 0, [])]
def m_X9_goRound : am_M := (yX9_goRound, cX9_goRound, 4, some .boolean)
def t_X9_meetAtOnce : List ri_row := [(0, .iload_n 1, 1, 0, 0, 0, 0, []),
  (1, .iload_n 3, 1, 0, 0, 0, 0, []),
  (2, .if_icmp .eq 35, 3, 20, 0, 0, 0, []),
  (5, .iload_n 1, 1, 0, 0, 0, 0, []),
  (6, .iload 4, 2, 0, 0, 0, 0, []),
  (8, .if_icmp .eq 29, 3, 20, 0, 0, 0, []),
  (11, .iload_n 2, 1, 0, 0, 0, 0, []),
  (12, .iload_n 3, 1, 0, 0, 0, 0, []),
  (13, .if_icmp .eq 24, 3, 20, 0, 0, 0, []),
  (16, .iload_n 2, 1, 0, 0, 0, 0, []),
  (17, .iload 4, 2, 0, 0, 0, 0, []),
  (19, .if_icmp .eq 18, 3, 20, 0, 0, 0, []),
  (22, .iload_n 3, 1, 0, 0, 0, 0, []),
  (23, .iload 4, 2, 0, 0, 0, 0, []),
  (25, .if_icmp .eq 12, 3, 20, 0, 0, 0, []),
  (28, .iload_n 1, 1, 0, 0, 0, 0, []),
  (29, .iload_n 2, 1, 0, 0, 0, 0, []),
  (30, .if_icmp .eq 7, 3, 20, 0, 0, 0, []),
  (33, .iconst 1, 1, 0, 0, 0, 0, []),
  (34, .goto 4, 3, 21, 0, 0, 0, []),
  (37, .iconst 0, 1, 0, 0, 0, 0, []),
  (38, .istore 5, 2, 0, 0, 0, 0, []),
  (40, .iload 5, 2, 0, 0, 0, 0, []),
  (42, .ifCond .eq 51, 3, 51, 0, 0, 0, []),
  (45, .aload_n 0, 1, 0, 0, 0, 0, []),
  (46, .iload_n 1, 1, 0, 0, 0, 0, []),
  (47, .iload_n 3, 1, 0, 0, 0, 0, []),
  (48, .invokevirtual 119, 3, 130, 9, 955, 0, []),
  (51, .aload_n 0, 1, 0, 0, 0, 0, []),
  (52, .iload_n 1, 1, 0, 0, 0, 0, []),
  (53, .iload_n 2, 1, 0, 0, 0, 0, []),
  (54, .invokevirtual 119, 3, 130, 9, 955, 0, []),
  (57, .if_icmp .ge 7, 3, 35, 0, 0, 0, []),
  (60, .iconst 1, 1, 0, 0, 0, 0, []),
  (61, .goto 4, 3, 36, 0, 0, 0, []),
  (64, .iconst 0, 1, 0, 0, 0, 0, []),
  (65, .aload_n 0, 1, 0, 0, 0, 0, []),
  (66, .iload_n 1, 1, 0, 0, 0, 0, []),
  (67, .iload 4, 2, 0, 0, 0, 0, []),
  (69, .invokevirtual 119, 3, 130, 9, 955, 0, []),
  (72, .aload_n 0, 1, 0, 0, 0, 0, []),
  (73, .iload_n 1, 1, 0, 0, 0, 0, []),
  (74, .iload_n 2, 1, 0, 0, 0, 0, []),
  (75, .invokevirtual 119, 3, 130, 9, 955, 0, []),
  (78, .if_icmp .ge 7, 3, 47, 0, 0, 0, []),
  (81, .iconst 1, 1, 0, 0, 0, 0, []),
  (82, .goto 4, 3, 48, 0, 0, 0, []),
  (85, .iconst 0, 1, 0, 0, 0, 0, []),
  (86, .if_icmp .eq 7, 3, 51, 0, 0, 0, []),
  (89, .iconst 1, 1, 0, 0, 0, 0, []),
  (90, .goto 4, 3, 52, 0, 0, 0, []),
  (93, .iconst 0, 1, 0, 0, 0, 0, []),
  (94, .ireturn, 1, 0, 1, 0, 0, [])]
def m_X9_meetAtOnce : am_M := (yX9_meetAtOnce, cX9_meetAtOnce, 6, some .boolean)
def t_X9_meetAlong : List ri_row := [(0, .iconst 1, 1, 0, 0, 0, 0, []),
  (1, .istore_n 3, 1, 0, 0, 0, 0, []),
  (2, .iconst 2, 1, 0, 0, 0, 0, []),
  (3, .aload_n 0, 1, 0, 0, 0, 0, []),
  (4, .getfield 83, 3, 9, 9, 791, 0, []),
  (7, .aload_n 0, 1, 0, 0, 0, 0, []),
  (8, .getfield 86, 3, 9, 11, 793, 0, []),
  (11, .iadd, 1, 0, 0, 0, 0, []),
  (12, .imul, 1, 0, 0, 0, 0, []),
  (13, .istore 4, 2, 0, 0, 0, 0, []),
  (15, .iload_n 3, 1, 0, 0, 0, 0, []),
  (16, .iload 4, 2, 0, 0, 0, 0, []),
  (18, .if_icmp .gt 26, 3, 26, 0, 0, 0, []),
  (21, .aload_n 0, 1, 0, 0, 0, 0, []),
  (22, .iload_n 1, 1, 0, 0, 0, 0, []),
  (23, .iload_n 3, 1, 0, 0, 0, 0, []),
  (24, .iadd, 1, 0, 0, 0, 0, []),
  (25, .invokevirtual 89, 3, 123, 9, 916, 0, []),
  (28, .aload_n 0, 1, 0, 0, 0, 0, []),
  (29, .iload_n 2, 1, 0, 0, 0, 0, []),
  (30, .iload_n 3, 1, 0, 0, 0, 0, []),
  (31, .iadd, 1, 0, 0, 0, 0, []),
  (32, .invokevirtual 123, 3, 124, 9, 947, 0, []),
  (35, .if_icmp .ne 9, 3, 26, 0, 0, 0, []),
  (38, .iinc 3 1, 3, 0, 0, 0, 0, []),
  (41, .goto (-26), 3, 10, 0, 0, 0, []),
  (44, .iload_n 3, 1, 0, 0, 0, 0, []),
  (45, .iload 4, 2, 0, 0, 0, 0, []),
  (47, .if_icmp .le 5, 3, 31, 0, 0, 0, []),
  (50, .iconst 0, 1, 0, 0, 0, 0, []),
  (51, .ireturn, 1, 0, 1, 0, 0, []),
  (52, .aload_n 0, 1, 0, 0, 0, 0, []),
  (53, .iload_n 1, 1, 0, 0, 0, 0, []),
  (54, .invokevirtual 89, 3, 123, 9, 916, 0, []),
  (57, .istore 5, 2, 0, 0, 0, 0, []),
  (59, .iconst 0, 1, 0, 0, 0, 0, []),
  (60, .aload_n 0, 1, 0, 0, 0, 0, []),
  (61, .iload_n 1, 1, 0, 0, 0, 0, []),
  (62, .aload_n 0, 1, 0, 0, 0, 0, []),
  (63, .getfield 83, 3, 9, 9, 791, 0, []),
  (66, .iadd, 1, 0, 0, 0, 0, []),
  (67, .iconst 1, 1, 0, 0, 0, 0, []),
  (68, .isub, 1, 0, 0, 0, 0, []),
  (69, .invokevirtual 89, 3, 123, 9, 916, 0, []),
  (72, .isub, 1, 0, 0, 0, 0, []),
  (73, .istore 6, 2, 0, 0, 0, 0, []),
  (75, .iconst 0, 1, 0, 0, 0, 0, []),
  (76, .aload_n 0, 1, 0, 0, 0, 0, []),
  (77, .iload_n 2, 1, 0, 0, 0, 0, []),
  (78, .aload_n 0, 1, 0, 0, 0, 0, []),
  (79, .getfield 86, 3, 9, 11, 793, 0, []),
  (82, .iadd, 1, 0, 0, 0, 0, []),
  (83, .iconst 1, 1, 0, 0, 0, 0, []),
  (84, .isub, 1, 0, 0, 0, 0, []),
  (85, .invokevirtual 123, 3, 124, 9, 947, 0, []),
  (88, .isub, 1, 0, 0, 0, 0, []),
  (89, .istore 7, 2, 0, 0, 0, 0, []),
  (91, .iconst 0, 1, 0, 0, 0, 0, []),
  (92, .aload_n 0, 1, 0, 0, 0, 0, []),
  (93, .iload_n 1, 1, 0, 0, 0, 0, []),
  (94, .iload_n 3, 1, 0, 0, 0, 0, []),
  (95, .iadd, 1, 0, 0, 0, 0, []),
  (96, .iconst 1, 1, 0, 0, 0, 0, []),
  (97, .isub, 1, 0, 0, 0, 0, []),
  (98, .invokevirtual 89, 3, 123, 9, 916, 0, []),
  (101, .isub, 1, 0, 0, 0, 0, []),
  (102, .istore 8, 2, 0, 0, 0, 0, []),
  (104, .aload_n 0, 1, 0, 0, 0, 0, []),
  (105, .iload 5, 2, 0, 0, 0, 0, []),
  (107, .iload 6, 2, 0, 0, 0, 0, []),
  (109, .iload 7, 2, 0, 0, 0, 0, []),
  (111, .invokevirtual 126, 3, 131, 9, 966, 0, []),
  (114, .aload_n 0, 1, 0, 0, 0, 0, []),
  (115, .iload 8, 2, 0, 0, 0, 0, []),
  (117, .aload_n 0, 1, 0, 0, 0, 0, []),
  (118, .iload_n 1, 1, 0, 0, 0, 0, []),
  (119, .iload_n 3, 1, 0, 0, 0, 0, []),
  (120, .iadd, 1, 0, 0, 0, 0, []),
  (121, .invokevirtual 89, 3, 123, 9, 916, 0, []),
  (124, .aload_n 0, 1, 0, 0, 0, 0, []),
  (125, .iload_n 2, 1, 0, 0, 0, 0, []),
  (126, .iload_n 3, 1, 0, 0, 0, 0, []),
  (127, .iadd, 1, 0, 0, 0, 0, []),
  (128, .invokevirtual 123, 3, 124, 9, 947, 0, []),
  (131, .invokevirtual 126, 3, 131, 9, 966, 0, []),
  (134, .if_icmp .ne 7, 3, 88, 0, 0, 0, []),
  (137, .iconst 1, 1, 0, 0, 0, 0, []),
  (138, .goto 4, 3, 89, 0, 0, 0, []),
  (141, .iconst 0, 1, 0, 0, 0, 0, []),
  (142, .ireturn, 1, 0, 1, 0, 0, [])]
def m_X9_meetAlong : am_M := (yX9_meetAlong, cX9_meetAlong, 9, some .boolean)
def t_X9_countMeetings : List ri_row := [(0, .iconst 0, 1, 0, 0, 0, 0, []),
  (1, .istore_n 2, 1, 0, 0, 0, 0, []),
  (2, .iconst 0, 1, 0, 0, 0, 0, []),
  (3, .istore_n 3, 1, 0, 0, 0, 0, []),
  (4, .iload_n 3, 1, 0, 0, 0, 0, []),
  (5, .aload_n 0, 1, 0, 0, 0, 0, []),
  (6, .getfield 83, 3, 9, 9, 791, 0, []),
  (9, .if_icmp .ge 145, 3, 85, 0, 0, 0, []),
  (12, .iconst 0, 1, 0, 0, 0, 0, []),
  (13, .istore 4, 2, 0, 0, 0, 0, []),
  (15, .iload 4, 2, 0, 0, 0, 0, []),
  (17, .aload_n 0, 1, 0, 0, 0, 0, []),
  (18, .getfield 86, 3, 9, 11, 793, 0, []),
  (21, .if_icmp .ge 127, 3, 83, 0, 0, 0, []),
  (24, .aload_n 0, 1, 0, 0, 0, 0, []),
  (25, .getfield 25, 3, 9, 8, 790, 0, []),
  (28, .iload_n 3, 1, 0, 0, 0, 0, []),
  (29, .iaload, 1, 0, 0, 0, 0, []),
  (30, .istore 5, 2, 0, 0, 0, 0, []),
  (32, .aload_n 0, 1, 0, 0, 0, 0, []),
  (33, .getfield 28, 3, 9, 10, 792, 0, []),
  (36, .iload 4, 2, 0, 0, 0, 0, []),
  (38, .iaload, 1, 0, 0, 0, 0, []),
  (39, .istore 6, 2, 0, 0, 0, 0, []),
  (41, .iconst 0, 1, 0, 0, 0, 0, []),
  (42, .aload_n 0, 1, 0, 0, 0, 0, []),
  (43, .iload_n 3, 1, 0, 0, 0, 0, []),
  (44, .aload_n 0, 1, 0, 0, 0, 0, []),
  (45, .getfield 83, 3, 9, 9, 791, 0, []),
  (48, .iadd, 1, 0, 0, 0, 0, []),
  (49, .iconst 1, 1, 0, 0, 0, 0, []),
  (50, .isub, 1, 0, 0, 0, 0, []),
  (51, .invokevirtual 89, 3, 123, 9, 916, 0, []),
  (54, .isub, 1, 0, 0, 0, 0, []),
  (55, .istore 7, 2, 0, 0, 0, 0, []),
  (57, .iconst 0, 1, 0, 0, 0, 0, []),
  (58, .aload_n 0, 1, 0, 0, 0, 0, []),
  (59, .iload 4, 2, 0, 0, 0, 0, []),
  (61, .aload_n 0, 1, 0, 0, 0, 0, []),
  (62, .getfield 86, 3, 9, 11, 793, 0, []),
  (65, .iadd, 1, 0, 0, 0, 0, []),
  (66, .iconst 1, 1, 0, 0, 0, 0, []),
  (67, .isub, 1, 0, 0, 0, 0, []),
  (68, .invokevirtual 123, 3, 124, 9, 947, 0, []),
  (71, .isub, 1, 0, 0, 0, 0, []),
  (72, .istore 8, 2, 0, 0, 0, 0, []),
  (74, .iload 5, 2, 0, 0, 0, 0, []),
  (76, .iload 6, 2, 0, 0, 0, 0, []),
  (78, .if_icmp .eq 36, 3, 66, 0, 0, 0, []),
  (81, .iload_n 2, 1, 0, 0, 0, 0, []),
  (82, .iload_n 1, 1, 0, 0, 0, 0, []),
  (83, .ifCond .eq 22, 3, 61, 0, 0, 0, []),
  (86, .aload_n 0, 1, 0, 0, 0, 0, []),
  (87, .iload 7, 2, 0, 0, 0, 0, []),
  (89, .iload 5, 2, 0, 0, 0, 0, []),
  (91, .iload 8, 2, 0, 0, 0, 0, []),
  (93, .iload 6, 2, 0, 0, 0, 0, []),
  (95, .invokevirtual 130, 3, 132, 9, 951, 0, []),
  (98, .ifCond .eq 7, 3, 61, 0, 0, 0, []),
  (101, .iconst 1, 1, 0, 0, 0, 0, []),
  (102, .goto 4, 3, 62, 0, 0, 0, []),
  (105, .iconst 0, 1, 0, 0, 0, 0, []),
  (106, .invokestatic 112, 3, 111, 0, 924, 0, []),
  (109, .iadd, 1, 0, 0, 0, 0, []),
  (110, .istore_n 2, 1, 0, 0, 0, 0, []),
  (111, .goto 31, 3, 81, 0, 0, 0, []),
  (114, .iload_n 2, 1, 0, 0, 0, 0, []),
  (115, .iload 7, 2, 0, 0, 0, 0, []),
  (117, .iload 8, 2, 0, 0, 0, 0, []),
  (119, .if_icmp .eq 17, 3, 77, 0, 0, 0, []),
  (122, .aload_n 0, 1, 0, 0, 0, 0, []),
  (123, .iload_n 3, 1, 0, 0, 0, 0, []),
  (124, .iload 4, 2, 0, 0, 0, 0, []),
  (126, .invokevirtual 134, 3, 133, 9, 962, 0, []),
  (129, .ifCond .eq 7, 3, 77, 0, 0, 0, []),
  (132, .iconst 1, 1, 0, 0, 0, 0, []),
  (133, .goto 4, 3, 78, 0, 0, 0, []),
  (136, .iconst 0, 1, 0, 0, 0, 0, []),
  (137, .invokestatic 112, 3, 111, 0, 924, 0, []),
  (140, .iadd, 1, 0, 0, 0, 0, []),
  (141, .istore_n 2, 1, 0, 0, 0, 0, []),
  (142, .iinc 4 1, 3, 0, 0, 0, 0, []),
  (145, .goto (-130), 3, 10, 0, 0, 0, []),
  (148, .iinc 3 1, 3, 0, 0, 0, 0, []),
  (151, .goto (-147), 3, 4, 0, 0, 0, []),
  (154, .iload_n 2, 1, 0, 0, 0, 0, []),
  (155, .ireturn, 1, 0, 0, 0, 0, [])]
def m_X9_countMeetings : am_M := (yX9_countMeetings, cX9_countMeetings, 9, some .int)
def t_X9_meetings : List ri_row := [(0, .aload_n 0, 1, 0, 0, 0, 0, []),
  (1, .iconst 1, 1, 0, 0, 0, 0, []),
  (2, .invokevirtual 138, 3, 134, 9, 943, 0, []),
  (5, .istore_n 1, 1, 0, 0, 0, 0, []),
  (6, .aload_n 0, 1, 0, 0, 0, 0, []),
  (7, .invokevirtual 97, 3, 122, 9, 920, 0, []),
  (10, .iload_n 1, 1, 0, 0, 0, 0, []),
  (11, .aload_n 0, 1, 0, 0, 0, 0, []),
  (12, .iconst 0, 1, 0, 0, 0, 0, []),
  (13, .invokevirtual 138, 3, 134, 9, 943, 0, []),
  (16, .iadd, 1, 0, 0, 0, 0, []),
  (17, .ireturn, 1, 0, 0, 0, 0, [])]
def m_X9_meetings : am_M := (yX9_meetings, cX9_meetings, 2, some .int)
def t_X9_meetingsOf : List ri_row := [(0, .aload_n 0, 1, 0, 0, 0, 0, []),
  (1, .iload_n 1, 1, 0, 0, 0, 0, []),
  (2, .invokevirtual 103, 3, 120, 9, 900, 0, []),
  (5, .aload_n 0, 1, 0, 0, 0, 0, []),
  (6, .iload_n 2, 1, 0, 0, 0, 0, []),
  (7, .invokevirtual 106, 3, 121, 9, 904, 0, []),
  (10, .aload_n 0, 1, 0, 0, 0, 0, []),
  (11, .invokevirtual 141, 3, 135, 9, 939, 0, []),
  (14, .ireturn, 1, 0, 0, 0, 0, [])]
def m_X9_meetingsOf : am_M := (yX9_meetingsOf, cX9_meetingsOf, 3, some .int)
def t_X9_isSimple : List ri_row := [(0, .aload_n 0, 1, 0, 0, 0, 0, []),
  (1, .iload_n 1, 1, 0, 0, 0, 0, []),
  (2, .invokevirtual 145, 3, 128, 9, 931, 0, []),
  (5, .ifCond .ne 16, 3, 11, 0, 0, 0, []),
  (8, .aload_n 0, 1, 0, 0, 0, 0, []),
  (9, .iload_n 1, 1, 0, 0, 0, 0, []),
  (10, .iload_n 1, 1, 0, 0, 0, 0, []),
  (11, .invokevirtual 148, 3, 136, 9, 935, 0, []),
  (14, .ifCond .ne 7, 3, 11, 0, 0, 0, []),
  (17, .iconst 1, 1, 0, 0, 0, 0, []),
  (18, .goto 4, 3, 12, 0, 0, 0, []),
  (21, .iconst 0, 1, 0, 0, 0, 0, []),
  (22, .ireturn, 1, 0, 1, 0, 0, [])]
def m_X9_isSimple : am_M := (yX9_isSimple, cX9_isSimple, 2, some .boolean)
def t_X9_meets : List ri_row := [(0, .aload_n 0, 1, 0, 0, 0, 0, []),
  (1, .iload_n 1, 1, 0, 0, 0, 0, []),
  (2, .invokevirtual 100, 3, 118, 9, 896, 0, []),
  (5, .ifCond .ne 11, 3, 8, 0, 0, 0, []),
  (8, .aload_n 0, 1, 0, 0, 0, 0, []),
  (9, .iload_n 2, 1, 0, 0, 0, 0, []),
  (10, .invokevirtual 100, 3, 118, 9, 896, 0, []),
  (13, .ifCond .eq 7, 3, 10, 0, 0, 0, []),
  (16, .sipush (-1001), 3, 0, 0, 0, 0, []),
  (19, .ireturn, 1, 0, 0, 0, 0, []),
  (20, .aload_n 0, 1, 0, 0, 0, 0, []),
  (21, .iload_n 1, 1, 0, 0, 0, 0, []),
  (22, .invokevirtual 145, 3, 128, 9, 931, 0, []),
  (25, .ifCond .ne 11, 3, 18, 0, 0, 0, []),
  (28, .aload_n 0, 1, 0, 0, 0, 0, []),
  (29, .iload_n 2, 1, 0, 0, 0, 0, []),
  (30, .invokevirtual 145, 3, 128, 9, 931, 0, []),
  (33, .ifCond .eq 9, 3, 20, 0, 0, 0, []),
  (36, .sipush (-1003), 3, 0, 0, 0, 0, []),
  (39, .goto 9, 3, 24, 0, 0, 0, []),
  (42, .aload_n 0, 1, 0, 0, 0, 0, []),
  (43, .iload_n 1, 1, 0, 0, 0, 0, []),
  (44, .iload_n 2, 1, 0, 0, 0, 0, []),
  (45, .invokevirtual 148, 3, 136, 9, 935, 0, []),
  (48, .ireturn, 1, 0, 0, 0, 0, [])]
def m_X9_meets : am_M := (yX9_meets, cX9_meets, 3, some .int)
def t_X9_told : List ri_row := [(0, .aload_n 0, 1, 0, 0, 0, 0, []),
  (1, .iload_n 1, 1, 0, 0, 0, 0, []),
  (2, .invokevirtual 100, 3, 118, 9, 896, 0, []),
  (5, .ifCond .eq 7, 3, 6, 0, 0, 0, []),
  (8, .sipush (-1001), 3, 0, 0, 0, 0, []),
  (11, .ireturn, 1, 0, 0, 0, 0, []),
  (12, .iload_n 2, 1, 0, 0, 0, 0, []),
  (13, .tableswitch 96 0 3 #[31, 38, 47, 68], 31, 47, 0, 0, 0, [8, 13, 18, 31]),
  (44, .aload_n 0, 1, 0, 0, 0, 0, []),
  (45, .getfield 13, 3, 9, 4, 786, 0, []),
  (48, .iload_n 1, 1, 0, 0, 0, 0, []),
  (49, .iaload, 1, 0, 0, 0, 0, []),
  (50, .ireturn, 1, 0, 0, 0, 0, []),
  (51, .aload_n 0, 1, 0, 0, 0, 0, []),
  (52, .iload_n 1, 1, 0, 0, 0, 0, []),
  (53, .invokevirtual 145, 3, 128, 9, 931, 0, []),
  (56, .invokestatic 112, 3, 111, 0, 924, 0, []),
  (59, .ireturn, 1, 0, 0, 0, 0, []),
  (60, .aload_n 0, 1, 0, 0, 0, 0, []),
  (61, .iload_n 1, 1, 0, 0, 0, 0, []),
  (62, .invokevirtual 145, 3, 128, 9, 931, 0, []),
  (65, .ifCond .eq 7, 3, 24, 0, 0, 0, []),
  (68, .iconst (-1), 1, 0, 0, 0, 0, []),
  (69, .goto 11, 3, 30, 0, 0, 0, []),
  (72, .aload_n 0, 1, 0, 0, 0, 0, []),
  (73, .iload_n 1, 1, 0, 0, 0, 0, []),
  (74, .iload_n 1, 1, 0, 0, 0, 0, []),
  (75, .invokevirtual 148, 3, 136, 9, 935, 0, []),
  (78, .iconst 2, 1, 0, 0, 0, 0, []),
  (79, .idiv, 1, 0, 0, 0, 0, []),
  (80, .ireturn, 1, 0, 0, 0, 0, []),
  (81, .aload_n 0, 1, 0, 0, 0, 0, []),
  (82, .iload_n 1, 1, 0, 0, 0, 0, []),
  (83, .invokevirtual 145, 3, 128, 9, 931, 0, []),
  (86, .ifCond .ne 18, 3, 44, 0, 0, 0, []),
  (89, .aload_n 0, 1, 0, 0, 0, 0, []),
  (90, .iload_n 1, 1, 0, 0, 0, 0, []),
  (91, .iload_n 1, 1, 0, 0, 0, 0, []),
  (92, .invokevirtual 148, 3, 136, 9, 935, 0, []),
  (95, .iconst 2, 1, 0, 0, 0, 0, []),
  (96, .idiv, 1, 0, 0, 0, 0, []),
  (97, .ifCond .ne 7, 3, 44, 0, 0, 0, []),
  (100, .iconst 1, 1, 0, 0, 0, 0, []),
  (101, .goto 4, 3, 45, 0, 0, 0, []),
  (104, .iconst 0, 1, 0, 0, 0, 0, []),
  (105, .invokestatic 112, 3, 111, 0, 924, 0, []),
  (108, .ireturn, 1, 0, 0, 0, 0, []),
  (109, .sipush (-1002), 3, 0, 0, 0, 0, []),
  (112, .ireturn, 1, 0, 0, 0, 0, [])]
def m_X9_told : am_M := (yX9_told, cX9_told, 3, some .int)
def t_X9_at : List ri_row := [(0, .aload_n 0, 1, 0, 0, 0, 0, []),
  (1, .iload_n 1, 1, 0, 0, 0, 0, []),
  (2, .invokevirtual 100, 3, 118, 9, 896, 0, []),
  (5, .ifCond .eq 7, 3, 6, 0, 0, 0, []),
  (8, .sipush (-1001), 3, 0, 0, 0, 0, []),
  (11, .ireturn, 1, 0, 0, 0, 0, []),
  (12, .iload_n 2, 1, 0, 0, 0, 0, []),
  (13, .i2l, 1, 0, 0, 0, 0, []),
  (14, .lconst 0, 1, 0, 0, 0, 0, []),
  (15, .aload_n 0, 1, 0, 0, 0, 0, []),
  (16, .getfield 13, 3, 9, 4, 786, 0, []),
  (19, .iload_n 1, 1, 0, 0, 0, 0, []),
  (20, .iaload, 1, 0, 0, 0, 0, []),
  (21, .iconst 1, 1, 0, 0, 0, 0, []),
  (22, .isub, 1, 0, 0, 0, 0, []),
  (23, .i2l, 1, 0, 0, 0, 0, []),
  (24, .invokestatic 75, 3, 110, 0, 873, 0, []),
  (27, .ifCond .eq 17, 3, 27, 0, 0, 0, []),
  (30, .aload_n 0, 1, 0, 0, 0, 0, []),
  (31, .getfield 16, 3, 9, 5, 787, 0, []),
  (34, .bipush 60, 2, 0, 0, 0, 0, []),
  (36, .iload_n 1, 1, 0, 0, 0, 0, []),
  (37, .imul, 1, 0, 0, 0, 0, []),
  (38, .iload_n 2, 1, 0, 0, 0, 0, []),
  (39, .iadd, 1, 0, 0, 0, 0, []),
  (40, .iaload, 1, 0, 0, 0, 0, []),
  (41, .goto 4, 3, 28, 0, 0, 0, []),
  (44, .iconst (-1), 1, 0, 0, 0, 0, []),
  (45, .ireturn, 1, 0, 0, 0, 0, [])]
def m_X9_at : am_M := (yX9_at, cX9_at, 3, some .int)
def t_X9_heap : List ri_row := [(0, .iload_n 1, 1, 0, 0, 0, 0, []),
  (1, .ifCond .lt 12, 3, 7, 0, 0, 0, []),
  (4, .iload_n 1, 1, 0, 0, 0, 0, []),
  (5, .aload_n 0, 1, 0, 0, 0, 0, []),
  (6, .getfield 70, 3, 9, 3, 785, 0, []),
  (9, .ishr, 1, 0, 0, 0, 0, []),
  (10, .ifCond .eq 7, 3, 9, 0, 0, 0, []),
  (13, .sipush (-1001), 3, 0, 0, 0, 0, []),
  (16, .ireturn, 1, 0, 0, 0, 0, []),
  (17, .iconst 0, 1, 0, 0, 0, 0, []),
  (18, .istore_n 2, 1, 0, 0, 0, 0, []),
  (19, .iload_n 2, 1, 0, 0, 0, 0, []),
  (20, .aload_n 0, 1, 0, 0, 0, 0, []),
  (21, .getfield 70, 3, 9, 3, 785, 0, []),
  (24, .if_icmp .ge 92, 3, 70, 0, 0, 0, []),
  (27, .iload_n 1, 1, 0, 0, 0, 0, []),
  (28, .iload_n 2, 1, 0, 0, 0, 0, []),
  (29, .ishr, 1, 0, 0, 0, 0, []),
  (30, .iconst 1, 1, 0, 0, 0, 0, []),
  (31, .iand, 1, 0, 0, 0, 0, []),
  (32, .iconst 1, 1, 0, 0, 0, 0, []),
  (33, .if_icmp .ne 77, 3, 68, 0, 0, 0, []),
  (36, .aload_n 0, 1, 0, 0, 0, 0, []),
  (37, .iload_n 2, 1, 0, 0, 0, 0, []),
  (38, .invokevirtual 151, 3, 137, 9, 982, 0, []),
  (41, .ifCond .ne 8, 3, 30, 0, 0, 0, []),
  (44, .bipush 14, 2, 0, 0, 0, 0, []),
  (46, .iload_n 2, 1, 0, 0, 0, 0, []),
  (47, .imul, 1, 0, 0, 0, 0, []),
  (48, .ireturn, 1, 0, 0, 0, 0, []),
  (49, .iload_n 2, 1, 0, 0, 0, 0, []),
  (50, .iconst 1, 1, 0, 0, 0, 0, []),
  (51, .iadd, 1, 0, 0, 0, 0, []),
  (52, .istore_n 3, 1, 0, 0, 0, 0, []),
  (53, .iload_n 3, 1, 0, 0, 0, 0, []),
  (54, .aload_n 0, 1, 0, 0, 0, 0, []),
  (55, .getfield 70, 3, 9, 3, 785, 0, []),
  (58, .if_icmp .ge 52, 3, 68, 0, 0, 0, []),
  (61, .iload_n 1, 1, 0, 0, 0, 0, []),
  (62, .iload_n 3, 1, 0, 0, 0, 0, []),
  (63, .ishr, 1, 0, 0, 0, 0, []),
  (64, .iconst 1, 1, 0, 0, 0, 0, []),
  (65, .iand, 1, 0, 0, 0, 0, []),
  (66, .iconst 1, 1, 0, 0, 0, 0, []),
  (67, .if_icmp .ne 37, 3, 66, 0, 0, 0, []),
  (70, .aload_n 0, 1, 0, 0, 0, 0, []),
  (71, .iload_n 3, 1, 0, 0, 0, 0, []),
  (72, .invokevirtual 151, 3, 137, 9, 982, 0, []),
  (75, .ifCond .eq 29, 3, 66, 0, 0, 0, []),
  (78, .aload_n 0, 1, 0, 0, 0, 0, []),
  (79, .iload_n 2, 1, 0, 0, 0, 0, []),
  (80, .iload_n 3, 1, 0, 0, 0, 0, []),
  (81, .invokevirtual 154, 3, 127, 9, 986, 0, []),
  (84, .iconst 1, 1, 0, 0, 0, 0, []),
  (85, .if_icmp .eq 12, 3, 60, 0, 0, 0, []),
  (88, .aload_n 0, 1, 0, 0, 0, 0, []),
  (89, .iload_n 2, 1, 0, 0, 0, 0, []),
  (90, .iload_n 3, 1, 0, 0, 0, 0, []),
  (91, .invokevirtual 148, 3, 136, 9, 935, 0, []),
  (94, .ifCond .le 10, 3, 66, 0, 0, 0, []),
  (97, .bipush 13, 2, 0, 0, 0, 0, []),
  (99, .iload_n 2, 1, 0, 0, 0, 0, []),
  (100, .imul, 1, 0, 0, 0, 0, []),
  (101, .iload_n 3, 1, 0, 0, 0, 0, []),
  (102, .iadd, 1, 0, 0, 0, 0, []),
  (103, .ireturn, 1, 0, 0, 0, 0, []),
  (104, .iinc 3 1, 3, 0, 0, 0, 0, []),
  (107, .goto (-54), 3, 34, 0, 0, 0, []),
  (110, .iinc 2 1, 3, 0, 0, 0, 0, []),
  (113, .goto (-94), 3, 11, 0, 0, 0, []),
  (116, .iconst (-1), 1, 0, 0, 0, 0, []),
  (117, .ireturn, 1, 0, 0, 0, 0, [])]
def m_X9_heap : am_M := (yX9_heap, cX9_heap, 4, some .int)
def t_X9_put : List ri_row := [(0, .aload_n 0, 1, 0, 0, 0, 0, []),
  (1, .getfield 157, 3, 9, 15, 797, 0, []),
  (4, .ifCond .le 33, 3, 21, 0, 0, 0, []),
  (7, .aload_n 0, 1, 0, 0, 0, 0, []),
  (8, .getfield 34, 3, 9, 14, 796, 0, []),
  (11, .aload_n 0, 1, 0, 0, 0, 0, []),
  (12, .getfield 157, 3, 9, 15, 797, 0, []),
  (15, .iconst 1, 1, 0, 0, 0, 0, []),
  (16, .isub, 1, 0, 0, 0, 0, []),
  (17, .iaload, 1, 0, 0, 0, 0, []),
  (18, .iconst 0, 1, 0, 0, 0, 0, []),
  (19, .iload_n 1, 1, 0, 0, 0, 0, []),
  (20, .isub, 1, 0, 0, 0, 0, []),
  (21, .if_icmp .ne 16, 3, 21, 0, 0, 0, []),
  (24, .aload_n 0, 1, 0, 0, 0, 0, []),
  (25, .dup, 1, 0, 0, 0, 0, []),
  (26, .getfield 157, 3, 9, 15, 797, 0, []),
  (29, .iconst 1, 1, 0, 0, 0, 0, []),
  (30, .isub, 1, 0, 0, 0, 0, []),
  (31, .putfield 157, 3, 9, 15, 797, 0, []),
  (34, .goto 23, 3, 33, 0, 0, 0, []),
  (37, .aload_n 0, 1, 0, 0, 0, 0, []),
  (38, .getfield 34, 3, 9, 14, 796, 0, []),
  (41, .aload_n 0, 1, 0, 0, 0, 0, []),
  (42, .getfield 157, 3, 9, 15, 797, 0, []),
  (45, .iload_n 1, 1, 0, 0, 0, 0, []),
  (46, .iastore, 1, 0, 0, 0, 0, []),
  (47, .aload_n 0, 1, 0, 0, 0, 0, []),
  (48, .dup, 1, 0, 0, 0, 0, []),
  (49, .getfield 157, 3, 9, 15, 797, 0, []),
  (52, .iconst 1, 1, 0, 0, 0, 0, []),
  (53, .iadd, 1, 0, 0, 0, 0, []),
  (54, .putfield 157, 3, 9, 15, 797, 0, []),
  (57, .return_, 1, 0, 0, 0, 0, [])]
def m_X9_put : am_M := (yX9_put, cX9_put, 2, none)
def t_X9_putC : List ri_row := [(0, .iconst 2, 1, 0, 0, 0, 0, []),
  (1, .iload_n 1, 1, 0, 0, 0, 0, []),
  (2, .imul, 1, 0, 0, 0, 0, []),
  (3, .iconst 1, 1, 0, 0, 0, 0, []),
  (4, .iadd, 1, 0, 0, 0, 0, []),
  (5, .istore_n 3, 1, 0, 0, 0, 0, []),
  (6, .iconst 2, 1, 0, 0, 0, 0, []),
  (7, .iload_n 1, 1, 0, 0, 0, 0, []),
  (8, .imul, 1, 0, 0, 0, 0, []),
  (9, .iconst 2, 1, 0, 0, 0, 0, []),
  (10, .iadd, 1, 0, 0, 0, 0, []),
  (11, .istore 4, 2, 0, 0, 0, 0, []),
  (13, .iconst 2, 1, 0, 0, 0, 0, []),
  (14, .iload_n 1, 1, 0, 0, 0, 0, []),
  (15, .imul, 1, 0, 0, 0, 0, []),
  (16, .iconst 3, 1, 0, 0, 0, 0, []),
  (17, .iadd, 1, 0, 0, 0, 0, []),
  (18, .istore 5, 2, 0, 0, 0, 0, []),
  (20, .iload_n 2, 1, 0, 0, 0, 0, []),
  (21, .ifCond .eq 33, 3, 37, 0, 0, 0, []),
  (24, .aload_n 0, 1, 0, 0, 0, 0, []),
  (25, .iconst 0, 1, 0, 0, 0, 0, []),
  (26, .iload 5, 2, 0, 0, 0, 0, []),
  (28, .isub, 1, 0, 0, 0, 0, []),
  (29, .invokevirtual 160, 3, 142, 9, 1064, 0, []),
  (32, .aload_n 0, 1, 0, 0, 0, 0, []),
  (33, .iload 4, 2, 0, 0, 0, 0, []),
  (35, .invokevirtual 160, 3, 142, 9, 1064, 0, []),
  (38, .aload_n 0, 1, 0, 0, 0, 0, []),
  (39, .iload_n 3, 1, 0, 0, 0, 0, []),
  (40, .invokevirtual 160, 3, 142, 9, 1064, 0, []),
  (43, .aload_n 0, 1, 0, 0, 0, 0, []),
  (44, .iconst 0, 1, 0, 0, 0, 0, []),
  (45, .iload 4, 2, 0, 0, 0, 0, []),
  (47, .isub, 1, 0, 0, 0, 0, []),
  (48, .invokevirtual 160, 3, 142, 9, 1064, 0, []),
  (51, .goto 30, 3, 53, 0, 0, 0, []),
  (54, .aload_n 0, 1, 0, 0, 0, 0, []),
  (55, .iload 4, 2, 0, 0, 0, 0, []),
  (57, .invokevirtual 160, 3, 142, 9, 1064, 0, []),
  (60, .aload_n 0, 1, 0, 0, 0, 0, []),
  (61, .iconst 0, 1, 0, 0, 0, 0, []),
  (62, .iload_n 3, 1, 0, 0, 0, 0, []),
  (63, .isub, 1, 0, 0, 0, 0, []),
  (64, .invokevirtual 160, 3, 142, 9, 1064, 0, []),
  (67, .aload_n 0, 1, 0, 0, 0, 0, []),
  (68, .iconst 0, 1, 0, 0, 0, 0, []),
  (69, .iload 4, 2, 0, 0, 0, 0, []),
  (71, .isub, 1, 0, 0, 0, 0, []),
  (72, .invokevirtual 160, 3, 142, 9, 1064, 0, []),
  (75, .aload_n 0, 1, 0, 0, 0, 0, []),
  (76, .iload 5, 2, 0, 0, 0, 0, []),
  (78, .invokevirtual 160, 3, 142, 9, 1064, 0, []),
  (81, .return_, 1, 0, 0, 0, 0, [])]
def m_X9_putC : am_M := (yX9_putC, cX9_putC, 6, none)
def t_X9_putImage : List ri_row := [(0, .iload_n 1, 1, 0, 0, 0, 0, []),
  (1, .aload_n 0, 1, 0, 0, 0, 0, []),
  (2, .getfield 64, 3, 9, 0, 782, 0, []),
  (5, .if_icmp .ge 7, 3, 6, 0, 0, 0, []),
  (8, .iconst 0, 1, 0, 0, 0, 0, []),
  (9, .goto 18, 3, 15, 0, 0, 0, []),
  (12, .iload_n 1, 1, 0, 0, 0, 0, []),
  (13, .iconst 2, 1, 0, 0, 0, 0, []),
  (14, .aload_n 0, 1, 0, 0, 0, 0, []),
  (15, .getfield 64, 3, 9, 0, 782, 0, []),
  (18, .imul, 1, 0, 0, 0, 0, []),
  (19, .if_icmp .ge 7, 3, 14, 0, 0, 0, []),
  (22, .iconst 1, 1, 0, 0, 0, 0, []),
  (23, .goto 4, 3, 15, 0, 0, 0, []),
  (26, .iconst 2, 1, 0, 0, 0, 0, []),
  (27, .istore 5, 2, 0, 0, 0, 0, []),
  (29, .iload_n 1, 1, 0, 0, 0, 0, []),
  (30, .iload 5, 2, 0, 0, 0, 0, []),
  (32, .aload_n 0, 1, 0, 0, 0, 0, []),
  (33, .getfield 64, 3, 9, 0, 782, 0, []),
  (36, .imul, 1, 0, 0, 0, 0, []),
  (37, .isub, 1, 0, 0, 0, 0, []),
  (38, .istore 6, 2, 0, 0, 0, 0, []),
  (40, .iconst 2, 1, 0, 0, 0, 0, []),
  (41, .iload 6, 2, 0, 0, 0, 0, []),
  (43, .imul, 1, 0, 0, 0, 0, []),
  (44, .iconst 1, 1, 0, 0, 0, 0, []),
  (45, .iadd, 1, 0, 0, 0, 0, []),
  (46, .istore 7, 2, 0, 0, 0, 0, []),
  (48, .iconst 2, 1, 0, 0, 0, 0, []),
  (49, .iload 6, 2, 0, 0, 0, 0, []),
  (51, .imul, 1, 0, 0, 0, 0, []),
  (52, .iconst 2, 1, 0, 0, 0, 0, []),
  (53, .iadd, 1, 0, 0, 0, 0, []),
  (54, .istore 8, 2, 0, 0, 0, 0, []),
  (56, .iload 5, 2, 0, 0, 0, 0, []),
  (58, .ifCond .ne 63, 3, 67, 0, 0, 0, []),
  (61, .iload_n 3, 1, 0, 0, 0, 0, []),
  (62, .iload 8, 2, 0, 0, 0, 0, []),
  (64, .if_icmp .ne 57, 3, 67, 0, 0, 0, []),
  (67, .iload_n 2, 1, 0, 0, 0, 0, []),
  (68, .ifCond .eq 10, 3, 46, 0, 0, 0, []),
  (71, .iconst 0, 1, 0, 0, 0, 0, []),
  (72, .iload 7, 2, 0, 0, 0, 0, []),
  (74, .isub, 1, 0, 0, 0, 0, []),
  (75, .goto 5, 3, 47, 0, 0, 0, []),
  (78, .iload 7, 2, 0, 0, 0, 0, []),
  (80, .istore 9, 2, 0, 0, 0, 0, []),
  (82, .aload_n 0, 1, 0, 0, 0, 0, []),
  (83, .iload 4, 2, 0, 0, 0, 0, []),
  (85, .ifCond .eq 10, 3, 55, 0, 0, 0, []),
  (88, .iconst 0, 1, 0, 0, 0, 0, []),
  (89, .iload 9, 2, 0, 0, 0, 0, []),
  (91, .isub, 1, 0, 0, 0, 0, []),
  (92, .goto 5, 3, 56, 0, 0, 0, []),
  (95, .iload 8, 2, 0, 0, 0, 0, []),
  (97, .invokevirtual 160, 3, 142, 9, 1064, 0, []),
  (100, .aload_n 0, 1, 0, 0, 0, 0, []),
  (101, .iload 4, 2, 0, 0, 0, 0, []),
  (103, .ifCond .eq 10, 3, 64, 0, 0, 0, []),
  (106, .iconst 0, 1, 0, 0, 0, 0, []),
  (107, .iload 8, 2, 0, 0, 0, 0, []),
  (109, .isub, 1, 0, 0, 0, 0, []),
  (110, .goto 5, 3, 65, 0, 0, 0, []),
  (113, .iload 9, 2, 0, 0, 0, 0, []),
  (115, .invokevirtual 160, 3, 142, 9, 1064, 0, []),
  (118, .goto 258, 3, 201, 0, 0, 0, []),
  (121, .iload 5, 2, 0, 0, 0, 0, []),
  (123, .iconst 1, 1, 0, 0, 0, 0, []),
  (124, .if_icmp .ne 63, 3, 100, 0, 0, 0, []),
  (127, .iload_n 3, 1, 0, 0, 0, 0, []),
  (128, .iload 7, 2, 0, 0, 0, 0, []),
  (130, .if_icmp .ne 57, 3, 100, 0, 0, 0, []),
  (133, .iload_n 2, 1, 0, 0, 0, 0, []),
  (134, .ifCond .eq 8, 3, 77, 0, 0, 0, []),
  (137, .iload 8, 2, 0, 0, 0, 0, []),
  (139, .goto 7, 3, 80, 0, 0, 0, []),
  (142, .iconst 0, 1, 0, 0, 0, 0, []),
  (143, .iload 8, 2, 0, 0, 0, 0, []),
  (145, .isub, 1, 0, 0, 0, 0, []),
  (146, .istore 9, 2, 0, 0, 0, 0, []),
  (148, .aload_n 0, 1, 0, 0, 0, 0, []),
  (149, .iload 4, 2, 0, 0, 0, 0, []),
  (151, .ifCond .eq 10, 3, 88, 0, 0, 0, []),
  (154, .iconst 0, 1, 0, 0, 0, 0, []),
  (155, .iload 9, 2, 0, 0, 0, 0, []),
  (157, .isub, 1, 0, 0, 0, 0, []),
  (158, .goto 5, 3, 89, 0, 0, 0, []),
  (161, .iload 7, 2, 0, 0, 0, 0, []),
  (163, .invokevirtual 160, 3, 142, 9, 1064, 0, []),
  (166, .aload_n 0, 1, 0, 0, 0, 0, []),
  (167, .iload 4, 2, 0, 0, 0, 0, []),
  (169, .ifCond .eq 10, 3, 97, 0, 0, 0, []),
  (172, .iconst 0, 1, 0, 0, 0, 0, []),
  (173, .iload 7, 2, 0, 0, 0, 0, []),
  (175, .isub, 1, 0, 0, 0, 0, []),
  (176, .goto 5, 3, 98, 0, 0, 0, []),
  (179, .iload 9, 2, 0, 0, 0, 0, []),
  (181, .invokevirtual 160, 3, 142, 9, 1064, 0, []),
  (184, .goto 192, 3, 201, 0, 0, 0, []),
  (187, .iload 5, 2, 0, 0, 0, 0, []),
  (189, .iconst 2, 1, 0, 0, 0, 0, []),
  (190, .if_icmp .ne 56, 3, 130, 0, 0, 0, []),
  (193, .iload_n 3, 1, 0, 0, 0, 0, []),
  (194, .iload 8, 2, 0, 0, 0, 0, []),
  (196, .if_icmp .ne 50, 3, 130, 0, 0, 0, []),
  (199, .iload 4, 2, 0, 0, 0, 0, []),
  (201, .ifCond .eq 21, 3, 118, 0, 0, 0, []),
  (204, .aload_n 0, 1, 0, 0, 0, 0, []),
  (205, .iconst 0, 1, 0, 0, 0, 0, []),
  (206, .iload 8, 2, 0, 0, 0, 0, []),
  (208, .isub, 1, 0, 0, 0, 0, []),
  (209, .invokevirtual 160, 3, 142, 9, 1064, 0, []),
  (212, .aload_n 0, 1, 0, 0, 0, 0, []),
  (213, .iload 6, 2, 0, 0, 0, 0, []),
  (215, .iload_n 2, 1, 0, 0, 0, 0, []),
  (216, .invokevirtual 163, 3, 143, 9, 1068, 0, []),
  (219, .goto 157, 3, 201, 0, 0, 0, []),
  (222, .aload_n 0, 1, 0, 0, 0, 0, []),
  (223, .iload 6, 2, 0, 0, 0, 0, []),
  (225, .iload_n 2, 1, 0, 0, 0, 0, []),
  (226, .ifCond .ne 7, 3, 124, 0, 0, 0, []),
  (229, .iconst 1, 1, 0, 0, 0, 0, []),
  (230, .goto 4, 3, 125, 0, 0, 0, []),
  (233, .iconst 0, 1, 0, 0, 0, 0, []),
  (234, .invokevirtual 163, 3, 143, 9, 1068, 0, []),
  (237, .aload_n 0, 1, 0, 0, 0, 0, []),
  (238, .iload 8, 2, 0, 0, 0, 0, []),
  (240, .invokevirtual 160, 3, 142, 9, 1064, 0, []),
  (243, .goto 133, 3, 201, 0, 0, 0, []),
  (246, .iload 5, 2, 0, 0, 0, 0, []),
  (248, .iconst 2, 1, 0, 0, 0, 0, []),
  (249, .if_icmp .ne 52, 3, 160, 0, 0, 0, []),
  (252, .iload_n 3, 1, 0, 0, 0, 0, []),
  (253, .iload 8, 2, 0, 0, 0, 0, []),
  (255, .iconst 1, 1, 0, 0, 0, 0, []),
  (256, .iadd, 1, 0, 0, 0, 0, []),
  (257, .if_icmp .ne 44, 3, 160, 0, 0, 0, []),
  (260, .aload_n 0, 1, 0, 0, 0, 0, []),
  (261, .iload 6, 2, 0, 0, 0, 0, []),
  (263, .iload_n 2, 1, 0, 0, 0, 0, []),
  (264, .ifCond .ne 7, 3, 144, 0, 0, 0, []),
  (267, .iconst 1, 1, 0, 0, 0, 0, []),
  (268, .goto 4, 3, 145, 0, 0, 0, []),
  (271, .iconst 0, 1, 0, 0, 0, 0, []),
  (272, .invokevirtual 163, 3, 143, 9, 1068, 0, []),
  (275, .aload_n 0, 1, 0, 0, 0, 0, []),
  (276, .iload 4, 2, 0, 0, 0, 0, []),
  (278, .ifCond .eq 9, 3, 153, 0, 0, 0, []),
  (281, .iconst 0, 1, 0, 0, 0, 0, []),
  (282, .iload_n 3, 1, 0, 0, 0, 0, []),
  (283, .isub, 1, 0, 0, 0, 0, []),
  (284, .goto 4, 3, 154, 0, 0, 0, []),
  (287, .iload_n 3, 1, 0, 0, 0, 0, []),
  (288, .invokevirtual 160, 3, 142, 9, 1064, 0, []),
  (291, .aload_n 0, 1, 0, 0, 0, 0, []),
  (292, .iload 6, 2, 0, 0, 0, 0, []),
  (294, .iload_n 2, 1, 0, 0, 0, 0, []),
  (295, .invokevirtual 163, 3, 143, 9, 1068, 0, []),
  (298, .goto 78, 3, 201, 0, 0, 0, []),
  (301, .iload 5, 2, 0, 0, 0, 0, []),
  (303, .iconst 2, 1, 0, 0, 0, 0, []),
  (304, .if_icmp .ne 56, 3, 192, 0, 0, 0, []),
  (307, .iload_n 3, 1, 0, 0, 0, 0, []),
  (308, .iload 8, 2, 0, 0, 0, 0, []),
  (310, .iconst 2, 1, 0, 0, 0, 0, []),
  (311, .iadd, 1, 0, 0, 0, 0, []),
  (312, .if_icmp .ne 48, 3, 192, 0, 0, 0, []),
  (315, .iload 4, 2, 0, 0, 0, 0, []),
  (317, .ifCond .eq 28, 3, 184, 0, 0, 0, []),
  (320, .aload_n 0, 1, 0, 0, 0, 0, []),
  (321, .iload 6, 2, 0, 0, 0, 0, []),
  (323, .iload_n 2, 1, 0, 0, 0, 0, []),
  (324, .ifCond .ne 7, 3, 176, 0, 0, 0, []),
  (327, .iconst 1, 1, 0, 0, 0, 0, []),
  (328, .goto 4, 3, 177, 0, 0, 0, []),
  (331, .iconst 0, 1, 0, 0, 0, 0, []),
  (332, .invokevirtual 163, 3, 143, 9, 1068, 0, []),
  (335, .aload_n 0, 1, 0, 0, 0, 0, []),
  (336, .iconst 0, 1, 0, 0, 0, 0, []),
  (337, .iload_n 3, 1, 0, 0, 0, 0, []),
  (338, .isub, 1, 0, 0, 0, 0, []),
  (339, .invokevirtual 160, 3, 142, 9, 1064, 0, []),
  (342, .goto 34, 3, 201, 0, 0, 0, []),
  (345, .aload_n 0, 1, 0, 0, 0, 0, []),
  (346, .iload_n 3, 1, 0, 0, 0, 0, []),
  (347, .invokevirtual 160, 3, 142, 9, 1064, 0, []),
  (350, .aload_n 0, 1, 0, 0, 0, 0, []),
  (351, .iload 6, 2, 0, 0, 0, 0, []),
  (353, .iload_n 2, 1, 0, 0, 0, 0, []),
  (354, .invokevirtual 163, 3, 143, 9, 1068, 0, []),
  (357, .goto 19, 3, 201, 0, 0, 0, []),
  (360, .aload_n 0, 1, 0, 0, 0, 0, []),
  (361, .iload 4, 2, 0, 0, 0, 0, []),
  (363, .ifCond .eq 9, 3, 199, 0, 0, 0, []),
  (366, .iconst 0, 1, 0, 0, 0, 0, []),
  (367, .iload_n 3, 1, 0, 0, 0, 0, []),
  (368, .isub, 1, 0, 0, 0, 0, []),
  (369, .goto 4, 3, 200, 0, 0, 0, []),
  (372, .iload_n 3, 1, 0, 0, 0, 0, []),
  (373, .invokevirtual 160, 3, 142, 9, 1064, 0, []),
  (376, .return_, 1, 0, 0, 0, 0, [])]
def m_X9_putImage : am_M := (yX9_putImage, cX9_putImage, 10, none)
def t_X9_twistRow : List ri_row := [(0, .aload_n 0, 1, 0, 0, 0, 0, []),
  (1, .iconst 0, 1, 0, 0, 0, 0, []),
  (2, .putfield 157, 3, 9, 15, 797, 0, []),
  (5, .iconst 0, 1, 0, 0, 0, 0, []),
  (6, .istore_n 2, 1, 0, 0, 0, 0, []),
  (7, .iload_n 2, 1, 0, 0, 0, 0, []),
  (8, .aload_n 0, 1, 0, 0, 0, 0, []),
  (9, .getfield 167, 3, 9, 13, 795, 0, []),
  (12, .if_icmp .ge 55, 3, 41, 0, 0, 0, []),
  (15, .aload_n 0, 1, 0, 0, 0, 0, []),
  (16, .getfield 31, 3, 9, 12, 794, 0, []),
  (19, .iload_n 2, 1, 0, 0, 0, 0, []),
  (20, .iaload, 1, 0, 0, 0, 0, []),
  (21, .istore_n 3, 1, 0, 0, 0, 0, []),
  (22, .aload_n 0, 1, 0, 0, 0, 0, []),
  (23, .iload_n 1, 1, 0, 0, 0, 0, []),
  (24, .iconst 2, 1, 0, 0, 0, 0, []),
  (25, .idiv, 1, 0, 0, 0, 0, []),
  (26, .iload_n 1, 1, 0, 0, 0, 0, []),
  (27, .iconst 2, 1, 0, 0, 0, 0, []),
  (28, .irem, 1, 0, 0, 0, 0, []),
  (29, .iconst 1, 1, 0, 0, 0, 0, []),
  (30, .if_icmp .ne 7, 3, 25, 0, 0, 0, []),
  (33, .iconst 1, 1, 0, 0, 0, 0, []),
  (34, .goto 4, 3, 26, 0, 0, 0, []),
  (37, .iconst 0, 1, 0, 0, 0, 0, []),
  (38, .iload_n 3, 1, 0, 0, 0, 0, []),
  (39, .ifCond .ge 9, 3, 32, 0, 0, 0, []),
  (42, .iconst 0, 1, 0, 0, 0, 0, []),
  (43, .iload_n 3, 1, 0, 0, 0, 0, []),
  (44, .isub, 1, 0, 0, 0, 0, []),
  (45, .goto 4, 3, 33, 0, 0, 0, []),
  (48, .iload_n 3, 1, 0, 0, 0, 0, []),
  (49, .iload_n 3, 1, 0, 0, 0, 0, []),
  (50, .ifCond .ge 7, 3, 37, 0, 0, 0, []),
  (53, .iconst 1, 1, 0, 0, 0, 0, []),
  (54, .goto 4, 3, 38, 0, 0, 0, []),
  (57, .iconst 0, 1, 0, 0, 0, 0, []),
  (58, .invokevirtual 170, 3, 144, 9, 1060, 0, []),
  (61, .iinc 2 1, 3, 0, 0, 0, 0, []),
  (64, .goto (-57), 3, 5, 0, 0, 0, []),
  (67, .aload_n 0, 1, 0, 0, 0, 0, []),
  (68, .getfield 157, 3, 9, 15, 797, 0, []),
  (71, .sipush 400, 3, 0, 0, 0, 0, []),
  (74, .if_icmp .le 5, 3, 47, 0, 0, 0, []),
  (77, .iconst 0, 1, 0, 0, 0, 0, []),
  (78, .ireturn, 1, 0, 1, 0, 0, []),
  (79, .aload_n 0, 1, 0, 0, 0, 0, []),
  (80, .aload_n 0, 1, 0, 0, 0, 0, []),
  (81, .getfield 157, 3, 9, 15, 797, 0, []),
  (84, .putfield 167, 3, 9, 13, 795, 0, []),
  (87, .iconst 0, 1, 0, 0, 0, 0, []),
  (88, .istore_n 2, 1, 0, 0, 0, 0, []),
  (89, .iload_n 2, 1, 0, 0, 0, 0, []),
  (90, .aload_n 0, 1, 0, 0, 0, 0, []),
  (91, .getfield 157, 3, 9, 15, 797, 0, []),
  (94, .if_icmp .ge 21, 3, 67, 0, 0, 0, []),
  (97, .aload_n 0, 1, 0, 0, 0, 0, []),
  (98, .getfield 31, 3, 9, 12, 794, 0, []),
  (101, .iload_n 2, 1, 0, 0, 0, 0, []),
  (102, .aload_n 0, 1, 0, 0, 0, 0, []),
  (103, .getfield 34, 3, 9, 14, 796, 0, []),
  (106, .iload_n 2, 1, 0, 0, 0, 0, []),
  (107, .iaload, 1, 0, 0, 0, 0, []),
  (108, .iastore, 1, 0, 0, 0, 0, []),
  (109, .iinc 2 1, 3, 0, 0, 0, 0, []),
  (112, .goto (-23), 3, 53, 0, 0, 0, []),
  (115, .iconst 1, 1, 0, 0, 0, 0, []),
  (116, .ireturn, 1, 0, 1, 0, 0, [])]
def m_X9_twistRow : am_M := (yX9_twistRow, cX9_twistRow, 4, some .boolean)
def t_X9_imageRow : List ri_row := [(0, .aload_n 0, 1, 0, 0, 0, 0, []),
  (1, .getfield 19, 3, 9, 6, 788, 0, []),
  (4, .iload_n 1, 1, 0, 0, 0, 0, []),
  (5, .iaload, 1, 0, 0, 0, 0, []),
  (6, .iconst 1, 1, 0, 0, 0, 0, []),
  (7, .isub, 1, 0, 0, 0, 0, []),
  (8, .istore_n 2, 1, 0, 0, 0, 0, []),
  (9, .iload_n 2, 1, 0, 0, 0, 0, []),
  (10, .ifCond .lt 29, 3, 24, 0, 0, 0, []),
  (13, .aload_n 0, 1, 0, 0, 0, 0, []),
  (14, .aload_n 0, 1, 0, 0, 0, 0, []),
  (15, .getfield 22, 3, 9, 7, 789, 0, []),
  (18, .bipush 60, 2, 0, 0, 0, 0, []),
  (20, .iload_n 1, 1, 0, 0, 0, 0, []),
  (21, .imul, 1, 0, 0, 0, 0, []),
  (22, .iload_n 2, 1, 0, 0, 0, 0, []),
  (23, .iadd, 1, 0, 0, 0, 0, []),
  (24, .iaload, 1, 0, 0, 0, 0, []),
  (25, .invokevirtual 174, 3, 145, 9, 1056, 0, []),
  (28, .ifCond .ne 5, 3, 22, 0, 0, 0, []),
  (31, .iconst 0, 1, 0, 0, 0, 0, []),
  (32, .ireturn, 1, 0, 1, 0, 0, []),
  (33, .iinc 2 (-1), 3, 0, 0, 0, 0, []),
  (36, .goto (-27), 3, 7, 0, 0, 0, []),
  (39, .iconst 1, 1, 0, 0, 0, 0, []),
  (40, .ireturn, 1, 0, 1, 0, 0, [])]
def m_X9_imageRow : am_M := (yX9_imageRow, cX9_imageRow, 3, some .boolean)
def t_X9_takeLetter : List ri_row := [(0, .aload_n 0, 1, 0, 0, 0, 0, []),
  (1, .iconst 1, 1, 0, 0, 0, 0, []),
  (2, .putfield 167, 3, 9, 13, 795, 0, []),
  (5, .aload_n 0, 1, 0, 0, 0, 0, []),
  (6, .getfield 31, 3, 9, 12, 794, 0, []),
  (9, .iconst 0, 1, 0, 0, 0, 0, []),
  (10, .iload_n 1, 1, 0, 0, 0, 0, []),
  (11, .iastore, 1, 0, 0, 0, 0, []),
  (12, .return_, 1, 0, 0, 0, 0, [])]
def m_X9_takeLetter : am_M := (yX9_takeLetter, cX9_takeLetter, 2, none)
def t_X9_takeRing : List ri_row := [(0, .aload_n 0, 1, 0, 0, 0, 0, []),
  (1, .aload_n 0, 1, 0, 0, 0, 0, []),
  (2, .getfield 13, 3, 9, 4, 786, 0, []),
  (5, .iload_n 1, 1, 0, 0, 0, 0, []),
  (6, .iaload, 1, 0, 0, 0, 0, []),
  (7, .putfield 167, 3, 9, 13, 795, 0, []),
  (10, .iconst 0, 1, 0, 0, 0, 0, []),
  (11, .istore_n 2, 1, 0, 0, 0, 0, []),
  (12, .iload_n 2, 1, 0, 0, 0, 0, []),
  (13, .aload_n 0, 1, 0, 0, 0, 0, []),
  (14, .getfield 167, 3, 9, 13, 795, 0, []),
  (17, .if_icmp .ge 26, 3, 26, 0, 0, 0, []),
  (20, .aload_n 0, 1, 0, 0, 0, 0, []),
  (21, .getfield 31, 3, 9, 12, 794, 0, []),
  (24, .iload_n 2, 1, 0, 0, 0, 0, []),
  (25, .aload_n 0, 1, 0, 0, 0, 0, []),
  (26, .getfield 16, 3, 9, 5, 787, 0, []),
  (29, .bipush 60, 2, 0, 0, 0, 0, []),
  (31, .iload_n 1, 1, 0, 0, 0, 0, []),
  (32, .imul, 1, 0, 0, 0, 0, []),
  (33, .iload_n 2, 1, 0, 0, 0, 0, []),
  (34, .iadd, 1, 0, 0, 0, 0, []),
  (35, .iaload, 1, 0, 0, 0, 0, []),
  (36, .iastore, 1, 0, 0, 0, 0, []),
  (37, .iinc 2 1, 3, 0, 0, 0, 0, []),
  (40, .goto (-28), 3, 8, 0, 0, 0, []),
  (43, .return_, 1, 0, 0, 0, 0, [])]
def m_X9_takeRing : am_M := (yX9_takeRing, cX9_takeRing, 3, none)
def t_X9_closeToU : List ri_row := [(0, .iconst 0, 1, 0, 0, 0, 0, []),
  (1, .istore_n 1, 1, 0, 0, 0, 0, []),
  (2, .aload_n 0, 1, 0, 0, 0, 0, []),
  (3, .getfield 167, 3, 9, 13, 795, 0, []),
  (6, .istore_n 2, 1, 0, 0, 0, 0, []),
  (7, .iload_n 2, 1, 0, 0, 0, 0, []),
  (8, .iload_n 1, 1, 0, 0, 0, 0, []),
  (9, .isub, 1, 0, 0, 0, 0, []),
  (10, .iconst 1, 1, 0, 0, 0, 0, []),
  (11, .if_icmp .le 31, 3, 26, 0, 0, 0, []),
  (14, .aload_n 0, 1, 0, 0, 0, 0, []),
  (15, .getfield 31, 3, 9, 12, 794, 0, []),
  (18, .iload_n 1, 1, 0, 0, 0, 0, []),
  (19, .iaload, 1, 0, 0, 0, 0, []),
  (20, .iconst 0, 1, 0, 0, 0, 0, []),
  (21, .aload_n 0, 1, 0, 0, 0, 0, []),
  (22, .getfield 31, 3, 9, 12, 794, 0, []),
  (25, .iload_n 2, 1, 0, 0, 0, 0, []),
  (26, .iconst 1, 1, 0, 0, 0, 0, []),
  (27, .isub, 1, 0, 0, 0, 0, []),
  (28, .iaload, 1, 0, 0, 0, 0, []),
  (29, .isub, 1, 0, 0, 0, 0, []),
  (30, .if_icmp .ne 12, 3, 26, 0, 0, 0, []),
  (33, .iinc 1 1, 3, 0, 0, 0, 0, []),
  (36, .iinc 2 (-1), 3, 0, 0, 0, 0, []),
  (39, .goto (-32), 3, 5, 0, 0, 0, []),
  (42, .aload_n 0, 1, 0, 0, 0, 0, []),
  (43, .iload_n 2, 1, 0, 0, 0, 0, []),
  (44, .iload_n 1, 1, 0, 0, 0, 0, []),
  (45, .isub, 1, 0, 0, 0, 0, []),
  (46, .putfield 83, 3, 9, 9, 791, 0, []),
  (49, .iload_n 1, 1, 0, 0, 0, 0, []),
  (50, .istore_n 3, 1, 0, 0, 0, 0, []),
  (51, .iload_n 3, 1, 0, 0, 0, 0, []),
  (52, .iload_n 2, 1, 0, 0, 0, 0, []),
  (53, .if_icmp .ge 23, 3, 48, 0, 0, 0, []),
  (56, .aload_n 0, 1, 0, 0, 0, 0, []),
  (57, .getfield 25, 3, 9, 8, 790, 0, []),
  (60, .iload_n 3, 1, 0, 0, 0, 0, []),
  (61, .iload_n 1, 1, 0, 0, 0, 0, []),
  (62, .isub, 1, 0, 0, 0, 0, []),
  (63, .aload_n 0, 1, 0, 0, 0, 0, []),
  (64, .getfield 31, 3, 9, 12, 794, 0, []),
  (67, .iload_n 3, 1, 0, 0, 0, 0, []),
  (68, .iaload, 1, 0, 0, 0, 0, []),
  (69, .iastore, 1, 0, 0, 0, 0, []),
  (70, .iinc 3 1, 3, 0, 0, 0, 0, []),
  (73, .goto (-22), 3, 33, 0, 0, 0, []),
  (76, .return_, 1, 0, 0, 0, 0, [])]
def m_X9_closeToU : am_M := (yX9_closeToU, cX9_closeToU, 4, none)
def t_X9_noPlan : List ri_row := [(0, .iload_n 1, 1, 0, 0, 0, 0, []),
  (1, .i2l, 1, 0, 0, 0, 0, []),
  (2, .lconst 0, 1, 0, 0, 0, 0, []),
  (3, .ldc2_w 177, 3, 0, 0, 1001, 7, []),
  (6, .invokestatic 75, 3, 110, 0, 873, 0, []),
  (9, .ifCond .ne 7, 3, 8, 0, 0, 0, []),
  (12, .iconst 1, 1, 0, 0, 0, 0, []),
  (13, .goto 4, 3, 9, 0, 0, 0, []),
  (16, .iconst 0, 1, 0, 0, 0, 0, []),
  (17, .ireturn, 1, 0, 1, 0, 0, [])]
def m_X9_noPlan : am_M := (yX9_noPlan, cX9_noPlan, 2, some .boolean)
def t_X9_feed : List ri_row := [(0, .iload_n 1, 1, 0, 0, 0, 0, []),
  (1, .i2l, 1, 0, 0, 0, 0, []),
  (2, .lconst 1, 1, 0, 0, 0, 0, []),
  (3, .ldc2_w 179, 3, 0, 0, 991, 8, []),
  (6, .invokestatic 75, 3, 110, 0, 873, 0, []),
  (9, .ifCond .ne 7, 3, 8, 0, 0, 0, []),
  (12, .sipush (-1002), 3, 0, 0, 0, 0, []),
  (15, .ireturn, 1, 0, 0, 0, 0, []),
  (16, .aload_n 0, 1, 0, 0, 0, 0, []),
  (17, .getfield 181, 3, 9, 17, 799, 0, []),
  (20, .iload_n 1, 1, 0, 0, 0, 0, []),
  (21, .iadd, 1, 0, 0, 0, 0, []),
  (22, .bipush 120, 2, 0, 0, 0, 0, []),
  (24, .if_icmp .le 7, 3, 16, 0, 0, 0, []),
  (27, .sipush (-1004), 3, 0, 0, 0, 0, []),
  (30, .ireturn, 1, 0, 0, 0, 0, []),
  (31, .iload_n 1, 1, 0, 0, 0, 0, []),
  (32, .iconst 1, 1, 0, 0, 0, 0, []),
  (33, .isub, 1, 0, 0, 0, 0, []),
  (34, .istore 4, 2, 0, 0, 0, 0, []),
  (36, .iload 4, 2, 0, 0, 0, 0, []),
  (38, .ifCond .lt 40, 3, 43, 0, 0, 0, []),
  (41, .aload_n 0, 1, 0, 0, 0, 0, []),
  (42, .getfield 37, 3, 9, 16, 798, 0, []),
  (45, .aload_n 0, 1, 0, 0, 0, 0, []),
  (46, .getfield 181, 3, 9, 17, 799, 0, []),
  (49, .lload_n 2, 1, 0, 0, 0, 0, []),
  (50, .bipush 8, 2, 0, 0, 0, 0, []),
  (52, .iload 4, 2, 0, 0, 0, 0, []),
  (54, .imul, 1, 0, 0, 0, 0, []),
  (55, .lshr, 1, 0, 0, 0, 0, []),
  (56, .ldc2_w 184, 3, 0, 0, 992, 255, []),
  (59, .land, 1, 0, 0, 0, 0, []),
  (60, .l2i, 1, 0, 0, 0, 0, []),
  (61, .iastore, 1, 0, 0, 0, 0, []),
  (62, .aload_n 0, 1, 0, 0, 0, 0, []),
  (63, .dup, 1, 0, 0, 0, 0, []),
  (64, .getfield 181, 3, 9, 17, 799, 0, []),
  (67, .iconst 1, 1, 0, 0, 0, 0, []),
  (68, .iadd, 1, 0, 0, 0, 0, []),
  (69, .putfield 181, 3, 9, 17, 799, 0, []),
  (72, .iinc 4 (-1), 3, 0, 0, 0, 0, []),
  (75, .goto (-39), 3, 20, 0, 0, 0, []),
  (78, .aload_n 0, 1, 0, 0, 0, 0, []),
  (79, .getfield 181, 3, 9, 17, 799, 0, []),
  (82, .ireturn, 1, 0, 0, 0, 0, [])]
def m_X9_feed : am_M := (yX9_feed, cX9_feed, 5, some .int)
def t_X9_look : List ri_row := [(0, .aload_n 0, 1, 0, 0, 0, 0, []),
  (1, .getfield 186, 3, 9, 18, 800, 0, []),
  (4, .aload_n 0, 1, 0, 0, 0, 0, []),
  (5, .getfield 181, 3, 9, 17, 799, 0, []),
  (8, .if_icmp .ge 30, 3, 19, 0, 0, 0, []),
  (11, .aload_n 0, 1, 0, 0, 0, 0, []),
  (12, .getfield 37, 3, 9, 16, 798, 0, []),
  (15, .aload_n 0, 1, 0, 0, 0, 0, []),
  (16, .getfield 186, 3, 9, 18, 800, 0, []),
  (19, .iaload, 1, 0, 0, 0, 0, []),
  (20, .bipush 32, 2, 0, 0, 0, 0, []),
  (22, .if_icmp .ne 16, 3, 19, 0, 0, 0, []),
  (25, .aload_n 0, 1, 0, 0, 0, 0, []),
  (26, .dup, 1, 0, 0, 0, 0, []),
  (27, .getfield 186, 3, 9, 18, 800, 0, []),
  (30, .iconst 1, 1, 0, 0, 0, 0, []),
  (31, .iadd, 1, 0, 0, 0, 0, []),
  (32, .putfield 186, 3, 9, 18, 800, 0, []),
  (35, .goto (-35), 3, 0, 0, 0, 0, []),
  (38, .aload_n 0, 1, 0, 0, 0, 0, []),
  (39, .getfield 186, 3, 9, 18, 800, 0, []),
  (42, .aload_n 0, 1, 0, 0, 0, 0, []),
  (43, .getfield 181, 3, 9, 17, 799, 0, []),
  (46, .if_icmp .ge 15, 3, 30, 0, 0, 0, []),
  (49, .aload_n 0, 1, 0, 0, 0, 0, []),
  (50, .getfield 37, 3, 9, 16, 798, 0, []),
  (53, .aload_n 0, 1, 0, 0, 0, 0, []),
  (54, .getfield 186, 3, 9, 18, 800, 0, []),
  (57, .iaload, 1, 0, 0, 0, 0, []),
  (58, .goto 4, 3, 31, 0, 0, 0, []),
  (61, .iconst (-1), 1, 0, 0, 0, 0, []),
  (62, .ireturn, 1, 0, 0, 0, 0, [])]
def m_X9_look : am_M := (yX9_look, cX9_look, 1, some .int)
def t_X9_want : List ri_row := [(0, .iload_n 1, 1, 0, 0, 0, 0, []),
  (1, .ifCond .ne 20, 3, 11, 0, 0, 0, []),
  (4, .aload_n 0, 1, 0, 0, 0, 0, []),
  (5, .getfield 189, 3, 9, 19, 801, 0, []),
  (8, .ifCond .ne 13, 3, 11, 0, 0, 0, []),
  (11, .aload_n 0, 1, 0, 0, 0, 0, []),
  (12, .iload_n 2, 1, 0, 0, 0, 0, []),
  (13, .putfield 189, 3, 9, 19, 801, 0, []),
  (16, .aload_n 0, 1, 0, 0, 0, 0, []),
  (17, .iload_n 3, 1, 0, 0, 0, 0, []),
  (18, .putfield 40, 3, 9, 20, 802, 0, []),
  (21, .aload_n 0, 1, 0, 0, 0, 0, []),
  (22, .getfield 189, 3, 9, 19, 801, 0, []),
  (25, .ifCond .ne 7, 3, 16, 0, 0, 0, []),
  (28, .iconst 1, 1, 0, 0, 0, 0, []),
  (29, .goto 4, 3, 17, 0, 0, 0, []),
  (32, .iconst 0, 1, 0, 0, 0, 0, []),
  (33, .ireturn, 1, 0, 1, 0, 0, [])]
def m_X9_want : am_M := (yX9_want, cX9_want, 4, some .boolean)
def t_X9_takeFigure : List ri_row := [(0, .aload_n 0, 1, 0, 0, 0, 0, []),
  (1, .invokevirtual 192, 3, 152, 9, 1002, 0, []),
  (4, .istore_n 3, 1, 0, 0, 0, 0, []),
  (5, .aload_n 0, 1, 0, 0, 0, 0, []),
  (6, .iload_n 3, 1, 0, 0, 0, 0, []),
  (7, .i2l, 1, 0, 0, 0, 0, []),
  (8, .ldc2_w 195, 3, 0, 0, 1018, 48, []),
  (11, .ldc2_w 197, 3, 0, 0, 1019, 57, []),
  (14, .invokestatic 75, 3, 110, 0, 873, 0, []),
  (17, .iconst 1, 1, 0, 0, 0, 0, []),
  (18, .aload_n 0, 1, 0, 0, 0, 0, []),
  (19, .getfield 186, 3, 9, 18, 800, 0, []),
  (22, .invokevirtual 199, 3, 153, 9, 1020, 0, []),
  (25, .ifCond .eq 27, 3, 29, 0, 0, 0, []),
  (28, .aload_n 0, 1, 0, 0, 0, 0, []),
  (29, .iload_n 3, 1, 0, 0, 0, 0, []),
  (30, .bipush 48, 2, 0, 0, 0, 0, []),
  (32, .isub, 1, 0, 0, 0, 0, []),
  (33, .i2l, 1, 0, 0, 0, 0, []),
  (34, .iload_n 1, 1, 0, 0, 0, 0, []),
  (35, .i2l, 1, 0, 0, 0, 0, []),
  (36, .iload_n 2, 1, 0, 0, 0, 0, []),
  (37, .i2l, 1, 0, 0, 0, 0, []),
  (38, .invokestatic 75, 3, 110, 0, 873, 0, []),
  (41, .iconst 2, 1, 0, 0, 0, 0, []),
  (42, .aload_n 0, 1, 0, 0, 0, 0, []),
  (43, .getfield 186, 3, 9, 18, 800, 0, []),
  (46, .invokevirtual 199, 3, 153, 9, 1020, 0, []),
  (49, .ifCond .ne 5, 3, 31, 0, 0, 0, []),
  (52, .iconst 0, 1, 0, 0, 0, 0, []),
  (53, .ireturn, 1, 0, 0, 0, 0, []),
  (54, .aload_n 0, 1, 0, 0, 0, 0, []),
  (55, .dup, 1, 0, 0, 0, 0, []),
  (56, .getfield 186, 3, 9, 18, 800, 0, []),
  (59, .iconst 1, 1, 0, 0, 0, 0, []),
  (60, .iadd, 1, 0, 0, 0, 0, []),
  (61, .putfield 186, 3, 9, 18, 800, 0, []),
  (64, .iload_n 3, 1, 0, 0, 0, 0, []),
  (65, .bipush 48, 2, 0, 0, 0, 0, []),
  (67, .isub, 1, 0, 0, 0, 0, []),
  (68, .ireturn, 1, 0, 0, 0, 0, [])]
def m_X9_takeFigure : am_M := (yX9_takeFigure, cX9_takeFigure, 4, some .int)
def t_X9_readTwist : List ri_row := [(0, .aload_n 0, 1, 0, 0, 0, 0, []),
  (1, .getfield 186, 3, 9, 18, 800, 0, []),
  (4, .istore_n 2, 1, 0, 0, 0, 0, []),
  (5, .aload_n 0, 1, 0, 0, 0, 0, []),
  (6, .dup, 1, 0, 0, 0, 0, []),
  (7, .getfield 186, 3, 9, 18, 800, 0, []),
  (10, .iconst 1, 1, 0, 0, 0, 0, []),
  (11, .iadd, 1, 0, 0, 0, 0, []),
  (12, .putfield 186, 3, 9, 18, 800, 0, []),
  (15, .aload_n 0, 1, 0, 0, 0, 0, []),
  (16, .iconst 1, 1, 0, 0, 0, 0, []),
  (17, .iload_n 1, 1, 0, 0, 0, 0, []),
  (18, .iconst 2, 1, 0, 0, 0, 0, []),
  (19, .if_icmp .ne 12, 3, 19, 0, 0, 0, []),
  (22, .aload_n 0, 1, 0, 0, 0, 0, []),
  (23, .getfield 64, 3, 9, 0, 782, 0, []),
  (26, .iconst 1, 1, 0, 0, 0, 0, []),
  (27, .isub, 1, 0, 0, 0, 0, []),
  (28, .goto 7, 3, 21, 0, 0, 0, []),
  (31, .aload_n 0, 1, 0, 0, 0, 0, []),
  (32, .getfield 64, 3, 9, 0, 782, 0, []),
  (35, .invokevirtual 203, 3, 154, 9, 1014, 0, []),
  (38, .istore_n 3, 1, 0, 0, 0, 0, []),
  (39, .aload_n 0, 1, 0, 0, 0, 0, []),
  (40, .getfield 189, 3, 9, 19, 801, 0, []),
  (43, .ifCond .le 4, 3, 27, 0, 0, 0, []),
  (46, .return_, 1, 0, 0, 0, 0, []),
  (47, .aload_n 0, 1, 0, 0, 0, 0, []),
  (48, .invokevirtual 192, 3, 152, 9, 1002, 0, []),
  (51, .bipush 45, 2, 0, 0, 0, 0, []),
  (53, .if_icmp .ne 7, 3, 33, 0, 0, 0, []),
  (56, .iconst 1, 1, 0, 0, 0, 0, []),
  (57, .goto 4, 3, 34, 0, 0, 0, []),
  (60, .iconst 0, 1, 0, 0, 0, 0, []),
  (61, .istore 4, 2, 0, 0, 0, 0, []),
  (63, .aload_n 0, 1, 0, 0, 0, 0, []),
  (64, .dup, 1, 0, 0, 0, 0, []),
  (65, .getfield 186, 3, 9, 18, 800, 0, []),
  (68, .iload 4, 2, 0, 0, 0, 0, []),
  (70, .invokestatic 112, 3, 111, 0, 924, 0, []),
  (73, .iadd, 1, 0, 0, 0, 0, []),
  (74, .putfield 186, 3, 9, 18, 800, 0, []),
  (77, .aload_n 0, 1, 0, 0, 0, 0, []),
  (78, .aload_n 0, 1, 0, 0, 0, 0, []),
  (79, .getfield 206, 3, 9, 24, 806, 0, []),
  (82, .bipush 60, 2, 0, 0, 0, 0, []),
  (84, .if_icmp .ge 7, 3, 49, 0, 0, 0, []),
  (87, .iconst 1, 1, 0, 0, 0, 0, []),
  (88, .goto 4, 3, 50, 0, 0, 0, []),
  (91, .iconst 0, 1, 0, 0, 0, 0, []),
  (92, .iconst 3, 1, 0, 0, 0, 0, []),
  (93, .iload_n 2, 1, 0, 0, 0, 0, []),
  (94, .invokevirtual 199, 3, 153, 9, 1020, 0, []),
  (97, .ifCond .eq 40, 3, 78, 0, 0, 0, []),
  (100, .aload_n 0, 1, 0, 0, 0, 0, []),
  (101, .getfield 47, 3, 9, 23, 805, 0, []),
  (104, .aload_n 0, 1, 0, 0, 0, 0, []),
  (105, .getfield 206, 3, 9, 24, 806, 0, []),
  (108, .iconst 2, 1, 0, 0, 0, 0, []),
  (109, .iload_n 1, 1, 0, 0, 0, 0, []),
  (110, .aload_n 0, 1, 0, 0, 0, 0, []),
  (111, .getfield 64, 3, 9, 0, 782, 0, []),
  (114, .imul, 1, 0, 0, 0, 0, []),
  (115, .iload_n 3, 1, 0, 0, 0, 0, []),
  (116, .iadd, 1, 0, 0, 0, 0, []),
  (117, .iconst 1, 1, 0, 0, 0, 0, []),
  (118, .isub, 1, 0, 0, 0, 0, []),
  (119, .imul, 1, 0, 0, 0, 0, []),
  (120, .iload 4, 2, 0, 0, 0, 0, []),
  (122, .invokestatic 112, 3, 111, 0, 924, 0, []),
  (125, .iadd, 1, 0, 0, 0, 0, []),
  (126, .iastore, 1, 0, 0, 0, 0, []),
  (127, .aload_n 0, 1, 0, 0, 0, 0, []),
  (128, .dup, 1, 0, 0, 0, 0, []),
  (129, .getfield 206, 3, 9, 24, 806, 0, []),
  (132, .iconst 1, 1, 0, 0, 0, 0, []),
  (133, .iadd, 1, 0, 0, 0, 0, []),
  (134, .putfield 206, 3, 9, 24, 806, 0, []),
  (137, .return_, 1, 0, 0, 0, 0, [])]
def m_X9_readTwist : am_M := (yX9_readTwist, cX9_readTwist, 5, none)
def t_X9_closeBracket : List ri_row := [(0, .aload_n 0, 1, 0, 0, 0, 0, []),
  (1, .dup, 1, 0, 0, 0, 0, []),
  (2, .getfield 186, 3, 9, 18, 800, 0, []),
  (5, .iconst 1, 1, 0, 0, 0, 0, []),
  (6, .iadd, 1, 0, 0, 0, 0, []),
  (7, .putfield 186, 3, 9, 18, 800, 0, []),
  (10, .aload_n 0, 1, 0, 0, 0, 0, []),
  (11, .invokevirtual 192, 3, 152, 9, 1002, 0, []),
  (14, .istore_n 1, 1, 0, 0, 0, 0, []),
  (15, .aload_n 0, 1, 0, 0, 0, 0, []),
  (16, .getfield 186, 3, 9, 18, 800, 0, []),
  (19, .istore_n 2, 1, 0, 0, 0, 0, []),
  (20, .aload_n 0, 1, 0, 0, 0, 0, []),
  (21, .iconst 1, 1, 0, 0, 0, 0, []),
  (22, .bipush 9, 2, 0, 0, 0, 0, []),
  (24, .invokevirtual 203, 3, 154, 9, 1014, 0, []),
  (27, .istore_n 3, 1, 0, 0, 0, 0, []),
  (28, .aload_n 0, 1, 0, 0, 0, 0, []),
  (29, .getfield 189, 3, 9, 19, 801, 0, []),
  (32, .ifCond .le 4, 3, 21, 0, 0, 0, []),
  (35, .return_, 1, 0, 0, 0, 0, []),
  (36, .aload_n 0, 1, 0, 0, 0, 0, []),
  (37, .dup, 1, 0, 0, 0, 0, []),
  (38, .getfield 209, 3, 9, 22, 804, 0, []),
  (41, .iconst 1, 1, 0, 0, 0, 0, []),
  (42, .isub, 1, 0, 0, 0, 0, []),
  (43, .putfield 209, 3, 9, 22, 804, 0, []),
  (46, .aload_n 0, 1, 0, 0, 0, 0, []),
  (47, .getfield 44, 3, 9, 21, 803, 0, []),
  (50, .aload_n 0, 1, 0, 0, 0, 0, []),
  (51, .getfield 209, 3, 9, 22, 804, 0, []),
  (54, .iaload, 1, 0, 0, 0, 0, []),
  (55, .istore 4, 2, 0, 0, 0, 0, []),
  (57, .aload_n 0, 1, 0, 0, 0, 0, []),
  (58, .getfield 206, 3, 9, 24, 806, 0, []),
  (61, .iload 4, 2, 0, 0, 0, 0, []),
  (63, .isub, 1, 0, 0, 0, 0, []),
  (64, .istore 5, 2, 0, 0, 0, 0, []),
  (66, .aload_n 0, 1, 0, 0, 0, 0, []),
  (67, .iload 4, 2, 0, 0, 0, 0, []),
  (69, .iload 5, 2, 0, 0, 0, 0, []),
  (71, .iload_n 3, 1, 0, 0, 0, 0, []),
  (72, .imul, 1, 0, 0, 0, 0, []),
  (73, .iadd, 1, 0, 0, 0, 0, []),
  (74, .bipush 60, 2, 0, 0, 0, 0, []),
  (76, .if_icmp .gt 7, 3, 48, 0, 0, 0, []),
  (79, .iconst 1, 1, 0, 0, 0, 0, []),
  (80, .goto 4, 3, 49, 0, 0, 0, []),
  (83, .iconst 0, 1, 0, 0, 0, 0, []),
  (84, .iconst 3, 1, 0, 0, 0, 0, []),
  (85, .iload_n 2, 1, 0, 0, 0, 0, []),
  (86, .invokevirtual 199, 3, 153, 9, 1020, 0, []),
  (89, .ifCond .eq 56, 3, 83, 0, 0, 0, []),
  (92, .iload 4, 2, 0, 0, 0, 0, []),
  (94, .iload 5, 2, 0, 0, 0, 0, []),
  (96, .iadd, 1, 0, 0, 0, 0, []),
  (97, .istore 6, 2, 0, 0, 0, 0, []),
  (99, .iload 6, 2, 0, 0, 0, 0, []),
  (101, .iload 4, 2, 0, 0, 0, 0, []),
  (103, .iload 5, 2, 0, 0, 0, 0, []),
  (105, .iload_n 3, 1, 0, 0, 0, 0, []),
  (106, .imul, 1, 0, 0, 0, 0, []),
  (107, .iadd, 1, 0, 0, 0, 0, []),
  (108, .if_icmp .ge 26, 3, 76, 0, 0, 0, []),
  (111, .aload_n 0, 1, 0, 0, 0, 0, []),
  (112, .getfield 47, 3, 9, 23, 805, 0, []),
  (115, .iload 6, 2, 0, 0, 0, 0, []),
  (117, .aload_n 0, 1, 0, 0, 0, 0, []),
  (118, .getfield 47, 3, 9, 23, 805, 0, []),
  (121, .iload 6, 2, 0, 0, 0, 0, []),
  (123, .iload 5, 2, 0, 0, 0, 0, []),
  (125, .isub, 1, 0, 0, 0, 0, []),
  (126, .iaload, 1, 0, 0, 0, 0, []),
  (127, .iastore, 1, 0, 0, 0, 0, []),
  (128, .iinc 6 1, 3, 0, 0, 0, 0, []),
  (131, .goto (-32), 3, 57, 0, 0, 0, []),
  (134, .aload_n 0, 1, 0, 0, 0, 0, []),
  (135, .iload 4, 2, 0, 0, 0, 0, []),
  (137, .iload 5, 2, 0, 0, 0, 0, []),
  (139, .iload_n 3, 1, 0, 0, 0, 0, []),
  (140, .imul, 1, 0, 0, 0, 0, []),
  (141, .iadd, 1, 0, 0, 0, 0, []),
  (142, .putfield 206, 3, 9, 24, 806, 0, []),
  (145, .return_, 1, 0, 0, 0, 0, [])]
def m_X9_closeBracket : am_M := (yX9_closeBracket, cX9_closeBracket, 7, none)
def t_X9_readItem : List ri_row := [(0, .iload_n 1, 1, 0, 0, 0, 0, []),
  (1, .bipush 97, 2, 0, 0, 0, 0, []),
  (3, .if_icmp .eq 15, 3, 9, 0, 0, 0, []),
  (6, .iload_n 1, 1, 0, 0, 0, 0, []),
  (7, .bipush 98, 2, 0, 0, 0, 0, []),
  (9, .if_icmp .eq 9, 3, 9, 0, 0, 0, []),
  (12, .iload_n 1, 1, 0, 0, 0, 0, []),
  (13, .bipush 99, 2, 0, 0, 0, 0, []),
  (15, .if_icmp .ne 14, 3, 15, 0, 0, 0, []),
  (18, .aload_n 0, 1, 0, 0, 0, 0, []),
  (19, .iload_n 1, 1, 0, 0, 0, 0, []),
  (20, .bipush 97, 2, 0, 0, 0, 0, []),
  (22, .isub, 1, 0, 0, 0, 0, []),
  (23, .invokevirtual 212, 3, 155, 9, 1010, 0, []),
  (26, .goto 104, 3, 68, 0, 0, 0, []),
  (29, .iload_n 1, 1, 0, 0, 0, 0, []),
  (30, .bipush 40, 2, 0, 0, 0, 0, []),
  (32, .if_icmp .ne 64, 3, 51, 0, 0, 0, []),
  (35, .aload_n 0, 1, 0, 0, 0, 0, []),
  (36, .aload_n 0, 1, 0, 0, 0, 0, []),
  (37, .getfield 209, 3, 9, 22, 804, 0, []),
  (40, .iconst 4, 1, 0, 0, 0, 0, []),
  (41, .if_icmp .ge 7, 3, 25, 0, 0, 0, []),
  (44, .iconst 1, 1, 0, 0, 0, 0, []),
  (45, .goto 4, 3, 26, 0, 0, 0, []),
  (48, .iconst 0, 1, 0, 0, 0, 0, []),
  (49, .iconst 4, 1, 0, 0, 0, 0, []),
  (50, .aload_n 0, 1, 0, 0, 0, 0, []),
  (51, .getfield 186, 3, 9, 18, 800, 0, []),
  (54, .invokevirtual 199, 3, 153, 9, 1020, 0, []),
  (57, .ifCond .eq 73, 3, 68, 0, 0, 0, []),
  (60, .aload_n 0, 1, 0, 0, 0, 0, []),
  (61, .getfield 44, 3, 9, 21, 803, 0, []),
  (64, .aload_n 0, 1, 0, 0, 0, 0, []),
  (65, .getfield 209, 3, 9, 22, 804, 0, []),
  (68, .aload_n 0, 1, 0, 0, 0, 0, []),
  (69, .getfield 206, 3, 9, 24, 806, 0, []),
  (72, .iastore, 1, 0, 0, 0, 0, []),
  (73, .aload_n 0, 1, 0, 0, 0, 0, []),
  (74, .dup, 1, 0, 0, 0, 0, []),
  (75, .getfield 209, 3, 9, 22, 804, 0, []),
  (78, .iconst 1, 1, 0, 0, 0, 0, []),
  (79, .iadd, 1, 0, 0, 0, 0, []),
  (80, .putfield 209, 3, 9, 22, 804, 0, []),
  (83, .aload_n 0, 1, 0, 0, 0, 0, []),
  (84, .dup, 1, 0, 0, 0, 0, []),
  (85, .getfield 186, 3, 9, 18, 800, 0, []),
  (88, .iconst 1, 1, 0, 0, 0, 0, []),
  (89, .iadd, 1, 0, 0, 0, 0, []),
  (90, .putfield 186, 3, 9, 18, 800, 0, []),
  (93, .goto 37, 3, 68, 0, 0, 0, []),
  (96, .aload_n 0, 1, 0, 0, 0, 0, []),
  (97, .iload_n 1, 1, 0, 0, 0, 0, []),
  (98, .bipush 41, 2, 0, 0, 0, 0, []),
  (100, .if_icmp .ne 14, 3, 60, 0, 0, 0, []),
  (103, .aload_n 0, 1, 0, 0, 0, 0, []),
  (104, .getfield 209, 3, 9, 22, 804, 0, []),
  (107, .ifCond .le 7, 3, 60, 0, 0, 0, []),
  (110, .iconst 1, 1, 0, 0, 0, 0, []),
  (111, .goto 4, 3, 61, 0, 0, 0, []),
  (114, .iconst 0, 1, 0, 0, 0, 0, []),
  (115, .iconst 1, 1, 0, 0, 0, 0, []),
  (116, .aload_n 0, 1, 0, 0, 0, 0, []),
  (117, .getfield 186, 3, 9, 18, 800, 0, []),
  (120, .invokevirtual 199, 3, 153, 9, 1020, 0, []),
  (123, .ifCond .eq 7, 3, 68, 0, 0, 0, []),
  (126, .aload_n 0, 1, 0, 0, 0, 0, []),
  (127, .invokevirtual 215, 3, 156, 9, 1024, 0, []),
  (130, .return_, 1, 0, 0, 0, 0, [])]
def m_X9_readItem : am_M := (yX9_readItem, cX9_readItem, 2, none)
def t_X9_read : List ri_row := [(0, .aload_n 0, 1, 0, 0, 0, 0, []),
  (1, .iload_n 1, 1, 0, 0, 0, 0, []),
  (2, .invokevirtual 218, 3, 150, 9, 997, 0, []),
  (5, .ifCond .eq 7, 3, 6, 0, 0, 0, []),
  (8, .sipush (-1001), 3, 0, 0, 0, 0, []),
  (11, .ireturn, 1, 0, 0, 0, 0, []),
  (12, .aload_n 0, 1, 0, 0, 0, 0, []),
  (13, .iconst 0, 1, 0, 0, 0, 0, []),
  (14, .putfield 186, 3, 9, 18, 800, 0, []),
  (17, .aload_n 0, 1, 0, 0, 0, 0, []),
  (18, .iconst 0, 1, 0, 0, 0, 0, []),
  (19, .putfield 189, 3, 9, 19, 801, 0, []),
  (22, .aload_n 0, 1, 0, 0, 0, 0, []),
  (23, .iconst (-1), 1, 0, 0, 0, 0, []),
  (24, .putfield 40, 3, 9, 20, 802, 0, []),
  (27, .aload_n 0, 1, 0, 0, 0, 0, []),
  (28, .iconst 0, 1, 0, 0, 0, 0, []),
  (29, .putfield 209, 3, 9, 22, 804, 0, []),
  (32, .aload_n 0, 1, 0, 0, 0, 0, []),
  (33, .iconst 0, 1, 0, 0, 0, 0, []),
  (34, .putfield 206, 3, 9, 24, 806, 0, []),
  (37, .aload_n 0, 1, 0, 0, 0, 0, []),
  (38, .invokevirtual 192, 3, 152, 9, 1002, 0, []),
  (41, .istore_n 2, 1, 0, 0, 0, 0, []),
  (42, .aload_n 0, 1, 0, 0, 0, 0, []),
  (43, .getfield 189, 3, 9, 19, 801, 0, []),
  (46, .ifCond .ne 20, 3, 36, 0, 0, 0, []),
  (49, .iload_n 2, 1, 0, 0, 0, 0, []),
  (50, .ifCond .lt 16, 3, 36, 0, 0, 0, []),
  (53, .aload_n 0, 1, 0, 0, 0, 0, []),
  (54, .iload_n 2, 1, 0, 0, 0, 0, []),
  (55, .invokevirtual 221, 3, 157, 9, 1006, 0, []),
  (58, .aload_n 0, 1, 0, 0, 0, 0, []),
  (59, .invokevirtual 192, 3, 152, 9, 1002, 0, []),
  (62, .istore_n 2, 1, 0, 0, 0, 0, []),
  (63, .goto (-21), 3, 24, 0, 0, 0, []),
  (66, .aload_n 0, 1, 0, 0, 0, 0, []),
  (67, .aload_n 0, 1, 0, 0, 0, 0, []),
  (68, .getfield 209, 3, 9, 22, 804, 0, []),
  (71, .ifCond .ne 7, 3, 42, 0, 0, 0, []),
  (74, .iconst 1, 1, 0, 0, 0, 0, []),
  (75, .goto 4, 3, 43, 0, 0, 0, []),
  (78, .iconst 0, 1, 0, 0, 0, 0, []),
  (79, .iconst 1, 1, 0, 0, 0, 0, []),
  (80, .aload_n 0, 1, 0, 0, 0, 0, []),
  (81, .getfield 181, 3, 9, 17, 799, 0, []),
  (84, .invokevirtual 199, 3, 153, 9, 1020, 0, []),
  (87, .istore_n 3, 1, 0, 0, 0, 0, []),
  (88, .aload_n 0, 1, 0, 0, 0, 0, []),
  (89, .iconst 0, 1, 0, 0, 0, 0, []),
  (90, .putfield 181, 3, 9, 17, 799, 0, []),
  (93, .aload_n 0, 1, 0, 0, 0, 0, []),
  (94, .getfield 189, 3, 9, 19, 801, 0, []),
  (97, .ifCond .le 11, 3, 59, 0, 0, 0, []),
  (100, .bipush (-10), 2, 0, 0, 0, 0, []),
  (102, .aload_n 0, 1, 0, 0, 0, 0, []),
  (103, .getfield 189, 3, 9, 19, 801, 0, []),
  (106, .isub, 1, 0, 0, 0, 0, []),
  (107, .ireturn, 1, 0, 0, 0, 0, []),
  (108, .aload_n 0, 1, 0, 0, 0, 0, []),
  (109, .getfield 19, 3, 9, 6, 788, 0, []),
  (112, .iload_n 1, 1, 0, 0, 0, 0, []),
  (113, .aload_n 0, 1, 0, 0, 0, 0, []),
  (114, .getfield 206, 3, 9, 24, 806, 0, []),
  (117, .iastore, 1, 0, 0, 0, 0, []),
  (118, .iconst 0, 1, 0, 0, 0, 0, []),
  (119, .istore 4, 2, 0, 0, 0, 0, []),
  (121, .iload 4, 2, 0, 0, 0, 0, []),
  (123, .aload_n 0, 1, 0, 0, 0, 0, []),
  (124, .getfield 206, 3, 9, 24, 806, 0, []),
  (127, .if_icmp .ge 28, 3, 85, 0, 0, 0, []),
  (130, .aload_n 0, 1, 0, 0, 0, 0, []),
  (131, .getfield 22, 3, 9, 7, 789, 0, []),
  (134, .bipush 60, 2, 0, 0, 0, 0, []),
  (136, .iload_n 1, 1, 0, 0, 0, 0, []),
  (137, .imul, 1, 0, 0, 0, 0, []),
  (138, .iload 4, 2, 0, 0, 0, 0, []),
  (140, .iadd, 1, 0, 0, 0, 0, []),
  (141, .aload_n 0, 1, 0, 0, 0, 0, []),
  (142, .getfield 47, 3, 9, 23, 805, 0, []),
  (145, .iload 4, 2, 0, 0, 0, 0, []),
  (147, .iaload, 1, 0, 0, 0, 0, []),
  (148, .iastore, 1, 0, 0, 0, 0, []),
  (149, .iinc 4 1, 3, 0, 0, 0, 0, []),
  (152, .goto (-31), 3, 67, 0, 0, 0, []),
  (155, .aload_n 0, 1, 0, 0, 0, 0, []),
  (156, .getfield 206, 3, 9, 24, 806, 0, []),
  (159, .ireturn, 1, 0, 0, 0, 0, [])]
def m_X9_read : am_M := (yX9_read, cX9_read, 5, some .int)
def t_X9_fault : List ri_row := [(0, .aload_n 0, 1, 0, 0, 0, 0, []),
  (1, .getfield 40, 3, 9, 20, 802, 0, []),
  (4, .ireturn, 1, 0, 0, 0, 0, [])]
def m_X9_fault : am_M := (yX9_fault, cX9_fault, 1, some .int)
def t_X9_twist : List ri_row := [(0, .aload_n 0, 1, 0, 0, 0, 0, []),
  (1, .iload_n 1, 1, 0, 0, 0, 0, []),
  (2, .invokevirtual 218, 3, 150, 9, 997, 0, []),
  (5, .ifCond .eq 7, 3, 6, 0, 0, 0, []),
  (8, .sipush (-1001), 3, 0, 0, 0, 0, []),
  (11, .ireturn, 1, 0, 0, 0, 0, []),
  (12, .iload_n 2, 1, 0, 0, 0, 0, []),
  (13, .iconst (-1), 1, 0, 0, 0, 0, []),
  (14, .if_icmp .ne 12, 3, 14, 0, 0, 0, []),
  (17, .aload_n 0, 1, 0, 0, 0, 0, []),
  (18, .getfield 19, 3, 9, 6, 788, 0, []),
  (21, .iload_n 1, 1, 0, 0, 0, 0, []),
  (22, .iaload, 1, 0, 0, 0, 0, []),
  (23, .goto 36, 3, 36, 0, 0, 0, []),
  (26, .iload_n 2, 1, 0, 0, 0, 0, []),
  (27, .i2l, 1, 0, 0, 0, 0, []),
  (28, .lconst 0, 1, 0, 0, 0, 0, []),
  (29, .aload_n 0, 1, 0, 0, 0, 0, []),
  (30, .getfield 19, 3, 9, 6, 788, 0, []),
  (33, .iload_n 1, 1, 0, 0, 0, 0, []),
  (34, .iaload, 1, 0, 0, 0, 0, []),
  (35, .iconst 1, 1, 0, 0, 0, 0, []),
  (36, .isub, 1, 0, 0, 0, 0, []),
  (37, .i2l, 1, 0, 0, 0, 0, []),
  (38, .invokestatic 75, 3, 110, 0, 873, 0, []),
  (41, .ifCond .eq 17, 3, 35, 0, 0, 0, []),
  (44, .aload_n 0, 1, 0, 0, 0, 0, []),
  (45, .getfield 22, 3, 9, 7, 789, 0, []),
  (48, .bipush 60, 2, 0, 0, 0, 0, []),
  (50, .iload_n 1, 1, 0, 0, 0, 0, []),
  (51, .imul, 1, 0, 0, 0, 0, []),
  (52, .iload_n 2, 1, 0, 0, 0, 0, []),
  (53, .iadd, 1, 0, 0, 0, 0, []),
  (54, .iaload, 1, 0, 0, 0, 0, []),
  (55, .goto 4, 3, 36, 0, 0, 0, []),
  (58, .iconst (-1), 1, 0, 0, 0, 0, []),
  (59, .ireturn, 1, 0, 0, 0, 0, [])]
def m_X9_twist : am_M := (yX9_twist, cX9_twist, 3, some .int)
def t_X9_chain : List ri_row := [(0, .aload_n 0, 1, 0, 0, 0, 0, []),
  (1, .iload_n 1, 1, 0, 0, 0, 0, []),
  (2, .invokevirtual 218, 3, 150, 9, 997, 0, []),
  (5, .ifCond .ne 19, 3, 12, 0, 0, 0, []),
  (8, .aload_n 0, 1, 0, 0, 0, 0, []),
  (9, .iload_n 2, 1, 0, 0, 0, 0, []),
  (10, .invokevirtual 218, 3, 150, 9, 997, 0, []),
  (13, .ifCond .ne 11, 3, 12, 0, 0, 0, []),
  (16, .aload_n 0, 1, 0, 0, 0, 0, []),
  (17, .iload_n 3, 1, 0, 0, 0, 0, []),
  (18, .invokevirtual 218, 3, 150, 9, 997, 0, []),
  (21, .ifCond .eq 7, 3, 14, 0, 0, 0, []),
  (24, .sipush (-1001), 3, 0, 0, 0, 0, []),
  (27, .ireturn, 1, 0, 0, 0, 0, []),
  (28, .aload_n 0, 1, 0, 0, 0, 0, []),
  (29, .getfield 19, 3, 9, 6, 788, 0, []),
  (32, .iload_n 2, 1, 0, 0, 0, 0, []),
  (33, .iaload, 1, 0, 0, 0, 0, []),
  (34, .aload_n 0, 1, 0, 0, 0, 0, []),
  (35, .getfield 19, 3, 9, 6, 788, 0, []),
  (38, .iload_n 3, 1, 0, 0, 0, 0, []),
  (39, .iaload, 1, 0, 0, 0, 0, []),
  (40, .iadd, 1, 0, 0, 0, 0, []),
  (41, .istore 4, 2, 0, 0, 0, 0, []),
  (43, .iload 4, 2, 0, 0, 0, 0, []),
  (45, .bipush 60, 2, 0, 0, 0, 0, []),
  (47, .if_icmp .le 7, 3, 29, 0, 0, 0, []),
  (50, .sipush (-1004), 3, 0, 0, 0, 0, []),
  (53, .ireturn, 1, 0, 0, 0, 0, []),
  (54, .iconst 0, 1, 0, 0, 0, 0, []),
  (55, .istore 5, 2, 0, 0, 0, 0, []),
  (57, .iload 5, 2, 0, 0, 0, 0, []),
  (59, .iload 4, 2, 0, 0, 0, 0, []),
  (61, .if_icmp .ge 61, 3, 68, 0, 0, 0, []),
  (64, .aload_n 0, 1, 0, 0, 0, 0, []),
  (65, .getfield 47, 3, 9, 23, 805, 0, []),
  (68, .iload 5, 2, 0, 0, 0, 0, []),
  (70, .iload 5, 2, 0, 0, 0, 0, []),
  (72, .aload_n 0, 1, 0, 0, 0, 0, []),
  (73, .getfield 19, 3, 9, 6, 788, 0, []),
  (76, .iload_n 2, 1, 0, 0, 0, 0, []),
  (77, .iaload, 1, 0, 0, 0, 0, []),
  (78, .if_icmp .ge 18, 3, 52, 0, 0, 0, []),
  (81, .aload_n 0, 1, 0, 0, 0, 0, []),
  (82, .getfield 22, 3, 9, 7, 789, 0, []),
  (85, .bipush 60, 2, 0, 0, 0, 0, []),
  (87, .iload_n 2, 1, 0, 0, 0, 0, []),
  (88, .imul, 1, 0, 0, 0, 0, []),
  (89, .iload 5, 2, 0, 0, 0, 0, []),
  (91, .iadd, 1, 0, 0, 0, 0, []),
  (92, .iaload, 1, 0, 0, 0, 0, []),
  (93, .goto 22, 3, 65, 0, 0, 0, []),
  (96, .aload_n 0, 1, 0, 0, 0, 0, []),
  (97, .getfield 22, 3, 9, 7, 789, 0, []),
  (100, .bipush 60, 2, 0, 0, 0, 0, []),
  (102, .iload_n 3, 1, 0, 0, 0, 0, []),
  (103, .imul, 1, 0, 0, 0, 0, []),
  (104, .iload 5, 2, 0, 0, 0, 0, []),
  (106, .iadd, 1, 0, 0, 0, 0, []),
  (107, .aload_n 0, 1, 0, 0, 0, 0, []),
  (108, .getfield 19, 3, 9, 6, 788, 0, []),
  (111, .iload_n 2, 1, 0, 0, 0, 0, []),
  (112, .iaload, 1, 0, 0, 0, 0, []),
  (113, .isub, 1, 0, 0, 0, 0, []),
  (114, .iaload, 1, 0, 0, 0, 0, []),
  (115, .iastore, 1, 0, 0, 0, 0, []),
  (116, .iinc 5 1, 3, 0, 0, 0, 0, []),
  (119, .goto (-62), 3, 31, 0, 0, 0, []),
  (122, .aload_n 0, 1, 0, 0, 0, 0, []),
  (123, .getfield 19, 3, 9, 6, 788, 0, []),
  (126, .iload_n 1, 1, 0, 0, 0, 0, []),
  (127, .iload 4, 2, 0, 0, 0, 0, []),
  (129, .iastore, 1, 0, 0, 0, 0, []),
  (130, .iconst 0, 1, 0, 0, 0, 0, []),
  (131, .istore 5, 2, 0, 0, 0, 0, []),
  (133, .iload 5, 2, 0, 0, 0, 0, []),
  (135, .iload 4, 2, 0, 0, 0, 0, []),
  (137, .if_icmp .ge 28, 3, 92, 0, 0, 0, []),
  (140, .aload_n 0, 1, 0, 0, 0, 0, []),
  (141, .getfield 22, 3, 9, 7, 789, 0, []),
  (144, .bipush 60, 2, 0, 0, 0, 0, []),
  (146, .iload_n 1, 1, 0, 0, 0, 0, []),
  (147, .imul, 1, 0, 0, 0, 0, []),
  (148, .iload 5, 2, 0, 0, 0, 0, []),
  (150, .iadd, 1, 0, 0, 0, 0, []),
  (151, .aload_n 0, 1, 0, 0, 0, 0, []),
  (152, .getfield 47, 3, 9, 23, 805, 0, []),
  (155, .iload 5, 2, 0, 0, 0, 0, []),
  (157, .iaload, 1, 0, 0, 0, 0, []),
  (158, .iastore, 1, 0, 0, 0, 0, []),
  (159, .iinc 5 1, 3, 0, 0, 0, 0, []),
  (162, .goto (-29), 3, 75, 0, 0, 0, []),
  (165, .iload 4, 2, 0, 0, 0, 0, []),
  (167, .ireturn, 1, 0, 0, 0, 0, [])]
def m_X9_chain : am_M := (yX9_chain, cX9_chain, 6, some .int)
def t_X9_turn : List ri_row := [(0, .aload_n 0, 1, 0, 0, 0, 0, []),
  (1, .iload_n 1, 1, 0, 0, 0, 0, []),
  (2, .invokevirtual 218, 3, 150, 9, 997, 0, []),
  (5, .ifCond .ne 11, 3, 8, 0, 0, 0, []),
  (8, .aload_n 0, 1, 0, 0, 0, 0, []),
  (9, .iload_n 2, 1, 0, 0, 0, 0, []),
  (10, .invokevirtual 218, 3, 150, 9, 997, 0, []),
  (13, .ifCond .eq 7, 3, 10, 0, 0, 0, []),
  (16, .sipush (-1001), 3, 0, 0, 0, 0, []),
  (19, .ireturn, 1, 0, 0, 0, 0, []),
  (20, .aload_n 0, 1, 0, 0, 0, 0, []),
  (21, .getfield 19, 3, 9, 6, 788, 0, []),
  (24, .iload_n 2, 1, 0, 0, 0, 0, []),
  (25, .iaload, 1, 0, 0, 0, 0, []),
  (26, .istore_n 3, 1, 0, 0, 0, 0, []),
  (27, .iconst 0, 1, 0, 0, 0, 0, []),
  (28, .istore 4, 2, 0, 0, 0, 0, []),
  (30, .iload 4, 2, 0, 0, 0, 0, []),
  (32, .iload_n 3, 1, 0, 0, 0, 0, []),
  (33, .if_icmp .ge 32, 3, 38, 0, 0, 0, []),
  (36, .aload_n 0, 1, 0, 0, 0, 0, []),
  (37, .getfield 47, 3, 9, 23, 805, 0, []),
  (40, .iload 4, 2, 0, 0, 0, 0, []),
  (42, .aload_n 0, 1, 0, 0, 0, 0, []),
  (43, .getfield 22, 3, 9, 7, 789, 0, []),
  (46, .bipush 60, 2, 0, 0, 0, 0, []),
  (48, .iload_n 2, 1, 0, 0, 0, 0, []),
  (49, .imul, 1, 0, 0, 0, 0, []),
  (50, .iload_n 3, 1, 0, 0, 0, 0, []),
  (51, .iadd, 1, 0, 0, 0, 0, []),
  (52, .iconst 1, 1, 0, 0, 0, 0, []),
  (53, .isub, 1, 0, 0, 0, 0, []),
  (54, .iload 4, 2, 0, 0, 0, 0, []),
  (56, .isub, 1, 0, 0, 0, 0, []),
  (57, .iaload, 1, 0, 0, 0, 0, []),
  (58, .iastore, 1, 0, 0, 0, 0, []),
  (59, .iinc 4 1, 3, 0, 0, 0, 0, []),
  (62, .goto (-32), 3, 17, 0, 0, 0, []),
  (65, .aload_n 0, 1, 0, 0, 0, 0, []),
  (66, .getfield 19, 3, 9, 6, 788, 0, []),
  (69, .iload_n 1, 1, 0, 0, 0, 0, []),
  (70, .iload_n 3, 1, 0, 0, 0, 0, []),
  (71, .iastore, 1, 0, 0, 0, 0, []),
  (72, .iconst 0, 1, 0, 0, 0, 0, []),
  (73, .istore 4, 2, 0, 0, 0, 0, []),
  (75, .iload 4, 2, 0, 0, 0, 0, []),
  (77, .iload_n 3, 1, 0, 0, 0, 0, []),
  (78, .if_icmp .ge 54, 3, 78, 0, 0, 0, []),
  (81, .aload_n 0, 1, 0, 0, 0, 0, []),
  (82, .getfield 22, 3, 9, 7, 789, 0, []),
  (85, .bipush 60, 2, 0, 0, 0, 0, []),
  (87, .iload_n 1, 1, 0, 0, 0, 0, []),
  (88, .imul, 1, 0, 0, 0, 0, []),
  (89, .iload 4, 2, 0, 0, 0, 0, []),
  (91, .iadd, 1, 0, 0, 0, 0, []),
  (92, .aload_n 0, 1, 0, 0, 0, 0, []),
  (93, .getfield 47, 3, 9, 23, 805, 0, []),
  (96, .iload 4, 2, 0, 0, 0, 0, []),
  (98, .iaload, 1, 0, 0, 0, 0, []),
  (99, .iconst 2, 1, 0, 0, 0, 0, []),
  (100, .irem, 1, 0, 0, 0, 0, []),
  (101, .ifCond .ne 15, 3, 69, 0, 0, 0, []),
  (104, .aload_n 0, 1, 0, 0, 0, 0, []),
  (105, .getfield 47, 3, 9, 23, 805, 0, []),
  (108, .iload 4, 2, 0, 0, 0, 0, []),
  (110, .iaload, 1, 0, 0, 0, 0, []),
  (111, .iconst 1, 1, 0, 0, 0, 0, []),
  (112, .iadd, 1, 0, 0, 0, 0, []),
  (113, .goto 12, 3, 75, 0, 0, 0, []),
  (116, .aload_n 0, 1, 0, 0, 0, 0, []),
  (117, .getfield 47, 3, 9, 23, 805, 0, []),
  (120, .iload 4, 2, 0, 0, 0, 0, []),
  (122, .iaload, 1, 0, 0, 0, 0, []),
  (123, .iconst 1, 1, 0, 0, 0, 0, []),
  (124, .isub, 1, 0, 0, 0, 0, []),
  (125, .iastore, 1, 0, 0, 0, 0, []),
  (126, .iinc 4 1, 3, 0, 0, 0, 0, []),
  (129, .goto (-54), 3, 45, 0, 0, 0, []),
  (132, .iload_n 3, 1, 0, 0, 0, 0, []),
  (133, .ireturn, 1, 0, 0, 0, 0, [])]
def m_X9_turn : am_M := (yX9_turn, cX9_turn, 5, some .int)
def t_X9_image : List ri_row := [(0, .aload_n 0, 1, 0, 0, 0, 0, []),
  (1, .iload_n 1, 1, 0, 0, 0, 0, []),
  (2, .invokevirtual 218, 3, 150, 9, 997, 0, []),
  (5, .ifCond .eq 7, 3, 6, 0, 0, 0, []),
  (8, .sipush (-1001), 3, 0, 0, 0, 0, []),
  (11, .ireturn, 1, 0, 0, 0, 0, []),
  (12, .iload_n 2, 1, 0, 0, 0, 0, []),
  (13, .i2l, 1, 0, 0, 0, 0, []),
  (14, .lconst 1, 1, 0, 0, 0, 0, []),
  (15, .iconst 2, 1, 0, 0, 0, 0, []),
  (16, .aload_n 0, 1, 0, 0, 0, 0, []),
  (17, .getfield 64, 3, 9, 0, 782, 0, []),
  (20, .imul, 1, 0, 0, 0, 0, []),
  (21, .i2l, 1, 0, 0, 0, 0, []),
  (22, .invokestatic 75, 3, 110, 0, 873, 0, []),
  (25, .ifCond .ne 7, 3, 18, 0, 0, 0, []),
  (28, .sipush (-1002), 3, 0, 0, 0, 0, []),
  (31, .ireturn, 1, 0, 0, 0, 0, []),
  (32, .aload_n 0, 1, 0, 0, 0, 0, []),
  (33, .iload_n 2, 1, 0, 0, 0, 0, []),
  (34, .invokevirtual 224, 3, 147, 9, 1048, 0, []),
  (37, .aload_n 0, 1, 0, 0, 0, 0, []),
  (38, .iload_n 1, 1, 0, 0, 0, 0, []),
  (39, .invokevirtual 227, 3, 146, 9, 1052, 0, []),
  (42, .ifCond .ne 7, 3, 27, 0, 0, 0, []),
  (45, .sipush (-1005), 3, 0, 0, 0, 0, []),
  (48, .ireturn, 1, 0, 0, 0, 0, []),
  (49, .iload_n 3, 1, 0, 0, 0, 0, []),
  (50, .iconst (-1), 1, 0, 0, 0, 0, []),
  (51, .if_icmp .ne 10, 3, 33, 0, 0, 0, []),
  (54, .aload_n 0, 1, 0, 0, 0, 0, []),
  (55, .getfield 167, 3, 9, 13, 795, 0, []),
  (58, .goto 29, 3, 49, 0, 0, 0, []),
  (61, .iload_n 3, 1, 0, 0, 0, 0, []),
  (62, .i2l, 1, 0, 0, 0, 0, []),
  (63, .lconst 0, 1, 0, 0, 0, 0, []),
  (64, .aload_n 0, 1, 0, 0, 0, 0, []),
  (65, .getfield 167, 3, 9, 13, 795, 0, []),
  (68, .iconst 1, 1, 0, 0, 0, 0, []),
  (69, .isub, 1, 0, 0, 0, 0, []),
  (70, .i2l, 1, 0, 0, 0, 0, []),
  (71, .invokestatic 75, 3, 110, 0, 873, 0, []),
  (74, .ifCond .eq 12, 3, 48, 0, 0, 0, []),
  (77, .aload_n 0, 1, 0, 0, 0, 0, []),
  (78, .getfield 31, 3, 9, 12, 794, 0, []),
  (81, .iload_n 3, 1, 0, 0, 0, 0, []),
  (82, .iaload, 1, 0, 0, 0, 0, []),
  (83, .goto 4, 3, 49, 0, 0, 0, []),
  (86, .iconst 0, 1, 0, 0, 0, 0, []),
  (87, .ireturn, 1, 0, 0, 0, 0, [])]
def m_X9_image : am_M := (yX9_image, cX9_image, 4, some .int)
def t_X9_carried : List ri_row := [(0, .aload_n 0, 1, 0, 0, 0, 0, []),
  (1, .iload_n 1, 1, 0, 0, 0, 0, []),
  (2, .invokevirtual 218, 3, 150, 9, 997, 0, []),
  (5, .ifCond .ne 24, 3, 15, 0, 0, 0, []),
  (8, .aload_n 0, 1, 0, 0, 0, 0, []),
  (9, .iload_n 2, 1, 0, 0, 0, 0, []),
  (10, .invokevirtual 100, 3, 118, 9, 896, 0, []),
  (13, .ifCond .ne 16, 3, 15, 0, 0, 0, []),
  (16, .iload_n 3, 1, 0, 0, 0, 0, []),
  (17, .iconst (-1), 1, 0, 0, 0, 0, []),
  (18, .if_icmp .eq 15, 3, 17, 0, 0, 0, []),
  (21, .aload_n 0, 1, 0, 0, 0, 0, []),
  (22, .iload_n 3, 1, 0, 0, 0, 0, []),
  (23, .invokevirtual 100, 3, 118, 9, 896, 0, []),
  (26, .ifCond .eq 7, 3, 17, 0, 0, 0, []),
  (29, .sipush (-1001), 3, 0, 0, 0, 0, []),
  (32, .ireturn, 1, 0, 0, 0, 0, []),
  (33, .aload_n 0, 1, 0, 0, 0, 0, []),
  (34, .iload_n 2, 1, 0, 0, 0, 0, []),
  (35, .invokevirtual 230, 3, 148, 9, 1076, 0, []),
  (38, .aload_n 0, 1, 0, 0, 0, 0, []),
  (39, .iload_n 1, 1, 0, 0, 0, 0, []),
  (40, .invokevirtual 227, 3, 146, 9, 1052, 0, []),
  (43, .ifCond .ne 7, 3, 26, 0, 0, 0, []),
  (46, .sipush (-1005), 3, 0, 0, 0, 0, []),
  (49, .ireturn, 1, 0, 0, 0, 0, []),
  (50, .aload_n 0, 1, 0, 0, 0, 0, []),
  (51, .invokevirtual 233, 3, 149, 9, 1080, 0, []),
  (54, .iload_n 3, 1, 0, 0, 0, 0, []),
  (55, .iconst (-1), 1, 0, 0, 0, 0, []),
  (56, .if_icmp .ne 8, 3, 34, 0, 0, 0, []),
  (59, .aload_n 0, 1, 0, 0, 0, 0, []),
  (60, .getfield 83, 3, 9, 9, 791, 0, []),
  (63, .ireturn, 1, 0, 0, 0, 0, []),
  (64, .aload_n 0, 1, 0, 0, 0, 0, []),
  (65, .iload_n 3, 1, 0, 0, 0, 0, []),
  (66, .invokevirtual 106, 3, 121, 9, 904, 0, []),
  (69, .aload_n 0, 1, 0, 0, 0, 0, []),
  (70, .invokevirtual 109, 3, 126, 9, 908, 0, []),
  (73, .invokestatic 112, 3, 111, 0, 924, 0, []),
  (76, .ireturn, 1, 0, 0, 0, 0, [])]
def m_X9_carried : am_M := (yX9_carried, cX9_carried, 4, some .int)
def t_X9_meetsThen : List ri_row := [(0, .aload_n 0, 1, 0, 0, 0, 0, []),
  (1, .iload_n 1, 1, 0, 0, 0, 0, []),
  (2, .invokevirtual 218, 3, 150, 9, 997, 0, []),
  (5, .ifCond .ne 19, 3, 12, 0, 0, 0, []),
  (8, .aload_n 0, 1, 0, 0, 0, 0, []),
  (9, .iload_n 2, 1, 0, 0, 0, 0, []),
  (10, .invokevirtual 100, 3, 118, 9, 896, 0, []),
  (13, .ifCond .ne 11, 3, 12, 0, 0, 0, []),
  (16, .aload_n 0, 1, 0, 0, 0, 0, []),
  (17, .iload_n 3, 1, 0, 0, 0, 0, []),
  (18, .invokevirtual 100, 3, 118, 9, 896, 0, []),
  (21, .ifCond .eq 7, 3, 14, 0, 0, 0, []),
  (24, .sipush (-1001), 3, 0, 0, 0, 0, []),
  (27, .ireturn, 1, 0, 0, 0, 0, []),
  (28, .aload_n 0, 1, 0, 0, 0, 0, []),
  (29, .iload_n 2, 1, 0, 0, 0, 0, []),
  (30, .invokevirtual 145, 3, 128, 9, 931, 0, []),
  (33, .ifCond .ne 11, 3, 22, 0, 0, 0, []),
  (36, .aload_n 0, 1, 0, 0, 0, 0, []),
  (37, .iload_n 3, 1, 0, 0, 0, 0, []),
  (38, .invokevirtual 145, 3, 128, 9, 931, 0, []),
  (41, .ifCond .eq 7, 3, 24, 0, 0, 0, []),
  (44, .sipush (-1003), 3, 0, 0, 0, 0, []),
  (47, .ireturn, 1, 0, 0, 0, 0, []),
  (48, .aload_n 0, 1, 0, 0, 0, 0, []),
  (49, .iload_n 2, 1, 0, 0, 0, 0, []),
  (50, .invokevirtual 230, 3, 148, 9, 1076, 0, []),
  (53, .aload_n 0, 1, 0, 0, 0, 0, []),
  (54, .iload_n 1, 1, 0, 0, 0, 0, []),
  (55, .invokevirtual 227, 3, 146, 9, 1052, 0, []),
  (58, .ifCond .ne 7, 3, 33, 0, 0, 0, []),
  (61, .sipush (-1005), 3, 0, 0, 0, 0, []),
  (64, .ireturn, 1, 0, 0, 0, 0, []),
  (65, .aload_n 0, 1, 0, 0, 0, 0, []),
  (66, .invokevirtual 233, 3, 149, 9, 1080, 0, []),
  (69, .aload_n 0, 1, 0, 0, 0, 0, []),
  (70, .iload_n 3, 1, 0, 0, 0, 0, []),
  (71, .invokevirtual 106, 3, 121, 9, 904, 0, []),
  (74, .aload_n 0, 1, 0, 0, 0, 0, []),
  (75, .invokevirtual 141, 3, 135, 9, 939, 0, []),
  (78, .ireturn, 1, 0, 0, 0, 0, [])]
def m_X9_meetsThen : am_M := (yX9_meetsThen, cX9_meetsThen, 4, some .int)
def t_X9_startImages : List ri_row := [(0, .iconst 0, 1, 0, 0, 0, 0, []),
  (1, .istore_n 1, 1, 0, 0, 0, 0, []),
  (2, .iload_n 1, 1, 0, 0, 0, 0, []),
  (3, .iconst 2, 1, 0, 0, 0, 0, []),
  (4, .aload_n 0, 1, 0, 0, 0, 0, []),
  (5, .getfield 64, 3, 9, 0, 782, 0, []),
  (8, .imul, 1, 0, 0, 0, 0, []),
  (9, .if_icmp .ge 29, 3, 24, 0, 0, 0, []),
  (12, .aload_n 0, 1, 0, 0, 0, 0, []),
  (13, .getfield 53, 3, 9, 26, 808, 0, []),
  (16, .iload_n 1, 1, 0, 0, 0, 0, []),
  (17, .iconst 1, 1, 0, 0, 0, 0, []),
  (18, .iastore, 1, 0, 0, 0, 0, []),
  (19, .aload_n 0, 1, 0, 0, 0, 0, []),
  (20, .getfield 50, 3, 9, 25, 807, 0, []),
  (23, .sipush 400, 3, 0, 0, 0, 0, []),
  (26, .iload_n 1, 1, 0, 0, 0, 0, []),
  (27, .imul, 1, 0, 0, 0, 0, []),
  (28, .iload_n 1, 1, 0, 0, 0, 0, []),
  (29, .iconst 1, 1, 0, 0, 0, 0, []),
  (30, .iadd, 1, 0, 0, 0, 0, []),
  (31, .iastore, 1, 0, 0, 0, 0, []),
  (32, .iinc 1 1, 3, 0, 0, 0, 0, []),
  (35, .goto (-33), 3, 2, 0, 0, 0, []),
  (38, .return_, 1, 0, 0, 0, 0, [])]
def m_X9_startImages : am_M := (yX9_startImages, cX9_startImages, 2, none)
def t_X9_goOn : List ri_row := [(0, .iconst 0, 1, 0, 0, 0, 0, []),
  (1, .istore_n 2, 1, 0, 0, 0, 0, []),
  (2, .iload_n 2, 1, 0, 0, 0, 0, []),
  (3, .iconst 2, 1, 0, 0, 0, 0, []),
  (4, .aload_n 0, 1, 0, 0, 0, 0, []),
  (5, .getfield 64, 3, 9, 0, 782, 0, []),
  (8, .imul, 1, 0, 0, 0, 0, []),
  (9, .if_icmp .ge 107, 3, 68, 0, 0, 0, []),
  (12, .aload_n 0, 1, 0, 0, 0, 0, []),
  (13, .aload_n 0, 1, 0, 0, 0, 0, []),
  (14, .getfield 53, 3, 9, 26, 808, 0, []),
  (17, .iload_n 2, 1, 0, 0, 0, 0, []),
  (18, .iaload, 1, 0, 0, 0, 0, []),
  (19, .putfield 167, 3, 9, 13, 795, 0, []),
  (22, .iconst 0, 1, 0, 0, 0, 0, []),
  (23, .istore_n 3, 1, 0, 0, 0, 0, []),
  (24, .iload_n 3, 1, 0, 0, 0, 0, []),
  (25, .aload_n 0, 1, 0, 0, 0, 0, []),
  (26, .getfield 167, 3, 9, 13, 795, 0, []),
  (29, .if_icmp .ge 27, 3, 34, 0, 0, 0, []),
  (32, .aload_n 0, 1, 0, 0, 0, 0, []),
  (33, .getfield 31, 3, 9, 12, 794, 0, []),
  (36, .iload_n 3, 1, 0, 0, 0, 0, []),
  (37, .aload_n 0, 1, 0, 0, 0, 0, []),
  (38, .getfield 50, 3, 9, 25, 807, 0, []),
  (41, .sipush 400, 3, 0, 0, 0, 0, []),
  (44, .iload_n 2, 1, 0, 0, 0, 0, []),
  (45, .imul, 1, 0, 0, 0, 0, []),
  (46, .iload_n 3, 1, 0, 0, 0, 0, []),
  (47, .iadd, 1, 0, 0, 0, 0, []),
  (48, .iaload, 1, 0, 0, 0, 0, []),
  (49, .iastore, 1, 0, 0, 0, 0, []),
  (50, .iinc 3 1, 3, 0, 0, 0, 0, []),
  (53, .goto (-29), 3, 16, 0, 0, 0, []),
  (56, .aload_n 0, 1, 0, 0, 0, 0, []),
  (57, .iload_n 1, 1, 0, 0, 0, 0, []),
  (58, .invokevirtual 227, 3, 146, 9, 1052, 0, []),
  (61, .ifCond .ne 5, 3, 40, 0, 0, 0, []),
  (64, .iconst 0, 1, 0, 0, 0, 0, []),
  (65, .ireturn, 1, 0, 1, 0, 0, []),
  (66, .aload_n 0, 1, 0, 0, 0, 0, []),
  (67, .getfield 53, 3, 9, 26, 808, 0, []),
  (70, .iload_n 2, 1, 0, 0, 0, 0, []),
  (71, .aload_n 0, 1, 0, 0, 0, 0, []),
  (72, .getfield 167, 3, 9, 13, 795, 0, []),
  (75, .iastore, 1, 0, 0, 0, 0, []),
  (76, .iconst 0, 1, 0, 0, 0, 0, []),
  (77, .istore_n 3, 1, 0, 0, 0, 0, []),
  (78, .iload_n 3, 1, 0, 0, 0, 0, []),
  (79, .aload_n 0, 1, 0, 0, 0, 0, []),
  (80, .getfield 167, 3, 9, 13, 795, 0, []),
  (83, .if_icmp .ge 27, 3, 66, 0, 0, 0, []),
  (86, .aload_n 0, 1, 0, 0, 0, 0, []),
  (87, .getfield 50, 3, 9, 25, 807, 0, []),
  (90, .sipush 400, 3, 0, 0, 0, 0, []),
  (93, .iload_n 2, 1, 0, 0, 0, 0, []),
  (94, .imul, 1, 0, 0, 0, 0, []),
  (95, .iload_n 3, 1, 0, 0, 0, 0, []),
  (96, .iadd, 1, 0, 0, 0, 0, []),
  (97, .aload_n 0, 1, 0, 0, 0, 0, []),
  (98, .getfield 31, 3, 9, 12, 794, 0, []),
  (101, .iload_n 3, 1, 0, 0, 0, 0, []),
  (102, .iaload, 1, 0, 0, 0, 0, []),
  (103, .iastore, 1, 0, 0, 0, 0, []),
  (104, .iinc 3 1, 3, 0, 0, 0, 0, []),
  (107, .goto (-29), 3, 48, 0, 0, 0, []),
  (110, .iinc 2 1, 3, 0, 0, 0, 0, []),
  (113, .goto (-111), 3, 2, 0, 0, 0, []),
  (116, .iconst 1, 1, 0, 0, 0, 0, []),
  (117, .ireturn, 1, 0, 1, 0, 0, [])]
def m_X9_goOn : am_M := (yX9_goOn, cX9_goOn, 4, some .boolean)
def t_X9_findImages : List ri_row := [(0, .aload_n 0, 1, 0, 0, 0, 0, []),
  (1, .invokevirtual 236, 3, 166, 9, 1096, 0, []),
  (4, .aload_n 0, 1, 0, 0, 0, 0, []),
  (5, .iload_n 1, 1, 0, 0, 0, 0, []),
  (6, .invokevirtual 239, 3, 167, 9, 1100, 0, []),
  (9, .ireturn, 1, 0, 1, 0, 0, [])]
def m_X9_findImages : am_M := (yX9_findImages, cX9_findImages, 2, some .boolean)
def t_X9_isImage : List ri_row := [(0, .aload_n 0, 1, 0, 0, 0, 0, []),
  (1, .getfield 167, 3, 9, 13, 795, 0, []),
  (4, .aload_n 0, 1, 0, 0, 0, 0, []),
  (5, .getfield 53, 3, 9, 26, 808, 0, []),
  (8, .iload_n 1, 1, 0, 0, 0, 0, []),
  (9, .iaload, 1, 0, 0, 0, 0, []),
  (10, .if_icmp .ne 7, 3, 9, 0, 0, 0, []),
  (13, .iconst 1, 1, 0, 0, 0, 0, []),
  (14, .goto 4, 3, 10, 0, 0, 0, []),
  (17, .iconst 0, 1, 0, 0, 0, 0, []),
  (18, .istore_n 2, 1, 0, 0, 0, 0, []),
  (19, .iconst 0, 1, 0, 0, 0, 0, []),
  (20, .istore_n 3, 1, 0, 0, 0, 0, []),
  (21, .iload_n 3, 1, 0, 0, 0, 0, []),
  (22, .aload_n 0, 1, 0, 0, 0, 0, []),
  (23, .getfield 167, 3, 9, 13, 795, 0, []),
  (26, .if_icmp .ge 40, 3, 38, 0, 0, 0, []),
  (29, .iload_n 2, 1, 0, 0, 0, 0, []),
  (30, .ifCond .eq 36, 3, 38, 0, 0, 0, []),
  (33, .aload_n 0, 1, 0, 0, 0, 0, []),
  (34, .getfield 31, 3, 9, 12, 794, 0, []),
  (37, .iload_n 3, 1, 0, 0, 0, 0, []),
  (38, .iaload, 1, 0, 0, 0, 0, []),
  (39, .aload_n 0, 1, 0, 0, 0, 0, []),
  (40, .getfield 50, 3, 9, 25, 807, 0, []),
  (43, .sipush 400, 3, 0, 0, 0, 0, []),
  (46, .iload_n 1, 1, 0, 0, 0, 0, []),
  (47, .imul, 1, 0, 0, 0, 0, []),
  (48, .iload_n 3, 1, 0, 0, 0, 0, []),
  (49, .iadd, 1, 0, 0, 0, 0, []),
  (50, .iaload, 1, 0, 0, 0, 0, []),
  (51, .if_icmp .ne 7, 3, 34, 0, 0, 0, []),
  (54, .iconst 1, 1, 0, 0, 0, 0, []),
  (55, .goto 4, 3, 35, 0, 0, 0, []),
  (58, .iconst 0, 1, 0, 0, 0, 0, []),
  (59, .istore_n 2, 1, 0, 0, 0, 0, []),
  (60, .iinc 3 1, 3, 0, 0, 0, 0, []),
  (63, .goto (-42), 3, 13, 0, 0, 0, []),
  (66, .iload_n 2, 1, 0, 0, 0, 0, []),
  (67, .ireturn, 1, 0, 1, 0, 0, [])]
def m_X9_isImage : am_M := (yX9_isImage, cX9_isImage, 4, some .boolean)
def t_X9_same : List ri_row := [(0, .aload_n 0, 1, 0, 0, 0, 0, []),
  (1, .iload_n 1, 1, 0, 0, 0, 0, []),
  (2, .invokevirtual 218, 3, 150, 9, 997, 0, []),
  (5, .ifCond .ne 11, 3, 8, 0, 0, 0, []),
  (8, .aload_n 0, 1, 0, 0, 0, 0, []),
  (9, .iload_n 2, 1, 0, 0, 0, 0, []),
  (10, .invokevirtual 218, 3, 150, 9, 997, 0, []),
  (13, .ifCond .eq 7, 3, 10, 0, 0, 0, []),
  (16, .sipush (-1001), 3, 0, 0, 0, 0, []),
  (19, .ireturn, 1, 0, 0, 0, 0, []),
  (20, .aload_n 0, 1, 0, 0, 0, 0, []),
  (21, .iload_n 1, 1, 0, 0, 0, 0, []),
  (22, .invokevirtual 242, 3, 168, 9, 1092, 0, []),
  (25, .ifCond .ne 7, 3, 16, 0, 0, 0, []),
  (28, .sipush (-1005), 3, 0, 0, 0, 0, []),
  (31, .ireturn, 1, 0, 0, 0, 0, []),
  (32, .iconst (-1), 1, 0, 0, 0, 0, []),
  (33, .istore_n 3, 1, 0, 0, 0, 0, []),
  (34, .iconst 2, 1, 0, 0, 0, 0, []),
  (35, .aload_n 0, 1, 0, 0, 0, 0, []),
  (36, .getfield 64, 3, 9, 0, 782, 0, []),
  (39, .imul, 1, 0, 0, 0, 0, []),
  (40, .iconst 1, 1, 0, 0, 0, 0, []),
  (41, .isub, 1, 0, 0, 0, 0, []),
  (42, .istore 4, 2, 0, 0, 0, 0, []),
  (44, .iload 4, 2, 0, 0, 0, 0, []),
  (46, .ifCond .lt 47, 3, 50, 0, 0, 0, []),
  (49, .aload_n 0, 1, 0, 0, 0, 0, []),
  (50, .iload 4, 2, 0, 0, 0, 0, []),
  (52, .iconst 1, 1, 0, 0, 0, 0, []),
  (53, .iadd, 1, 0, 0, 0, 0, []),
  (54, .invokevirtual 224, 3, 147, 9, 1048, 0, []),
  (57, .aload_n 0, 1, 0, 0, 0, 0, []),
  (58, .iload_n 2, 1, 0, 0, 0, 0, []),
  (59, .invokevirtual 227, 3, 146, 9, 1052, 0, []),
  (62, .ifCond .ne 7, 3, 38, 0, 0, 0, []),
  (65, .sipush (-1005), 3, 0, 0, 0, 0, []),
  (68, .ireturn, 1, 0, 0, 0, 0, []),
  (69, .aload_n 0, 1, 0, 0, 0, 0, []),
  (70, .iload 4, 2, 0, 0, 0, 0, []),
  (72, .invokevirtual 245, 3, 169, 9, 1104, 0, []),
  (75, .ifCond .eq 7, 3, 44, 0, 0, 0, []),
  (78, .iload_n 3, 1, 0, 0, 0, 0, []),
  (79, .goto 7, 3, 47, 0, 0, 0, []),
  (82, .iload 4, 2, 0, 0, 0, 0, []),
  (84, .iconst 1, 1, 0, 0, 0, 0, []),
  (85, .iadd, 1, 0, 0, 0, 0, []),
  (86, .istore_n 3, 1, 0, 0, 0, 0, []),
  (87, .iinc 4 (-1), 3, 0, 0, 0, 0, []),
  (90, .goto (-46), 3, 25, 0, 0, 0, []),
  (93, .iload_n 3, 1, 0, 0, 0, 0, []),
  (94, .ireturn, 1, 0, 0, 0, 0, [])]
def m_X9_same : am_M := (yX9_same, cX9_same, 5, some .int)
def t_X9_putRim : List ri_row := [(0, .iconst 0, 1, 0, 0, 0, 0, []),
  (1, .istore_n 2, 1, 0, 0, 0, 0, []),
  (2, .iload_n 2, 1, 0, 0, 0, 0, []),
  (3, .aload_n 0, 1, 0, 0, 0, 0, []),
  (4, .getfield 64, 3, 9, 0, 782, 0, []),
  (7, .if_icmp .ge 114, 3, 79, 0, 0, 0, []),
  (10, .iload_n 1, 1, 0, 0, 0, 0, []),
  (11, .ifCond .eq 14, 3, 15, 0, 0, 0, []),
  (14, .aload_n 0, 1, 0, 0, 0, 0, []),
  (15, .getfield 64, 3, 9, 0, 782, 0, []),
  (18, .iconst 1, 1, 0, 0, 0, 0, []),
  (19, .isub, 1, 0, 0, 0, 0, []),
  (20, .iload_n 2, 1, 0, 0, 0, 0, []),
  (21, .isub, 1, 0, 0, 0, 0, []),
  (22, .goto 4, 3, 16, 0, 0, 0, []),
  (25, .iload_n 2, 1, 0, 0, 0, 0, []),
  (26, .istore_n 3, 1, 0, 0, 0, 0, []),
  (27, .aload_n 0, 1, 0, 0, 0, 0, []),
  (28, .iload_n 1, 1, 0, 0, 0, 0, []),
  (29, .ifCond .eq 11, 3, 26, 0, 0, 0, []),
  (32, .iconst 2, 1, 0, 0, 0, 0, []),
  (33, .iload_n 3, 1, 0, 0, 0, 0, []),
  (34, .imul, 1, 0, 0, 0, 0, []),
  (35, .iconst 2, 1, 0, 0, 0, 0, []),
  (36, .iadd, 1, 0, 0, 0, 0, []),
  (37, .goto 8, 3, 31, 0, 0, 0, []),
  (40, .iconst 2, 1, 0, 0, 0, 0, []),
  (41, .iload_n 3, 1, 0, 0, 0, 0, []),
  (42, .imul, 1, 0, 0, 0, 0, []),
  (43, .iconst 1, 1, 0, 0, 0, 0, []),
  (44, .iadd, 1, 0, 0, 0, 0, []),
  (45, .invokevirtual 160, 3, 142, 9, 1064, 0, []),
  (48, .aload_n 0, 1, 0, 0, 0, 0, []),
  (49, .iload_n 1, 1, 0, 0, 0, 0, []),
  (50, .ifCond .eq 11, 3, 41, 0, 0, 0, []),
  (53, .iconst 2, 1, 0, 0, 0, 0, []),
  (54, .iload_n 3, 1, 0, 0, 0, 0, []),
  (55, .imul, 1, 0, 0, 0, 0, []),
  (56, .iconst 1, 1, 0, 0, 0, 0, []),
  (57, .iadd, 1, 0, 0, 0, 0, []),
  (58, .goto 8, 3, 46, 0, 0, 0, []),
  (61, .iconst 2, 1, 0, 0, 0, 0, []),
  (62, .iload_n 3, 1, 0, 0, 0, 0, []),
  (63, .imul, 1, 0, 0, 0, 0, []),
  (64, .iconst 2, 1, 0, 0, 0, 0, []),
  (65, .iadd, 1, 0, 0, 0, 0, []),
  (66, .invokevirtual 160, 3, 142, 9, 1064, 0, []),
  (69, .aload_n 0, 1, 0, 0, 0, 0, []),
  (70, .iload_n 1, 1, 0, 0, 0, 0, []),
  (71, .ifCond .eq 12, 3, 56, 0, 0, 0, []),
  (74, .bipush (-2), 2, 0, 0, 0, 0, []),
  (76, .iload_n 3, 1, 0, 0, 0, 0, []),
  (77, .imul, 1, 0, 0, 0, 0, []),
  (78, .iconst 2, 1, 0, 0, 0, 0, []),
  (79, .isub, 1, 0, 0, 0, 0, []),
  (80, .goto 9, 3, 61, 0, 0, 0, []),
  (83, .bipush (-2), 2, 0, 0, 0, 0, []),
  (85, .iload_n 3, 1, 0, 0, 0, 0, []),
  (86, .imul, 1, 0, 0, 0, 0, []),
  (87, .iconst 1, 1, 0, 0, 0, 0, []),
  (88, .isub, 1, 0, 0, 0, 0, []),
  (89, .invokevirtual 160, 3, 142, 9, 1064, 0, []),
  (92, .aload_n 0, 1, 0, 0, 0, 0, []),
  (93, .iload_n 1, 1, 0, 0, 0, 0, []),
  (94, .ifCond .eq 12, 3, 71, 0, 0, 0, []),
  (97, .bipush (-2), 2, 0, 0, 0, 0, []),
  (99, .iload_n 3, 1, 0, 0, 0, 0, []),
  (100, .imul, 1, 0, 0, 0, 0, []),
  (101, .iconst 1, 1, 0, 0, 0, 0, []),
  (102, .isub, 1, 0, 0, 0, 0, []),
  (103, .goto 9, 3, 76, 0, 0, 0, []),
  (106, .bipush (-2), 2, 0, 0, 0, 0, []),
  (108, .iload_n 3, 1, 0, 0, 0, 0, []),
  (109, .imul, 1, 0, 0, 0, 0, []),
  (110, .iconst 2, 1, 0, 0, 0, 0, []),
  (111, .isub, 1, 0, 0, 0, 0, []),
  (112, .invokevirtual 160, 3, 142, 9, 1064, 0, []),
  (115, .iinc 2 1, 3, 0, 0, 0, 0, []),
  (118, .goto (-116), 3, 2, 0, 0, 0, []),
  (121, .return_, 1, 0, 0, 0, 0, [])]
def m_X9_putRim : am_M := (yX9_putRim, cX9_putRim, 4, none)
def t_X9_isTurns : List ri_row := [(0, .iconst 1, 1, 0, 0, 0, 0, []),
  (1, .istore_n 2, 1, 0, 0, 0, 0, []),
  (2, .iconst 0, 1, 0, 0, 0, 0, []),
  (3, .istore_n 3, 1, 0, 0, 0, 0, []),
  (4, .iload_n 3, 1, 0, 0, 0, 0, []),
  (5, .iconst 2, 1, 0, 0, 0, 0, []),
  (6, .aload_n 0, 1, 0, 0, 0, 0, []),
  (7, .getfield 64, 3, 9, 0, 782, 0, []),
  (10, .imul, 1, 0, 0, 0, 0, []),
  (11, .if_icmp .ge 142, 3, 82, 0, 0, 0, []),
  (14, .iload_n 2, 1, 0, 0, 0, 0, []),
  (15, .ifCond .eq 138, 3, 82, 0, 0, 0, []),
  (18, .aload_n 0, 1, 0, 0, 0, 0, []),
  (19, .iconst 0, 1, 0, 0, 0, 0, []),
  (20, .putfield 157, 3, 9, 15, 797, 0, []),
  (23, .iload_n 1, 1, 0, 0, 0, 0, []),
  (24, .ifCond .ge 9, 3, 21, 0, 0, 0, []),
  (27, .iconst 0, 1, 0, 0, 0, 0, []),
  (28, .iload_n 1, 1, 0, 0, 0, 0, []),
  (29, .isub, 1, 0, 0, 0, 0, []),
  (30, .goto 4, 3, 22, 0, 0, 0, []),
  (33, .iload_n 1, 1, 0, 0, 0, 0, []),
  (34, .istore 4, 2, 0, 0, 0, 0, []),
  (36, .iconst 0, 1, 0, 0, 0, 0, []),
  (37, .istore 5, 2, 0, 0, 0, 0, []),
  (39, .iload 5, 2, 0, 0, 0, 0, []),
  (41, .iload 4, 2, 0, 0, 0, 0, []),
  (43, .if_icmp .ge 22, 3, 37, 0, 0, 0, []),
  (46, .aload_n 0, 1, 0, 0, 0, 0, []),
  (47, .iload_n 1, 1, 0, 0, 0, 0, []),
  (48, .ifCond .ge 7, 3, 33, 0, 0, 0, []),
  (51, .iconst 1, 1, 0, 0, 0, 0, []),
  (52, .goto 4, 3, 34, 0, 0, 0, []),
  (55, .iconst 0, 1, 0, 0, 0, 0, []),
  (56, .invokevirtual 248, 3, 171, 9, 1120, 0, []),
  (59, .iinc 5 1, 3, 0, 0, 0, 0, []),
  (62, .goto (-23), 3, 25, 0, 0, 0, []),
  (65, .aload_n 0, 1, 0, 0, 0, 0, []),
  (66, .iload_n 3, 1, 0, 0, 0, 0, []),
  (67, .iconst 1, 1, 0, 0, 0, 0, []),
  (68, .iadd, 1, 0, 0, 0, 0, []),
  (69, .invokevirtual 160, 3, 142, 9, 1064, 0, []),
  (72, .iconst 0, 1, 0, 0, 0, 0, []),
  (73, .istore 5, 2, 0, 0, 0, 0, []),
  (75, .iload 5, 2, 0, 0, 0, 0, []),
  (77, .iload 4, 2, 0, 0, 0, 0, []),
  (79, .if_icmp .ge 22, 3, 56, 0, 0, 0, []),
  (82, .aload_n 0, 1, 0, 0, 0, 0, []),
  (83, .iload_n 1, 1, 0, 0, 0, 0, []),
  (84, .ifCond .le 7, 3, 52, 0, 0, 0, []),
  (87, .iconst 1, 1, 0, 0, 0, 0, []),
  (88, .goto 4, 3, 53, 0, 0, 0, []),
  (91, .iconst 0, 1, 0, 0, 0, 0, []),
  (92, .invokevirtual 248, 3, 171, 9, 1120, 0, []),
  (95, .iinc 5 1, 3, 0, 0, 0, 0, []),
  (98, .goto (-23), 3, 44, 0, 0, 0, []),
  (101, .aload_n 0, 1, 0, 0, 0, 0, []),
  (102, .aload_n 0, 1, 0, 0, 0, 0, []),
  (103, .getfield 157, 3, 9, 15, 797, 0, []),
  (106, .putfield 167, 3, 9, 13, 795, 0, []),
  (109, .iconst 0, 1, 0, 0, 0, 0, []),
  (110, .istore 5, 2, 0, 0, 0, 0, []),
  (112, .iload 5, 2, 0, 0, 0, 0, []),
  (114, .aload_n 0, 1, 0, 0, 0, 0, []),
  (115, .getfield 157, 3, 9, 15, 797, 0, []),
  (118, .if_icmp .ge 23, 3, 76, 0, 0, 0, []),
  (121, .aload_n 0, 1, 0, 0, 0, 0, []),
  (122, .getfield 31, 3, 9, 12, 794, 0, []),
  (125, .iload 5, 2, 0, 0, 0, 0, []),
  (127, .aload_n 0, 1, 0, 0, 0, 0, []),
  (128, .getfield 34, 3, 9, 14, 796, 0, []),
  (131, .iload 5, 2, 0, 0, 0, 0, []),
  (133, .iaload, 1, 0, 0, 0, 0, []),
  (134, .iastore, 1, 0, 0, 0, 0, []),
  (135, .iinc 5 1, 3, 0, 0, 0, 0, []),
  (138, .goto (-26), 3, 62, 0, 0, 0, []),
  (141, .aload_n 0, 1, 0, 0, 0, 0, []),
  (142, .iload_n 3, 1, 0, 0, 0, 0, []),
  (143, .invokevirtual 245, 3, 169, 9, 1104, 0, []),
  (146, .istore_n 2, 1, 0, 0, 0, 0, []),
  (147, .iinc 3 1, 3, 0, 0, 0, 0, []),
  (150, .goto (-146), 3, 4, 0, 0, 0, []),
  (153, .iload_n 2, 1, 0, 0, 0, 0, []),
  (154, .ireturn, 1, 0, 1, 0, 0, [])]
def m_X9_isTurns : am_M := (yX9_isTurns, cX9_isTurns, 6, some .boolean)
def t_X9_findTurns : List ri_row := [(0, .iconst 0, 1, 0, 0, 0, 0, []),
  (1, .istore_n 1, 1, 0, 0, 0, 0, []),
  (2, .iload_n 1, 1, 0, 0, 0, 0, []),
  (3, .bipush 6, 2, 0, 0, 0, 0, []),
  (5, .if_icmp .ge 33, 3, 23, 0, 0, 0, []),
  (8, .aload_n 0, 1, 0, 0, 0, 0, []),
  (9, .iload_n 1, 1, 0, 0, 0, 0, []),
  (10, .invokevirtual 252, 3, 172, 9, 1116, 0, []),
  (13, .ifCond .eq 5, 3, 11, 0, 0, 0, []),
  (16, .iload_n 1, 1, 0, 0, 0, 0, []),
  (17, .ireturn, 1, 0, 0, 0, 0, []),
  (18, .aload_n 0, 1, 0, 0, 0, 0, []),
  (19, .iconst 0, 1, 0, 0, 0, 0, []),
  (20, .iload_n 1, 1, 0, 0, 0, 0, []),
  (21, .isub, 1, 0, 0, 0, 0, []),
  (22, .invokevirtual 252, 3, 172, 9, 1116, 0, []),
  (25, .ifCond .eq 7, 3, 21, 0, 0, 0, []),
  (28, .iconst 0, 1, 0, 0, 0, 0, []),
  (29, .iload_n 1, 1, 0, 0, 0, 0, []),
  (30, .isub, 1, 0, 0, 0, 0, []),
  (31, .ireturn, 1, 0, 0, 0, 0, []),
  (32, .iinc 1 1, 3, 0, 0, 0, 0, []),
  (35, .goto (-33), 3, 2, 0, 0, 0, []),
  (38, .bipush 99, 2, 0, 0, 0, 0, []),
  (40, .ireturn, 1, 0, 0, 0, 0, [])]
def m_X9_findTurns : am_M := (yX9_findTurns, cX9_findTurns, 2, some .int)
def t_X9_turns : List ri_row := [(0, .aload_n 0, 1, 0, 0, 0, 0, []),
  (1, .iload_n 1, 1, 0, 0, 0, 0, []),
  (2, .invokevirtual 218, 3, 150, 9, 997, 0, []),
  (5, .ifCond .eq 7, 3, 6, 0, 0, 0, []),
  (8, .sipush (-1001), 3, 0, 0, 0, 0, []),
  (11, .ireturn, 1, 0, 0, 0, 0, []),
  (12, .aload_n 0, 1, 0, 0, 0, 0, []),
  (13, .iload_n 1, 1, 0, 0, 0, 0, []),
  (14, .invokevirtual 242, 3, 168, 9, 1092, 0, []),
  (17, .ifCond .eq 10, 3, 13, 0, 0, 0, []),
  (20, .aload_n 0, 1, 0, 0, 0, 0, []),
  (21, .invokevirtual 255, 3, 173, 9, 1112, 0, []),
  (24, .goto 6, 3, 14, 0, 0, 0, []),
  (27, .sipush (-1005), 3, 0, 0, 0, 0, []),
  (30, .ireturn, 1, 0, 0, 0, 0, [])]
def m_X9_turns : am_M := (yX9_turns, cX9_turns, 2, some .int)
def t_X9_findOrder : List ri_row := [(0, .aload_n 0, 1, 0, 0, 0, 0, []),
  (1, .invokevirtual 236, 3, 166, 9, 1096, 0, []),
  (4, .iconst 1, 1, 0, 0, 0, 0, []),
  (5, .istore_n 3, 1, 0, 0, 0, 0, []),
  (6, .iload_n 3, 1, 0, 0, 0, 0, []),
  (7, .iload_n 2, 1, 0, 0, 0, 0, []),
  (8, .if_icmp .gt 32, 3, 21, 0, 0, 0, []),
  (11, .aload_n 0, 1, 0, 0, 0, 0, []),
  (12, .iload_n 1, 1, 0, 0, 0, 0, []),
  (13, .invokevirtual 239, 3, 167, 9, 1100, 0, []),
  (16, .ifCond .ne 7, 3, 13, 0, 0, 0, []),
  (19, .sipush (-1005), 3, 0, 0, 0, 0, []),
  (22, .ireturn, 1, 0, 0, 0, 0, []),
  (23, .aload_n 0, 1, 0, 0, 0, 0, []),
  (24, .invokevirtual 255, 3, 173, 9, 1112, 0, []),
  (27, .bipush 99, 2, 0, 0, 0, 0, []),
  (29, .if_icmp .eq 5, 3, 19, 0, 0, 0, []),
  (32, .iload_n 3, 1, 0, 0, 0, 0, []),
  (33, .ireturn, 1, 0, 0, 0, 0, []),
  (34, .iinc 3 1, 3, 0, 0, 0, 0, []),
  (37, .goto (-31), 3, 4, 0, 0, 0, []),
  (40, .iconst (-1), 1, 0, 0, 0, 0, []),
  (41, .ireturn, 1, 0, 0, 0, 0, [])]
def m_X9_findOrder : am_M := (yX9_findOrder, cX9_findOrder, 4, some .int)
def t_X9_order : List ri_row := [(0, .aload_n 0, 1, 0, 0, 0, 0, []),
  (1, .iload_n 1, 1, 0, 0, 0, 0, []),
  (2, .invokevirtual 218, 3, 150, 9, 997, 0, []),
  (5, .ifCond .eq 7, 3, 6, 0, 0, 0, []),
  (8, .sipush (-1001), 3, 0, 0, 0, 0, []),
  (11, .ireturn, 1, 0, 0, 0, 0, []),
  (12, .iload_n 2, 1, 0, 0, 0, 0, []),
  (13, .i2l, 1, 0, 0, 0, 0, []),
  (14, .lconst 1, 1, 0, 0, 0, 0, []),
  (15, .ldc2_w 258, 3, 0, 0, 1128, 24, []),
  (18, .invokestatic 75, 3, 110, 0, 873, 0, []),
  (21, .ifCond .eq 12, 3, 17, 0, 0, 0, []),
  (24, .aload_n 0, 1, 0, 0, 0, 0, []),
  (25, .iload_n 1, 1, 0, 0, 0, 0, []),
  (26, .iload_n 2, 1, 0, 0, 0, 0, []),
  (27, .invokevirtual 260, 3, 175, 9, 1129, 0, []),
  (30, .goto 6, 3, 18, 0, 0, 0, []),
  (33, .sipush (-1002), 3, 0, 0, 0, 0, []),
  (36, .ireturn, 1, 0, 0, 0, 0, [])]
def m_X9_order : am_M := (yX9_order, cX9_order, 3, some .int)
def t_X9_tableOf : List ri_row := [(0, .iconst 0, 1, 0, 0, 0, 0, []),
  (1, .istore_n 3, 1, 0, 0, 0, 0, []),
  (2, .iconst 0, 1, 0, 0, 0, 0, []),
  (3, .istore 4, 2, 0, 0, 0, 0, []),
  (5, .iload 4, 2, 0, 0, 0, 0, []),
  (7, .aload_n 0, 1, 0, 0, 0, 0, []),
  (8, .getfield 53, 3, 9, 26, 808, 0, []),
  (11, .iload_n 1, 1, 0, 0, 0, 0, []),
  (12, .iconst 1, 1, 0, 0, 0, 0, []),
  (13, .isub, 1, 0, 0, 0, 0, []),
  (14, .iaload, 1, 0, 0, 0, 0, []),
  (15, .if_icmp .ge 60, 3, 45, 0, 0, 0, []),
  (18, .aload_n 0, 1, 0, 0, 0, 0, []),
  (19, .getfield 50, 3, 9, 25, 807, 0, []),
  (22, .sipush 400, 3, 0, 0, 0, 0, []),
  (25, .iload_n 1, 1, 0, 0, 0, 0, []),
  (26, .iconst 1, 1, 0, 0, 0, 0, []),
  (27, .isub, 1, 0, 0, 0, 0, []),
  (28, .imul, 1, 0, 0, 0, 0, []),
  (29, .iload 4, 2, 0, 0, 0, 0, []),
  (31, .iadd, 1, 0, 0, 0, 0, []),
  (32, .iaload, 1, 0, 0, 0, 0, []),
  (33, .istore 5, 2, 0, 0, 0, 0, []),
  (35, .iload_n 3, 1, 0, 0, 0, 0, []),
  (36, .iload 5, 2, 0, 0, 0, 0, []),
  (38, .iload_n 2, 1, 0, 0, 0, 0, []),
  (39, .if_icmp .ne 7, 3, 29, 0, 0, 0, []),
  (42, .iconst 1, 1, 0, 0, 0, 0, []),
  (43, .goto 4, 3, 30, 0, 0, 0, []),
  (46, .iconst 0, 1, 0, 0, 0, 0, []),
  (47, .invokestatic 112, 3, 111, 0, 924, 0, []),
  (50, .iload 5, 2, 0, 0, 0, 0, []),
  (52, .iconst 0, 1, 0, 0, 0, 0, []),
  (53, .iload_n 2, 1, 0, 0, 0, 0, []),
  (54, .isub, 1, 0, 0, 0, 0, []),
  (55, .if_icmp .ne 7, 3, 38, 0, 0, 0, []),
  (58, .iconst 1, 1, 0, 0, 0, 0, []),
  (59, .goto 4, 3, 39, 0, 0, 0, []),
  (62, .iconst 0, 1, 0, 0, 0, 0, []),
  (63, .invokestatic 112, 3, 111, 0, 924, 0, []),
  (66, .isub, 1, 0, 0, 0, 0, []),
  (67, .iadd, 1, 0, 0, 0, 0, []),
  (68, .istore_n 3, 1, 0, 0, 0, 0, []),
  (69, .iinc 4 1, 3, 0, 0, 0, 0, []),
  (72, .goto (-67), 3, 4, 0, 0, 0, []),
  (75, .iload_n 3, 1, 0, 0, 0, 0, []),
  (76, .ireturn, 1, 0, 0, 0, 0, [])]
def m_X9_tableOf : am_M := (yX9_tableOf, cX9_tableOf, 6, some .int)
def t_X9_table : List ri_row := [(0, .aload_n 0, 1, 0, 0, 0, 0, []),
  (1, .iload_n 1, 1, 0, 0, 0, 0, []),
  (2, .invokevirtual 218, 3, 150, 9, 997, 0, []),
  (5, .ifCond .eq 7, 3, 6, 0, 0, 0, []),
  (8, .sipush (-1001), 3, 0, 0, 0, 0, []),
  (11, .ireturn, 1, 0, 0, 0, 0, []),
  (12, .iload_n 2, 1, 0, 0, 0, 0, []),
  (13, .i2l, 1, 0, 0, 0, 0, []),
  (14, .lconst 1, 1, 0, 0, 0, 0, []),
  (15, .iconst 2, 1, 0, 0, 0, 0, []),
  (16, .aload_n 0, 1, 0, 0, 0, 0, []),
  (17, .getfield 64, 3, 9, 0, 782, 0, []),
  (20, .imul, 1, 0, 0, 0, 0, []),
  (21, .i2l, 1, 0, 0, 0, 0, []),
  (22, .invokestatic 75, 3, 110, 0, 873, 0, []),
  (25, .ifCond .eq 19, 3, 26, 0, 0, 0, []),
  (28, .iload_n 3, 1, 0, 0, 0, 0, []),
  (29, .i2l, 1, 0, 0, 0, 0, []),
  (30, .lconst 1, 1, 0, 0, 0, 0, []),
  (31, .iconst 2, 1, 0, 0, 0, 0, []),
  (32, .aload_n 0, 1, 0, 0, 0, 0, []),
  (33, .getfield 64, 3, 9, 0, 782, 0, []),
  (36, .imul, 1, 0, 0, 0, 0, []),
  (37, .i2l, 1, 0, 0, 0, 0, []),
  (38, .invokestatic 75, 3, 110, 0, 873, 0, []),
  (41, .ifCond .ne 7, 3, 28, 0, 0, 0, []),
  (44, .sipush (-1002), 3, 0, 0, 0, 0, []),
  (47, .ireturn, 1, 0, 0, 0, 0, []),
  (48, .aload_n 0, 1, 0, 0, 0, 0, []),
  (49, .iload_n 1, 1, 0, 0, 0, 0, []),
  (50, .invokevirtual 242, 3, 168, 9, 1092, 0, []),
  (53, .ifCond .eq 12, 3, 37, 0, 0, 0, []),
  (56, .aload_n 0, 1, 0, 0, 0, 0, []),
  (57, .iload_n 2, 1, 0, 0, 0, 0, []),
  (58, .iload_n 3, 1, 0, 0, 0, 0, []),
  (59, .invokevirtual 263, 3, 177, 9, 1137, 0, []),
  (62, .goto 6, 3, 38, 0, 0, 0, []),
  (65, .sipush (-1005), 3, 0, 0, 0, 0, []),
  (68, .ireturn, 1, 0, 0, 0, 0, [])]
def m_X9_table : am_M := (yX9_table, cX9_table, 4, some .int)
def t_X9_determinant : List ri_row := [(0, .iconst 0, 1, 0, 0, 0, 0, []),
  (1, .istore_n 2, 1, 0, 0, 0, 0, []),
  (2, .iconst 0, 1, 0, 0, 0, 0, []),
  (3, .istore_n 3, 1, 0, 0, 0, 0, []),
  (4, .iload_n 3, 1, 0, 0, 0, 0, []),
  (5, .bipush 64, 2, 0, 0, 0, 0, []),
  (7, .if_icmp .ge 24, 3, 18, 0, 0, 0, []),
  (10, .aload_n 0, 1, 0, 0, 0, 0, []),
  (11, .getfield 56, 3, 9, 27, 809, 0, []),
  (14, .iload_n 3, 1, 0, 0, 0, 0, []),
  (15, .iload_n 3, 1, 0, 0, 0, 0, []),
  (16, .ifCond .ne 7, 3, 14, 0, 0, 0, []),
  (19, .lconst 1, 1, 0, 0, 0, 0, []),
  (20, .goto 4, 3, 15, 0, 0, 0, []),
  (23, .lconst 0, 1, 0, 0, 0, 0, []),
  (24, .lastore, 1, 0, 0, 0, 0, []),
  (25, .iinc 3 1, 3, 0, 0, 0, 0, []),
  (28, .goto (-24), 3, 4, 0, 0, 0, []),
  (31, .iconst 1, 1, 0, 0, 0, 0, []),
  (32, .istore_n 3, 1, 0, 0, 0, 0, []),
  (33, .iload_n 3, 1, 0, 0, 0, 0, []),
  (34, .iconst 2, 1, 0, 0, 0, 0, []),
  (35, .aload_n 0, 1, 0, 0, 0, 0, []),
  (36, .getfield 64, 3, 9, 0, 782, 0, []),
  (39, .imul, 1, 0, 0, 0, 0, []),
  (40, .if_icmp .gt 156, 3, 114, 0, 0, 0, []),
  (43, .iload_n 1, 1, 0, 0, 0, 0, []),
  (44, .iload_n 3, 1, 0, 0, 0, 0, []),
  (45, .iconst 1, 1, 0, 0, 0, 0, []),
  (46, .isub, 1, 0, 0, 0, 0, []),
  (47, .ishr, 1, 0, 0, 0, 0, []),
  (48, .iconst 1, 1, 0, 0, 0, 0, []),
  (49, .iand, 1, 0, 0, 0, 0, []),
  (50, .iconst 1, 1, 0, 0, 0, 0, []),
  (51, .if_icmp .ne 139, 3, 112, 0, 0, 0, []),
  (54, .iinc 2 1, 3, 0, 0, 0, 0, []),
  (57, .bipush 63, 2, 0, 0, 0, 0, []),
  (59, .istore 4, 2, 0, 0, 0, 0, []),
  (61, .iload 4, 2, 0, 0, 0, 0, []),
  (63, .ifCond .le 127, 3, 112, 0, 0, 0, []),
  (66, .iload 4, 2, 0, 0, 0, 0, []),
  (68, .invokestatic 266, 3, 180, 0, 1148, 0, []),
  (71, .iload_n 2, 1, 0, 0, 0, 0, []),
  (72, .if_icmp .ne 112, 3, 110, 0, 0, 0, []),
  (75, .iload 4, 2, 0, 0, 0, 0, []),
  (77, .iload_n 1, 1, 0, 0, 0, 0, []),
  (78, .iconst (-1), 1, 0, 0, 0, 0, []),
  (79, .ixor, 1, 0, 0, 0, 0, []),
  (80, .iand, 1, 0, 0, 0, 0, []),
  (81, .ifCond .ne 103, 3, 110, 0, 0, 0, []),
  (84, .lconst 0, 1, 0, 0, 0, 0, []),
  (85, .lstore 5, 2, 0, 0, 0, 0, []),
  (87, .iconst 1, 1, 0, 0, 0, 0, []),
  (88, .istore 7, 2, 0, 0, 0, 0, []),
  (90, .iload 7, 2, 0, 0, 0, 0, []),
  (92, .iconst 2, 1, 0, 0, 0, 0, []),
  (93, .aload_n 0, 1, 0, 0, 0, 0, []),
  (94, .getfield 64, 3, 9, 0, 782, 0, []),
  (97, .imul, 1, 0, 0, 0, 0, []),
  (98, .if_icmp .gt 77, 3, 105, 0, 0, 0, []),
  (101, .iload 4, 2, 0, 0, 0, 0, []),
  (103, .iload 7, 2, 0, 0, 0, 0, []),
  (105, .iconst 1, 1, 0, 0, 0, 0, []),
  (106, .isub, 1, 0, 0, 0, 0, []),
  (107, .ishr, 1, 0, 0, 0, 0, []),
  (108, .iconst 1, 1, 0, 0, 0, 0, []),
  (109, .iand, 1, 0, 0, 0, 0, []),
  (110, .iconst 1, 1, 0, 0, 0, 0, []),
  (111, .if_icmp .ne 58, 3, 103, 0, 0, 0, []),
  (114, .iload 4, 2, 0, 0, 0, 0, []),
  (116, .iload 7, 2, 0, 0, 0, 0, []),
  (118, .ishr, 1, 0, 0, 0, 0, []),
  (119, .invokestatic 266, 3, 180, 0, 1148, 0, []),
  (122, .istore 8, 2, 0, 0, 0, 0, []),
  (124, .lload 5, 2, 0, 0, 0, 0, []),
  (126, .iload 8, 2, 0, 0, 0, 0, []),
  (128, .iconst 2, 1, 0, 0, 0, 0, []),
  (129, .irem, 1, 0, 0, 0, 0, []),
  (130, .ifCond .ne 7, 3, 81, 0, 0, 0, []),
  (133, .lconst 1, 1, 0, 0, 0, 0, []),
  (134, .goto 6, 3, 82, 0, 0, 0, []),
  (137, .ldc2_w 269, 3, 0, 0, 1155, (-1), []),
  (140, .aload_n 0, 1, 0, 0, 0, 0, []),
  (141, .iload_n 3, 1, 0, 0, 0, 0, []),
  (142, .iload 7, 2, 0, 0, 0, 0, []),
  (144, .invokevirtual 263, 3, 177, 9, 1137, 0, []),
  (147, .i2l, 1, 0, 0, 0, 0, []),
  (148, .lmul, 1, 0, 0, 0, 0, []),
  (149, .aload_n 0, 1, 0, 0, 0, 0, []),
  (150, .getfield 56, 3, 9, 27, 809, 0, []),
  (153, .iload 4, 2, 0, 0, 0, 0, []),
  (155, .iconst 1, 1, 0, 0, 0, 0, []),
  (156, .iload 7, 2, 0, 0, 0, 0, []),
  (158, .iconst 1, 1, 0, 0, 0, 0, []),
  (159, .isub, 1, 0, 0, 0, 0, []),
  (160, .ishl, 1, 0, 0, 0, 0, []),
  (161, .iconst (-1), 1, 0, 0, 0, 0, []),
  (162, .ixor, 1, 0, 0, 0, 0, []),
  (163, .iand, 1, 0, 0, 0, 0, []),
  (164, .laload, 1, 0, 0, 0, 0, []),
  (165, .lmul, 1, 0, 0, 0, 0, []),
  (166, .ladd, 1, 0, 0, 0, 0, []),
  (167, .lstore 5, 2, 0, 0, 0, 0, []),
  (169, .iinc 7 1, 3, 0, 0, 0, 0, []),
  (172, .goto (-82), 3, 54, 0, 0, 0, []),
  (175, .aload_n 0, 1, 0, 0, 0, 0, []),
  (176, .getfield 56, 3, 9, 27, 809, 0, []),
  (179, .iload 4, 2, 0, 0, 0, 0, []),
  (181, .lload 5, 2, 0, 0, 0, 0, []),
  (183, .lastore, 1, 0, 0, 0, 0, []),
  (184, .iinc 4 (-1), 3, 0, 0, 0, 0, []),
  (187, .goto (-126), 3, 38, 0, 0, 0, []),
  (190, .iinc 3 1, 3, 0, 0, 0, 0, []),
  (193, .goto (-160), 3, 20, 0, 0, 0, []),
  (196, .aload_n 0, 1, 0, 0, 0, 0, []),
  (197, .getfield 56, 3, 9, 27, 809, 0, []),
  (200, .iload_n 1, 1, 0, 0, 0, 0, []),
  (201, .laload, 1, 0, 0, 0, 0, []),
  (202, .lreturn, 1, 0, 0, 0, 0, [])]
def m_X9_determinant : am_M := (yX9_determinant, cX9_determinant, 9, some .long)
def t_X9_onesOf : List ri_row := [(0, .iconst 0, 1, 0, 0, 0, 0, []),
  (1, .istore_n 1, 1, 0, 0, 0, 0, []),
  (2, .iconst 0, 1, 0, 0, 0, 0, []),
  (3, .istore_n 2, 1, 0, 0, 0, 0, []),
  (4, .iload_n 2, 1, 0, 0, 0, 0, []),
  (5, .bipush 12, 2, 0, 0, 0, 0, []),
  (7, .if_icmp .ge 17, 3, 17, 0, 0, 0, []),
  (10, .iload_n 1, 1, 0, 0, 0, 0, []),
  (11, .iload_n 0, 1, 0, 0, 0, 0, []),
  (12, .iload_n 2, 1, 0, 0, 0, 0, []),
  (13, .ishr, 1, 0, 0, 0, 0, []),
  (14, .iconst 1, 1, 0, 0, 0, 0, []),
  (15, .iand, 1, 0, 0, 0, 0, []),
  (16, .iadd, 1, 0, 0, 0, 0, []),
  (17, .istore_n 1, 1, 0, 0, 0, 0, []),
  (18, .iinc 2 1, 3, 0, 0, 0, 0, []),
  (21, .goto (-17), 3, 4, 0, 0, 0, []),
  (24, .iload_n 1, 1, 0, 0, 0, 0, []),
  (25, .ireturn, 1, 0, 0, 0, 0, [])]
def m_X9_onesOf : am_M := (yX9_onesOf, cX9_onesOf, 3, some .int)
def t_X9_character : List ri_row := [(0, .aload_n 0, 1, 0, 0, 0, 0, []),
  (1, .iload_n 1, 1, 0, 0, 0, 0, []),
  (2, .invokevirtual 218, 3, 150, 9, 997, 0, []),
  (5, .ifCond .eq 7, 3, 6, 0, 0, 0, []),
  (8, .ldc2_w 271, 3, 0, 0, 1145, (-1001), []),
  (11, .lreturn, 1, 0, 0, 0, 0, []),
  (12, .iload_n 2, 1, 0, 0, 0, 0, []),
  (13, .i2l, 1, 0, 0, 0, 0, []),
  (14, .lconst 0, 1, 0, 0, 0, 0, []),
  (15, .iconst 2, 1, 0, 0, 0, 0, []),
  (16, .aload_n 0, 1, 0, 0, 0, 0, []),
  (17, .getfield 64, 3, 9, 0, 782, 0, []),
  (20, .imul, 1, 0, 0, 0, 0, []),
  (21, .i2l, 1, 0, 0, 0, 0, []),
  (22, .invokestatic 75, 3, 110, 0, 873, 0, []),
  (25, .ifCond .ne 7, 3, 18, 0, 0, 0, []),
  (28, .ldc2_w 273, 3, 0, 0, 1146, (-1002), []),
  (31, .lreturn, 1, 0, 0, 0, 0, []),
  (32, .aload_n 0, 1, 0, 0, 0, 0, []),
  (33, .iload_n 1, 1, 0, 0, 0, 0, []),
  (34, .invokevirtual 242, 3, 168, 9, 1092, 0, []),
  (37, .ifCond .ne 7, 3, 24, 0, 0, 0, []),
  (40, .ldc2_w 275, 3, 0, 0, 1147, (-1005), []),
  (43, .lreturn, 1, 0, 0, 0, 0, []),
  (44, .lconst 0, 1, 0, 0, 0, 0, []),
  (45, .lstore_n 3, 1, 0, 0, 0, 0, []),
  (46, .iconst 0, 1, 0, 0, 0, 0, []),
  (47, .istore 5, 2, 0, 0, 0, 0, []),
  (49, .iload 5, 2, 0, 0, 0, 0, []),
  (51, .iconst 1, 1, 0, 0, 0, 0, []),
  (52, .iconst 2, 1, 0, 0, 0, 0, []),
  (53, .aload_n 0, 1, 0, 0, 0, 0, []),
  (54, .getfield 64, 3, 9, 0, 782, 0, []),
  (57, .imul, 1, 0, 0, 0, 0, []),
  (58, .ishl, 1, 0, 0, 0, 0, []),
  (59, .if_icmp .ge 31, 3, 50, 0, 0, 0, []),
  (62, .lload_n 3, 1, 0, 0, 0, 0, []),
  (63, .iload 5, 2, 0, 0, 0, 0, []),
  (65, .invokestatic 266, 3, 180, 0, 1148, 0, []),
  (68, .iload_n 2, 1, 0, 0, 0, 0, []),
  (69, .if_icmp .ne 12, 3, 45, 0, 0, 0, []),
  (72, .aload_n 0, 1, 0, 0, 0, 0, []),
  (73, .iload 5, 2, 0, 0, 0, 0, []),
  (75, .invokevirtual 277, 3, 179, 9, 1151, 0, []),
  (78, .goto 4, 3, 46, 0, 0, 0, []),
  (81, .lconst 0, 1, 0, 0, 0, 0, []),
  (82, .ladd, 1, 0, 0, 0, 0, []),
  (83, .lstore_n 3, 1, 0, 0, 0, 0, []),
  (84, .iinc 5 1, 3, 0, 0, 0, 0, []),
  (87, .goto (-38), 3, 28, 0, 0, 0, []),
  (90, .lload_n 3, 1, 0, 0, 0, 0, []),
  (91, .lreturn, 1, 0, 0, 0, 0, [])]
def m_X9_character : am_M := (yX9_character, cX9_character, 6, some .long)
def t_X9_lengthNow : List ri_row := [(0, .iconst 0, 1, 0, 0, 0, 0, []),
  (1, .istore_n 1, 1, 0, 0, 0, 0, []),
  (2, .iconst 0, 1, 0, 0, 0, 0, []),
  (3, .istore_n 2, 1, 0, 0, 0, 0, []),
  (4, .iload_n 2, 1, 0, 0, 0, 0, []),
  (5, .iconst 2, 1, 0, 0, 0, 0, []),
  (6, .aload_n 0, 1, 0, 0, 0, 0, []),
  (7, .getfield 64, 3, 9, 0, 782, 0, []),
  (10, .imul, 1, 0, 0, 0, 0, []),
  (11, .if_icmp .ge 18, 3, 19, 0, 0, 0, []),
  (14, .iload_n 1, 1, 0, 0, 0, 0, []),
  (15, .aload_n 0, 1, 0, 0, 0, 0, []),
  (16, .getfield 53, 3, 9, 26, 808, 0, []),
  (19, .iload_n 2, 1, 0, 0, 0, 0, []),
  (20, .iaload, 1, 0, 0, 0, 0, []),
  (21, .iadd, 1, 0, 0, 0, 0, []),
  (22, .istore_n 1, 1, 0, 0, 0, 0, []),
  (23, .iinc 2 1, 3, 0, 0, 0, 0, []),
  (26, .goto (-22), 3, 4, 0, 0, 0, []),
  (29, .iload_n 1, 1, 0, 0, 0, 0, []),
  (30, .ireturn, 1, 0, 0, 0, 0, [])]
def m_X9_lengthNow : am_M := (yX9_lengthNow, cX9_lengthNow, 3, some .int)
def t_X9_length : List ri_row := [(0, .aload_n 0, 1, 0, 0, 0, 0, []),
  (1, .iload_n 1, 1, 0, 0, 0, 0, []),
  (2, .invokevirtual 218, 3, 150, 9, 997, 0, []),
  (5, .ifCond .eq 7, 3, 6, 0, 0, 0, []),
  (8, .sipush (-1001), 3, 0, 0, 0, 0, []),
  (11, .ireturn, 1, 0, 0, 0, 0, []),
  (12, .iload_n 2, 1, 0, 0, 0, 0, []),
  (13, .i2l, 1, 0, 0, 0, 0, []),
  (14, .lconst 0, 1, 0, 0, 0, 0, []),
  (15, .ldc2_w 258, 3, 0, 0, 1128, 24, []),
  (18, .invokestatic 75, 3, 110, 0, 873, 0, []),
  (21, .ifCond .ne 7, 3, 14, 0, 0, 0, []),
  (24, .sipush (-1002), 3, 0, 0, 0, 0, []),
  (27, .ireturn, 1, 0, 0, 0, 0, []),
  (28, .aload_n 0, 1, 0, 0, 0, 0, []),
  (29, .invokevirtual 236, 3, 166, 9, 1096, 0, []),
  (32, .iconst 0, 1, 0, 0, 0, 0, []),
  (33, .istore_n 3, 1, 0, 0, 0, 0, []),
  (34, .iload_n 3, 1, 0, 0, 0, 0, []),
  (35, .iload_n 2, 1, 0, 0, 0, 0, []),
  (36, .if_icmp .ge 21, 3, 29, 0, 0, 0, []),
  (39, .aload_n 0, 1, 0, 0, 0, 0, []),
  (40, .iload_n 1, 1, 0, 0, 0, 0, []),
  (41, .invokevirtual 239, 3, 167, 9, 1100, 0, []),
  (44, .ifCond .ne 7, 3, 27, 0, 0, 0, []),
  (47, .sipush (-1005), 3, 0, 0, 0, 0, []),
  (50, .ireturn, 1, 0, 0, 0, 0, []),
  (51, .iinc 3 1, 3, 0, 0, 0, 0, []),
  (54, .goto (-20), 3, 18, 0, 0, 0, []),
  (57, .aload_n 0, 1, 0, 0, 0, 0, []),
  (58, .invokevirtual 281, 3, 182, 9, 1160, 0, []),
  (61, .ireturn, 1, 0, 0, 0, 0, [])]
def m_X9_length : am_M := (yX9_length, cX9_length, 4, some .int)
def t_X9_comesBack : List ri_row := [(0, .aload_n 0, 1, 0, 0, 0, 0, []),
  (1, .iload_n 1, 1, 0, 0, 0, 0, []),
  (2, .invokevirtual 230, 3, 148, 9, 1076, 0, []),
  (5, .iconst 1, 1, 0, 0, 0, 0, []),
  (6, .istore 4, 2, 0, 0, 0, 0, []),
  (8, .iload 4, 2, 0, 0, 0, 0, []),
  (10, .iload_n 3, 1, 0, 0, 0, 0, []),
  (11, .if_icmp .gt 37, 3, 26, 0, 0, 0, []),
  (14, .aload_n 0, 1, 0, 0, 0, 0, []),
  (15, .iload_n 2, 1, 0, 0, 0, 0, []),
  (16, .invokevirtual 227, 3, 146, 9, 1052, 0, []),
  (19, .ifCond .ne 5, 3, 14, 0, 0, 0, []),
  (22, .iconst 0, 1, 0, 0, 0, 0, []),
  (23, .ireturn, 1, 0, 1, 0, 0, []),
  (24, .aload_n 0, 1, 0, 0, 0, 0, []),
  (25, .invokevirtual 233, 3, 149, 9, 1080, 0, []),
  (28, .aload_n 0, 1, 0, 0, 0, 0, []),
  (29, .iload_n 1, 1, 0, 0, 0, 0, []),
  (30, .invokevirtual 106, 3, 121, 9, 904, 0, []),
  (33, .aload_n 0, 1, 0, 0, 0, 0, []),
  (34, .invokevirtual 109, 3, 126, 9, 908, 0, []),
  (37, .ifCond .eq 5, 3, 24, 0, 0, 0, []),
  (40, .iconst 1, 1, 0, 0, 0, 0, []),
  (41, .ireturn, 1, 0, 1, 0, 0, []),
  (42, .iinc 4 1, 3, 0, 0, 0, 0, []),
  (45, .goto (-37), 3, 5, 0, 0, 0, []),
  (48, .iconst 0, 1, 0, 0, 0, 0, []),
  (49, .ireturn, 1, 0, 1, 0, 0, [])]
def m_X9_comesBack : am_M := (yX9_comesBack, cX9_comesBack, 5, some .boolean)
def t_X9_sort : List ri_row := [(0, .aload_n 0, 1, 0, 0, 0, 0, []),
  (1, .iload_n 1, 1, 0, 0, 0, 0, []),
  (2, .invokevirtual 218, 3, 150, 9, 997, 0, []),
  (5, .ifCond .eq 7, 3, 6, 0, 0, 0, []),
  (8, .sipush (-1001), 3, 0, 0, 0, 0, []),
  (11, .ireturn, 1, 0, 0, 0, 0, []),
  (12, .iload_n 2, 1, 0, 0, 0, 0, []),
  (13, .i2l, 1, 0, 0, 0, 0, []),
  (14, .lconst 1, 1, 0, 0, 0, 0, []),
  (15, .ldc2_w 284, 3, 0, 0, 1168, 12, []),
  (18, .invokestatic 75, 3, 110, 0, 873, 0, []),
  (21, .ifCond .ne 7, 3, 14, 0, 0, 0, []),
  (24, .sipush (-1002), 3, 0, 0, 0, 0, []),
  (27, .ireturn, 1, 0, 0, 0, 0, []),
  (28, .aload_n 0, 1, 0, 0, 0, 0, []),
  (29, .iload_n 1, 1, 0, 0, 0, 0, []),
  (30, .iload_n 2, 1, 0, 0, 0, 0, []),
  (31, .invokevirtual 260, 3, 175, 9, 1129, 0, []),
  (34, .istore_n 3, 1, 0, 0, 0, 0, []),
  (35, .iload_n 3, 1, 0, 0, 0, 0, []),
  (36, .iconst (-1), 1, 0, 0, 0, 0, []),
  (37, .if_icmp .eq 18, 3, 29, 0, 0, 0, []),
  (40, .iload_n 3, 1, 0, 0, 0, 0, []),
  (41, .sipush (-1005), 3, 0, 0, 0, 0, []),
  (44, .if_icmp .ne 9, 3, 27, 0, 0, 0, []),
  (47, .sipush (-1005), 3, 0, 0, 0, 0, []),
  (50, .goto 4, 3, 28, 0, 0, 0, []),
  (53, .iconst 0, 1, 0, 0, 0, 0, []),
  (54, .ireturn, 1, 0, 0, 0, 0, []),
  (55, .aload_n 0, 1, 0, 0, 0, 0, []),
  (56, .invokevirtual 236, 3, 166, 9, 1096, 0, []),
  (59, .iconst 1, 1, 0, 0, 0, 0, []),
  (60, .istore 4, 2, 0, 0, 0, 0, []),
  (62, .iconst 0, 1, 0, 0, 0, 0, []),
  (63, .istore 5, 2, 0, 0, 0, 0, []),
  (65, .iconst 1, 1, 0, 0, 0, 0, []),
  (66, .istore 6, 2, 0, 0, 0, 0, []),
  (68, .iload 6, 2, 0, 0, 0, 0, []),
  (70, .iload_n 2, 1, 0, 0, 0, 0, []),
  (71, .if_icmp .gt 49, 3, 62, 0, 0, 0, []),
  (74, .aload_n 0, 1, 0, 0, 0, 0, []),
  (75, .iload_n 1, 1, 0, 0, 0, 0, []),
  (76, .invokevirtual 239, 3, 167, 9, 1100, 0, []),
  (79, .istore 7, 2, 0, 0, 0, 0, []),
  (81, .iload 4, 2, 0, 0, 0, 0, []),
  (83, .ifCond .eq 22, 3, 55, 0, 0, 0, []),
  (86, .iload 6, 2, 0, 0, 0, 0, []),
  (88, .iconst 1, 1, 0, 0, 0, 0, []),
  (89, .if_icmp .eq 12, 3, 53, 0, 0, 0, []),
  (92, .aload_n 0, 1, 0, 0, 0, 0, []),
  (93, .invokevirtual 281, 3, 182, 9, 1160, 0, []),
  (96, .iload 5, 2, 0, 0, 0, 0, []),
  (98, .if_icmp .le 7, 3, 55, 0, 0, 0, []),
  (101, .iconst 1, 1, 0, 0, 0, 0, []),
  (102, .goto 4, 3, 56, 0, 0, 0, []),
  (105, .iconst 0, 1, 0, 0, 0, 0, []),
  (106, .istore 4, 2, 0, 0, 0, 0, []),
  (108, .aload_n 0, 1, 0, 0, 0, 0, []),
  (109, .invokevirtual 281, 3, 182, 9, 1160, 0, []),
  (112, .istore 5, 2, 0, 0, 0, 0, []),
  (114, .iinc 6 1, 3, 0, 0, 0, 0, []),
  (117, .goto (-49), 3, 37, 0, 0, 0, []),
  (120, .iconst 0, 1, 0, 0, 0, 0, []),
  (121, .istore 6, 2, 0, 0, 0, 0, []),
  (123, .iload 6, 2, 0, 0, 0, 0, []),
  (125, .aload_n 0, 1, 0, 0, 0, 0, []),
  (126, .getfield 70, 3, 9, 3, 785, 0, []),
  (129, .if_icmp .ge 31, 3, 82, 0, 0, 0, []),
  (132, .aload_n 0, 1, 0, 0, 0, 0, []),
  (133, .iload 6, 2, 0, 0, 0, 0, []),
  (135, .invokevirtual 151, 3, 137, 9, 982, 0, []),
  (138, .ifCond .eq 16, 3, 80, 0, 0, 0, []),
  (141, .aload_n 0, 1, 0, 0, 0, 0, []),
  (142, .iload 6, 2, 0, 0, 0, 0, []),
  (144, .iload_n 1, 1, 0, 0, 0, 0, []),
  (145, .iload_n 2, 1, 0, 0, 0, 0, []),
  (146, .invokevirtual 286, 3, 184, 9, 1169, 0, []),
  (149, .ifCond .eq 5, 3, 80, 0, 0, 0, []),
  (152, .iconst 1, 1, 0, 0, 0, 0, []),
  (153, .ireturn, 1, 0, 0, 0, 0, []),
  (154, .iinc 6 1, 3, 0, 0, 0, 0, []),
  (157, .goto (-34), 3, 64, 0, 0, 0, []),
  (160, .iload 4, 2, 0, 0, 0, 0, []),
  (162, .ifCond .eq 7, 3, 86, 0, 0, 0, []),
  (165, .iconst 2, 1, 0, 0, 0, 0, []),
  (166, .goto 4, 3, 87, 0, 0, 0, []),
  (169, .iconst 3, 1, 0, 0, 0, 0, []),
  (170, .ireturn, 1, 0, 0, 0, 0, [])]
def m_X9_sort : am_M := (yX9_sort, cX9_sort, 8, some .int)
def t_X9_draftPlan : List ri_row := [(0, .aload_n 0, 1, 0, 0, 0, 0, []),
  (1, .getfield 19, 3, 9, 6, 788, 0, []),
  (4, .bipush 8, 2, 0, 0, 0, 0, []),
  (6, .iload_n 3, 1, 0, 0, 0, 0, []),
  (7, .ifCond .ge 7, 3, 7, 0, 0, 0, []),
  (10, .iconst 2, 1, 0, 0, 0, 0, []),
  (11, .goto 4, 3, 8, 0, 0, 0, []),
  (14, .iconst 3, 1, 0, 0, 0, 0, []),
  (15, .iastore, 1, 0, 0, 0, 0, []),
  (16, .aload_n 0, 1, 0, 0, 0, 0, []),
  (17, .getfield 22, 3, 9, 7, 789, 0, []),
  (20, .sipush 480, 3, 0, 0, 0, 0, []),
  (23, .iload_n 1, 1, 0, 0, 0, 0, []),
  (24, .iastore, 1, 0, 0, 0, 0, []),
  (25, .aload_n 0, 1, 0, 0, 0, 0, []),
  (26, .getfield 22, 3, 9, 7, 789, 0, []),
  (29, .sipush 481, 3, 0, 0, 0, 0, []),
  (32, .iload_n 2, 1, 0, 0, 0, 0, []),
  (33, .iastore, 1, 0, 0, 0, 0, []),
  (34, .aload_n 0, 1, 0, 0, 0, 0, []),
  (35, .getfield 22, 3, 9, 7, 789, 0, []),
  (38, .sipush 482, 3, 0, 0, 0, 0, []),
  (41, .iload_n 3, 1, 0, 0, 0, 0, []),
  (42, .iastore, 1, 0, 0, 0, 0, []),
  (43, .return_, 1, 0, 0, 0, 0, [])]
def m_X9_draftPlan : am_M := (yX9_draftPlan, cX9_draftPlan, 4, none)
def t_X9_isDraftLike : List ri_row := [(0, .iconst 1, 1, 0, 0, 0, 0, []),
  (1, .istore_n 1, 1, 0, 0, 0, 0, []),
  (2, .iconst 0, 1, 0, 0, 0, 0, []),
  (3, .istore_n 2, 1, 0, 0, 0, 0, []),
  (4, .iload_n 2, 1, 0, 0, 0, 0, []),
  (5, .iconst 2, 1, 0, 0, 0, 0, []),
  (6, .aload_n 0, 1, 0, 0, 0, 0, []),
  (7, .getfield 64, 3, 9, 0, 782, 0, []),
  (10, .imul, 1, 0, 0, 0, 0, []),
  (11, .if_icmp .ge 43, 3, 31, 0, 0, 0, []),
  (14, .iload_n 1, 1, 0, 0, 0, 0, []),
  (15, .ifCond .eq 39, 3, 31, 0, 0, 0, []),
  (18, .aload_n 0, 1, 0, 0, 0, 0, []),
  (19, .iload_n 2, 1, 0, 0, 0, 0, []),
  (20, .iconst 1, 1, 0, 0, 0, 0, []),
  (21, .iadd, 1, 0, 0, 0, 0, []),
  (22, .invokevirtual 224, 3, 147, 9, 1048, 0, []),
  (25, .aload_n 0, 1, 0, 0, 0, 0, []),
  (26, .bipush 8, 2, 0, 0, 0, 0, []),
  (28, .invokevirtual 227, 3, 146, 9, 1052, 0, []),
  (31, .ifCond .eq 15, 3, 27, 0, 0, 0, []),
  (34, .aload_n 0, 1, 0, 0, 0, 0, []),
  (35, .iload_n 2, 1, 0, 0, 0, 0, []),
  (36, .invokevirtual 245, 3, 169, 9, 1104, 0, []),
  (39, .ifCond .eq 7, 3, 27, 0, 0, 0, []),
  (42, .iconst 1, 1, 0, 0, 0, 0, []),
  (43, .goto 4, 3, 28, 0, 0, 0, []),
  (46, .iconst 0, 1, 0, 0, 0, 0, []),
  (47, .istore_n 1, 1, 0, 0, 0, 0, []),
  (48, .iinc 2 1, 3, 0, 0, 0, 0, []),
  (51, .goto (-47), 3, 4, 0, 0, 0, []),
  (54, .iload_n 1, 1, 0, 0, 0, 0, []),
  (55, .ireturn, 1, 0, 1, 0, 0, [])]
def m_X9_isDraftLike : am_M := (yX9_isDraftLike, cX9_isDraftLike, 3, some .boolean)
def t_X9_law : List ri_row := [(0, .iload_n 1, 1, 0, 0, 0, 0, []),
  (1, .i2l, 1, 0, 0, 0, 0, []),
  (2, .lconst 0, 1, 0, 0, 0, 0, []),
  (3, .aload_n 0, 1, 0, 0, 0, 0, []),
  (4, .invokevirtual 289, 3, 114, 9, 1177, 0, []),
  (7, .iconst 1, 1, 0, 0, 0, 0, []),
  (8, .isub, 1, 0, 0, 0, 0, []),
  (9, .i2l, 1, 0, 0, 0, 0, []),
  (10, .invokestatic 75, 3, 110, 0, 873, 0, []),
  (13, .ifCond .eq 19, 3, 20, 0, 0, 0, []),
  (16, .iload_n 2, 1, 0, 0, 0, 0, []),
  (17, .i2l, 1, 0, 0, 0, 0, []),
  (18, .lconst 0, 1, 0, 0, 0, 0, []),
  (19, .aload_n 0, 1, 0, 0, 0, 0, []),
  (20, .invokevirtual 289, 3, 114, 9, 1177, 0, []),
  (23, .iconst 1, 1, 0, 0, 0, 0, []),
  (24, .isub, 1, 0, 0, 0, 0, []),
  (25, .i2l, 1, 0, 0, 0, 0, []),
  (26, .invokestatic 75, 3, 110, 0, 873, 0, []),
  (29, .ifCond .ne 7, 3, 22, 0, 0, 0, []),
  (32, .sipush (-1001), 3, 0, 0, 0, 0, []),
  (35, .ireturn, 1, 0, 0, 0, 0, []),
  (36, .iconst 2, 1, 0, 0, 0, 0, []),
  (37, .iload_n 1, 1, 0, 0, 0, 0, []),
  (38, .imul, 1, 0, 0, 0, 0, []),
  (39, .istore_n 3, 1, 0, 0, 0, 0, []),
  (40, .iconst 2, 1, 0, 0, 0, 0, []),
  (41, .iload_n 2, 1, 0, 0, 0, 0, []),
  (42, .imul, 1, 0, 0, 0, 0, []),
  (43, .istore 4, 2, 0, 0, 0, 0, []),
  (45, .aload_n 0, 1, 0, 0, 0, 0, []),
  (46, .iload_n 3, 1, 0, 0, 0, 0, []),
  (47, .iload 4, 2, 0, 0, 0, 0, []),
  (49, .iconst (-1), 1, 0, 0, 0, 0, []),
  (50, .invokevirtual 292, 3, 186, 9, 1181, 0, []),
  (53, .aload_n 0, 1, 0, 0, 0, 0, []),
  (54, .bipush 8, 2, 0, 0, 0, 0, []),
  (56, .invokevirtual 242, 3, 168, 9, 1092, 0, []),
  (59, .istore 5, 2, 0, 0, 0, 0, []),
  (61, .aload_n 0, 1, 0, 0, 0, 0, []),
  (62, .iload 4, 2, 0, 0, 0, 0, []),
  (64, .iload_n 3, 1, 0, 0, 0, 0, []),
  (65, .iconst (-1), 1, 0, 0, 0, 0, []),
  (66, .invokevirtual 292, 3, 186, 9, 1181, 0, []),
  (69, .aload_n 0, 1, 0, 0, 0, 0, []),
  (70, .invokevirtual 296, 3, 187, 9, 1185, 0, []),
  (73, .ifCond .eq 5, 3, 49, 0, 0, 0, []),
  (76, .iconst 0, 1, 0, 0, 0, 0, []),
  (77, .ireturn, 1, 0, 0, 0, 0, []),
  (78, .aload_n 0, 1, 0, 0, 0, 0, []),
  (79, .iload_n 3, 1, 0, 0, 0, 0, []),
  (80, .iload 4, 2, 0, 0, 0, 0, []),
  (82, .iload_n 3, 1, 0, 0, 0, 0, []),
  (83, .invokevirtual 292, 3, 186, 9, 1181, 0, []),
  (86, .aload_n 0, 1, 0, 0, 0, 0, []),
  (87, .bipush 8, 2, 0, 0, 0, 0, []),
  (89, .invokevirtual 242, 3, 168, 9, 1092, 0, []),
  (92, .istore 5, 2, 0, 0, 0, 0, []),
  (94, .aload_n 0, 1, 0, 0, 0, 0, []),
  (95, .iload 4, 2, 0, 0, 0, 0, []),
  (97, .iload_n 3, 1, 0, 0, 0, 0, []),
  (98, .iload 4, 2, 0, 0, 0, 0, []),
  (100, .invokevirtual 292, 3, 186, 9, 1181, 0, []),
  (103, .aload_n 0, 1, 0, 0, 0, 0, []),
  (104, .invokevirtual 296, 3, 187, 9, 1185, 0, []),
  (107, .ifCond .eq 7, 3, 68, 0, 0, 0, []),
  (110, .iconst 1, 1, 0, 0, 0, 0, []),
  (111, .goto 4, 3, 69, 0, 0, 0, []),
  (114, .iconst 2, 1, 0, 0, 0, 0, []),
  (115, .ireturn, 1, 0, 0, 0, 0, [])]
def m_X9_law : am_M := (yX9_law, cX9_law, 6, some .int)
def t_X9_power : List ri_row := [(0, .iconst 1, 1, 0, 0, 0, 0, []),
  (1, .istore_n 2, 1, 0, 0, 0, 0, []),
  (2, .iconst 0, 1, 0, 0, 0, 0, []),
  (3, .istore_n 3, 1, 0, 0, 0, 0, []),
  (4, .iload_n 3, 1, 0, 0, 0, 0, []),
  (5, .iload_n 1, 1, 0, 0, 0, 0, []),
  (6, .if_icmp .ge 18, 3, 16, 0, 0, 0, []),
  (9, .iload_n 2, 1, 0, 0, 0, 0, []),
  (10, .iconst 2, 1, 0, 0, 0, 0, []),
  (11, .aload_n 0, 1, 0, 0, 0, 0, []),
  (12, .invokevirtual 289, 3, 114, 9, 1177, 0, []),
  (15, .imul, 1, 0, 0, 0, 0, []),
  (16, .imul, 1, 0, 0, 0, 0, []),
  (17, .istore_n 2, 1, 0, 0, 0, 0, []),
  (18, .iinc 3 1, 3, 0, 0, 0, 0, []),
  (21, .goto (-17), 3, 4, 0, 0, 0, []),
  (24, .iload_n 2, 1, 0, 0, 0, 0, []),
  (25, .ireturn, 1, 0, 0, 0, 0, [])]
def m_X9_power : am_M := (yX9_power, cX9_power, 4, some .int)
def t_X9_numberPlan : List ri_row := [(0, .aload_n 0, 1, 0, 0, 0, 0, []),
  (1, .getfield 19, 3, 9, 6, 788, 0, []),
  (4, .bipush 8, 2, 0, 0, 0, 0, []),
  (6, .iload_n 1, 1, 0, 0, 0, 0, []),
  (7, .iastore, 1, 0, 0, 0, 0, []),
  (8, .iload_n 2, 1, 0, 0, 0, 0, []),
  (9, .istore_n 3, 1, 0, 0, 0, 0, []),
  (10, .iload_n 1, 1, 0, 0, 0, 0, []),
  (11, .iconst 1, 1, 0, 0, 0, 0, []),
  (12, .isub, 1, 0, 0, 0, 0, []),
  (13, .istore 4, 2, 0, 0, 0, 0, []),
  (15, .iload 4, 2, 0, 0, 0, 0, []),
  (17, .ifCond .lt 37, 3, 34, 0, 0, 0, []),
  (20, .aload_n 0, 1, 0, 0, 0, 0, []),
  (21, .getfield 22, 3, 9, 7, 789, 0, []),
  (24, .sipush 480, 3, 0, 0, 0, 0, []),
  (27, .iload 4, 2, 0, 0, 0, 0, []),
  (29, .iadd, 1, 0, 0, 0, 0, []),
  (30, .iload_n 3, 1, 0, 0, 0, 0, []),
  (31, .iconst 2, 1, 0, 0, 0, 0, []),
  (32, .aload_n 0, 1, 0, 0, 0, 0, []),
  (33, .invokevirtual 289, 3, 114, 9, 1177, 0, []),
  (36, .imul, 1, 0, 0, 0, 0, []),
  (37, .irem, 1, 0, 0, 0, 0, []),
  (38, .iastore, 1, 0, 0, 0, 0, []),
  (39, .iload_n 3, 1, 0, 0, 0, 0, []),
  (40, .iconst 2, 1, 0, 0, 0, 0, []),
  (41, .aload_n 0, 1, 0, 0, 0, 0, []),
  (42, .invokevirtual 289, 3, 114, 9, 1177, 0, []),
  (45, .imul, 1, 0, 0, 0, 0, []),
  (46, .idiv, 1, 0, 0, 0, 0, []),
  (47, .istore_n 3, 1, 0, 0, 0, 0, []),
  (48, .iinc 4 (-1), 3, 0, 0, 0, 0, []),
  (51, .goto (-36), 3, 11, 0, 0, 0, []),
  (54, .return_, 1, 0, 0, 0, 0, [])]
def m_X9_numberPlan : am_M := (yX9_numberPlan, cX9_numberPlan, 5, none)
def t_X9_carries : List ri_row := [(0, .aload_n 0, 1, 0, 0, 0, 0, []),
  (1, .iload_n 1, 1, 0, 0, 0, 0, []),
  (2, .invokevirtual 230, 3, 148, 9, 1076, 0, []),
  (5, .aload_n 0, 1, 0, 0, 0, 0, []),
  (6, .bipush 8, 2, 0, 0, 0, 0, []),
  (8, .invokevirtual 227, 3, 146, 9, 1052, 0, []),
  (11, .ifCond .ne 5, 3, 9, 0, 0, 0, []),
  (14, .iconst 0, 1, 0, 0, 0, 0, []),
  (15, .ireturn, 1, 0, 1, 0, 0, []),
  (16, .aload_n 0, 1, 0, 0, 0, 0, []),
  (17, .invokevirtual 233, 3, 149, 9, 1080, 0, []),
  (20, .aload_n 0, 1, 0, 0, 0, 0, []),
  (21, .iload_n 2, 1, 0, 0, 0, 0, []),
  (22, .invokevirtual 106, 3, 121, 9, 904, 0, []),
  (25, .aload_n 0, 1, 0, 0, 0, 0, []),
  (26, .invokevirtual 109, 3, 126, 9, 908, 0, []),
  (29, .ireturn, 1, 0, 1, 0, 0, [])]
def m_X9_carries : am_M := (yX9_carries, cX9_carries, 3, some .boolean)
def t_X9_carry : List ri_row := [(0, .aload_n 0, 1, 0, 0, 0, 0, []),
  (1, .iload_n 1, 1, 0, 0, 0, 0, []),
  (2, .invokevirtual 100, 3, 118, 9, 896, 0, []),
  (5, .ifCond .ne 11, 3, 8, 0, 0, 0, []),
  (8, .aload_n 0, 1, 0, 0, 0, 0, []),
  (9, .iload_n 2, 1, 0, 0, 0, 0, []),
  (10, .invokevirtual 100, 3, 118, 9, 896, 0, []),
  (13, .ifCond .eq 7, 3, 10, 0, 0, 0, []),
  (16, .sipush (-1001), 3, 0, 0, 0, 0, []),
  (19, .ireturn, 1, 0, 0, 0, 0, []),
  (20, .iload_n 3, 1, 0, 0, 0, 0, []),
  (21, .i2l, 1, 0, 0, 0, 0, []),
  (22, .lconst 0, 1, 0, 0, 0, 0, []),
  (23, .ldc2_w 73, 3, 0, 0, 872, 3, []),
  (26, .invokestatic 75, 3, 110, 0, 873, 0, []),
  (29, .ifCond .eq 18, 3, 22, 0, 0, 0, []),
  (32, .iload 4, 2, 0, 0, 0, 0, []),
  (34, .i2l, 1, 0, 0, 0, 0, []),
  (35, .ldc2_w 269, 3, 0, 0, 1155, (-1), []),
  (38, .ldc2_w 299, 3, 0, 0, 1193, 2, []),
  (41, .invokestatic 75, 3, 110, 0, 873, 0, []),
  (44, .ifCond .ne 7, 3, 24, 0, 0, 0, []),
  (47, .sipush (-1002), 3, 0, 0, 0, 0, []),
  (50, .ireturn, 1, 0, 0, 0, 0, []),
  (51, .iconst 0, 1, 0, 0, 0, 0, []),
  (52, .istore 5, 2, 0, 0, 0, 0, []),
  (54, .iload 5, 2, 0, 0, 0, 0, []),
  (56, .iload_n 3, 1, 0, 0, 0, 0, []),
  (57, .if_icmp .gt 84, 3, 68, 0, 0, 0, []),
  (60, .aload_n 0, 1, 0, 0, 0, 0, []),
  (61, .iload 5, 2, 0, 0, 0, 0, []),
  (63, .invokevirtual 301, 3, 189, 9, 1194, 0, []),
  (66, .istore 6, 2, 0, 0, 0, 0, []),
  (68, .iconst 0, 1, 0, 0, 0, 0, []),
  (69, .istore 7, 2, 0, 0, 0, 0, []),
  (71, .iload 7, 2, 0, 0, 0, 0, []),
  (73, .iload 6, 2, 0, 0, 0, 0, []),
  (75, .if_icmp .ge 60, 3, 66, 0, 0, 0, []),
  (78, .aload_n 0, 1, 0, 0, 0, 0, []),
  (79, .iload 5, 2, 0, 0, 0, 0, []),
  (81, .iload 7, 2, 0, 0, 0, 0, []),
  (83, .invokevirtual 304, 3, 190, 9, 1198, 0, []),
  (86, .aload_n 0, 1, 0, 0, 0, 0, []),
  (87, .iload_n 1, 1, 0, 0, 0, 0, []),
  (88, .iload_n 2, 1, 0, 0, 0, 0, []),
  (89, .invokevirtual 308, 3, 191, 9, 1202, 0, []),
  (92, .ifCond .eq 37, 3, 64, 0, 0, 0, []),
  (95, .iload 4, 2, 0, 0, 0, 0, []),
  (97, .iconst (-1), 1, 0, 0, 0, 0, []),
  (98, .if_icmp .ne 8, 3, 52, 0, 0, 0, []),
  (101, .iload 5, 2, 0, 0, 0, 0, []),
  (103, .goto 25, 3, 63, 0, 0, 0, []),
  (106, .iload 4, 2, 0, 0, 0, 0, []),
  (108, .iload 5, 2, 0, 0, 0, 0, []),
  (110, .if_icmp .ge 17, 3, 62, 0, 0, 0, []),
  (113, .aload_n 0, 1, 0, 0, 0, 0, []),
  (114, .getfield 22, 3, 9, 7, 789, 0, []),
  (117, .sipush 480, 3, 0, 0, 0, 0, []),
  (120, .iload 4, 2, 0, 0, 0, 0, []),
  (122, .iadd, 1, 0, 0, 0, 0, []),
  (123, .iaload, 1, 0, 0, 0, 0, []),
  (124, .goto 4, 3, 63, 0, 0, 0, []),
  (127, .iconst (-1), 1, 0, 0, 0, 0, []),
  (128, .ireturn, 1, 0, 0, 0, 0, []),
  (129, .iinc 7 1, 3, 0, 0, 0, 0, []),
  (132, .goto (-61), 3, 35, 0, 0, 0, []),
  (135, .iinc 5 1, 3, 0, 0, 0, 0, []),
  (138, .goto (-84), 3, 26, 0, 0, 0, []),
  (141, .iconst (-1), 1, 0, 0, 0, 0, []),
  (142, .ireturn, 1, 0, 0, 0, 0, [])]
def m_X9_carry : am_M := (yX9_carry, cX9_carry, 8, some .int)
def t_X9_fewest : List ri_row := [(0, .aload_n 0, 1, 0, 0, 0, 0, []),
  (1, .iload_n 1, 1, 0, 0, 0, 0, []),
  (2, .invokevirtual 218, 3, 150, 9, 997, 0, []),
  (5, .ifCond .eq 7, 3, 6, 0, 0, 0, []),
  (8, .sipush (-1001), 3, 0, 0, 0, 0, []),
  (11, .ireturn, 1, 0, 0, 0, 0, []),
  (12, .iload_n 2, 1, 0, 0, 0, 0, []),
  (13, .i2l, 1, 0, 0, 0, 0, []),
  (14, .lconst 0, 1, 0, 0, 0, 0, []),
  (15, .ldc2_w 73, 3, 0, 0, 872, 3, []),
  (18, .invokestatic 75, 3, 110, 0, 873, 0, []),
  (21, .ifCond .eq 17, 3, 18, 0, 0, 0, []),
  (24, .iload_n 3, 1, 0, 0, 0, 0, []),
  (25, .i2l, 1, 0, 0, 0, 0, []),
  (26, .ldc2_w 269, 3, 0, 0, 1155, (-1), []),
  (29, .ldc2_w 299, 3, 0, 0, 1193, 2, []),
  (32, .invokestatic 75, 3, 110, 0, 873, 0, []),
  (35, .ifCond .ne 7, 3, 20, 0, 0, 0, []),
  (38, .sipush (-1002), 3, 0, 0, 0, 0, []),
  (41, .ireturn, 1, 0, 0, 0, 0, []),
  (42, .aload_n 0, 1, 0, 0, 0, 0, []),
  (43, .iload_n 1, 1, 0, 0, 0, 0, []),
  (44, .invokevirtual 242, 3, 168, 9, 1092, 0, []),
  (47, .ifCond .ne 7, 3, 26, 0, 0, 0, []),
  (50, .sipush (-1005), 3, 0, 0, 0, 0, []),
  (53, .ireturn, 1, 0, 0, 0, 0, []),
  (54, .iconst 0, 1, 0, 0, 0, 0, []),
  (55, .istore 4, 2, 0, 0, 0, 0, []),
  (57, .iload 4, 2, 0, 0, 0, 0, []),
  (59, .iload_n 2, 1, 0, 0, 0, 0, []),
  (60, .if_icmp .gt 79, 3, 68, 0, 0, 0, []),
  (63, .aload_n 0, 1, 0, 0, 0, 0, []),
  (64, .iload 4, 2, 0, 0, 0, 0, []),
  (66, .invokevirtual 301, 3, 189, 9, 1194, 0, []),
  (69, .istore 5, 2, 0, 0, 0, 0, []),
  (71, .iconst 0, 1, 0, 0, 0, 0, []),
  (72, .istore 6, 2, 0, 0, 0, 0, []),
  (74, .iload 6, 2, 0, 0, 0, 0, []),
  (76, .iload 5, 2, 0, 0, 0, 0, []),
  (78, .if_icmp .ge 55, 3, 66, 0, 0, 0, []),
  (81, .aload_n 0, 1, 0, 0, 0, 0, []),
  (82, .iload 4, 2, 0, 0, 0, 0, []),
  (84, .iload 6, 2, 0, 0, 0, 0, []),
  (86, .invokevirtual 304, 3, 190, 9, 1198, 0, []),
  (89, .aload_n 0, 1, 0, 0, 0, 0, []),
  (90, .invokevirtual 296, 3, 187, 9, 1185, 0, []),
  (93, .ifCond .eq 34, 3, 64, 0, 0, 0, []),
  (96, .iload_n 3, 1, 0, 0, 0, 0, []),
  (97, .iconst (-1), 1, 0, 0, 0, 0, []),
  (98, .if_icmp .ne 8, 3, 52, 0, 0, 0, []),
  (101, .iload 4, 2, 0, 0, 0, 0, []),
  (103, .goto 23, 3, 63, 0, 0, 0, []),
  (106, .iload_n 3, 1, 0, 0, 0, 0, []),
  (107, .iload 4, 2, 0, 0, 0, 0, []),
  (109, .if_icmp .ge 16, 3, 62, 0, 0, 0, []),
  (112, .aload_n 0, 1, 0, 0, 0, 0, []),
  (113, .getfield 22, 3, 9, 7, 789, 0, []),
  (116, .sipush 480, 3, 0, 0, 0, 0, []),
  (119, .iload_n 3, 1, 0, 0, 0, 0, []),
  (120, .iadd, 1, 0, 0, 0, 0, []),
  (121, .iaload, 1, 0, 0, 0, 0, []),
  (122, .goto 4, 3, 63, 0, 0, 0, []),
  (125, .iconst (-1), 1, 0, 0, 0, 0, []),
  (126, .ireturn, 1, 0, 0, 0, 0, []),
  (127, .iinc 6 1, 3, 0, 0, 0, 0, []),
  (130, .goto (-56), 3, 37, 0, 0, 0, []),
  (133, .iinc 4 1, 3, 0, 0, 0, 0, []),
  (136, .goto (-79), 3, 28, 0, 0, 0, []),
  (139, .iconst (-1), 1, 0, 0, 0, 0, []),
  (140, .ireturn, 1, 0, 0, 0, 0, [])]
def m_X9_fewest : am_M := (yX9_fewest, cX9_fewest, 7, some .int)
def t_X9_count : List ri_row := [(0, .iload_n 1, 1, 0, 0, 0, 0, []),
  (1, .tableswitch 60 0 4 #[35, 40, 45, 50, 55], 35, 17, 0, 0, 0, [2, 5, 8, 11, 14]),
  (36, .aload_n 0, 1, 0, 0, 0, 0, []),
  (37, .getfield 64, 3, 9, 0, 782, 0, []),
  (40, .ireturn, 1, 0, 0, 0, 0, []),
  (41, .aload_n 0, 1, 0, 0, 0, 0, []),
  (42, .getfield 70, 3, 9, 3, 785, 0, []),
  (45, .ireturn, 1, 0, 0, 0, 0, []),
  (46, .aload_n 0, 1, 0, 0, 0, 0, []),
  (47, .getfield 67, 3, 9, 1, 783, 0, []),
  (50, .ireturn, 1, 0, 0, 0, 0, []),
  (51, .aload_n 0, 1, 0, 0, 0, 0, []),
  (52, .invokevirtual 289, 3, 114, 9, 1177, 0, []),
  (55, .ireturn, 1, 0, 0, 0, 0, []),
  (56, .aload_n 0, 1, 0, 0, 0, 0, []),
  (57, .getfield 181, 3, 9, 17, 799, 0, []),
  (60, .ireturn, 1, 0, 0, 0, 0, []),
  (61, .sipush (-1002), 3, 0, 0, 0, 0, []),
  (64, .ireturn, 1, 0, 0, 0, 0, [])]
def m_X9_count : am_M := (yX9_count, cX9_count, 2, some .int)
def t_J6_bitCount_0f7a4 : List ri_row := [(0, .iload_n 0, 1, 0, 0, 0, 0, []),
  (1, .iload_n 0, 1, 0, 0, 0, 0, []),
  (2, .iconst 1, 1, 0, 0, 0, 0, []),
  (3, .iushr, 1, 0, 0, 0, 0, []),
  (4, .ldc_w 265, 3, 0, 0, 690, 1431655765, []),
  (7, .iand, 1, 0, 0, 0, 0, []),
  (8, .isub, 1, 0, 0, 0, 0, []),
  (9, .istore_n 0, 1, 0, 0, 0, 0, []),
  (10, .iload_n 0, 1, 0, 0, 0, 0, []),
  (11, .ldc_w 266, 3, 0, 0, 691, 858993459, []),
  (14, .iand, 1, 0, 0, 0, 0, []),
  (15, .iload_n 0, 1, 0, 0, 0, 0, []),
  (16, .iconst 2, 1, 0, 0, 0, 0, []),
  (17, .iushr, 1, 0, 0, 0, 0, []),
  (18, .ldc_w 266, 3, 0, 0, 691, 858993459, []),
  (21, .iand, 1, 0, 0, 0, 0, []),
  (22, .iadd, 1, 0, 0, 0, 0, []),
  (23, .istore_n 0, 1, 0, 0, 0, 0, []),
  (24, .iload_n 0, 1, 0, 0, 0, 0, []),
  (25, .iload_n 0, 1, 0, 0, 0, 0, []),
  (26, .iconst 4, 1, 0, 0, 0, 0, []),
  (27, .iushr, 1, 0, 0, 0, 0, []),
  (28, .iadd, 1, 0, 0, 0, 0, []),
  (29, .ldc_w 267, 3, 0, 0, 692, 252645135, []),
  (32, .iand, 1, 0, 0, 0, 0, []),
  (33, .istore_n 0, 1, 0, 0, 0, 0, []),
  (34, .iload_n 0, 1, 0, 0, 0, 0, []),
  (35, .iload_n 0, 1, 0, 0, 0, 0, []),
  (36, .bipush 8, 2, 0, 0, 0, 0, []),
  (38, .iushr, 1, 0, 0, 0, 0, []),
  (39, .iadd, 1, 0, 0, 0, 0, []),
  (40, .istore_n 0, 1, 0, 0, 0, 0, []),
  (41, .iload_n 0, 1, 0, 0, 0, 0, []),
  (42, .iload_n 0, 1, 0, 0, 0, 0, []),
  (43, .bipush 16, 2, 0, 0, 0, 0, []),
  (45, .iushr, 1, 0, 0, 0, 0, []),
  (46, .iadd, 1, 0, 0, 0, 0, []),
  (47, .istore_n 0, 1, 0, 0, 0, 0, []),
  (48, .iload_n 0, 1, 0, 0, 0, 0, []),
  (49, .bipush 63, 2, 0, 0, 0, 0, []),
  (51, .iand, 1, 0, 0, 0, 0, []),
  (52, .ireturn, 1, 0, 0, 0, 0, [])]
def m_J6_bitCount_0f7a4 : am_M := (yJ6_bitCount_0f7a4, cJ6_bitCount_0f7a4, 1, some .int)
def ri_m0 : List ri_mi := [(m_X0_init, 1, 2, t_X0_init), (m_X0_begin, 1, 1, t_X0_begin), (m_X0_doPlan, 1, 1, t_X0_doPlan), (m_X0_lettersTogether, 0, 1, t_X0_lettersTogether), (m_X0_fullTurns, 1, 1, t_X0_fullTurns), (m_X0_areTurns, 2, 1, t_X0_areTurns), (m_X0_pushRim, 2, 1, t_X0_pushRim), (m_X0_rimLetter, 1, 0, t_X0_rimLetter), (m_X0_cornerSum, 1, 1, t_X0_cornerSum), (m_X0_corner, 4, 0, t_X0_corner), (m_X1_init, 0, 2, t_X1_init), (m_X1_between, 2, 1, t_X1_between), (m_X1_crossings, 3, 0, t_X1_crossings), (m_X1_cross, 4, 0, t_X1_cross)]
def ri_m1 : List ri_mi := [(m_X1_changeSides, 4, 0, t_X1_changeSides), (m_X1_goRound, 3, 0, t_X1_goRound), (m_X1_stepsRound, 2, 0, t_X1_stepsRound), (m_X2_init, 0, 2, t_X2_init), (m_X2_add, 1, 1, t_X2_add), (m_X2_addAll, 1, 1, t_X2_addAll), (m_X2_copy, 1, 1, t_X2_copy), (m_X2_becomeReversed, 1, 1, t_X2_becomeReversed), (m_X2_codeOrSize, 1, 1, t_X2_codeOrSize), (m_X3_init, 0, 2, t_X3_init), (m_X3_become, 2, 1, t_X3_become), (m_X3_isSimple, 0, 1, t_X3_isSimple), (m_X4_init, 1, 2, t_X4_init), (m_X4_push, 1, 1, t_X4_push)]
def ri_m2 : List ri_mi := [(m_X4_becomeLetter, 1, 1, t_X4_becomeLetter), (m_X4_copy, 1, 1, t_X4_copy), (m_X4_becomeBack, 1, 1, t_X4_becomeBack), (m_X4_looseEnds, 0, 1, t_X4_looseEnds), (m_X4_closedSize, 0, 1, t_X4_closedSize), (m_X4_close, 0, 1, t_X4_close), (m_X4_isLike, 1, 1, t_X4_isLike), (m_X4_isOneWith, 1, 1, t_X4_isOneWith), (m_X4_runsAlong, 3, 1, t_X4_runsAlong), (m_X4_runsAgainst, 3, 1, t_X4_runsAgainst), (m_X4_isPower, 0, 1, t_X4_isPower), (m_X4_repeats, 1, 1, t_X4_repeats), (m_X4_balanceOf, 1, 1, t_X4_balanceOf), (m_X5_init, 2, 2, t_X5_init)]
def ri_m3 : List ri_mi := [(m_X5_forCarrying, 4, 1, t_X5_forCarrying), (m_X5_measureAhead, 0, 1, t_X5_measureAhead), (m_X5_tryTwists, 4, 1, t_X5_tryTwists), (m_X5_spell, 3, 1, t_X5_spell), (m_X5_forImages, 2, 1, t_X5_forImages), (m_X5_doesAsImages, 1, 1, t_X5_doesAsImages), (m_X6_init, 0, 2, t_X6_init), (m_X6_add, 1, 1, t_X6_add), (m_X6_understand, 1, 1, t_X6_understand), (m_X6_take, 2, 1, t_X6_take), (m_X6_isFigure, 1, 0, t_X6_isFigure), (m_X6_takeHandle, 1, 1, t_X6_takeHandle), (m_X6_takeTimes, 1, 1, t_X6_takeTimes), (m_X6_takeItem, 2, 1, t_X6_takeItem)]
def ri_m4 : List ri_mi := [(m_X7_init, 0, 2, t_X7_init), (m_X7_layOut, 1, 1, t_X7_layOut), (m_X7_layWord, 3, 1, t_X7_layWord), (m_X7_spellFirst, 3, 1, t_X7_spellFirst), (m_X7_spellSecond, 3, 1, t_X7_spellSecond), (m_X7_spellThird, 3, 1, t_X7_spellThird), (m_X7_spellBetween, 2, 1, t_X7_spellBetween), (m_X7_slotOf, 2, 0, t_X7_slotOf), (m_X7_keepWord, 3, 1, t_X7_keepWord), (m_X7_doTwist, 2, 1, t_X7_doTwist), (m_X7_doPlan, 2, 1, t_X7_doPlan), (m_X8_init, 0, 2, t_X8_init), (m_X8_skin, 1, 1, t_X8_skin), (m_X8_letter, 1, 1, t_X8_letter)]
def ri_m5 : List ri_mi := [(m_X8_ring, 0, 1, t_X8_ring), (m_X8_told, 2, 1, t_X8_told), (m_X8_at, 2, 1, t_X8_at), (m_X8_meets, 2, 1, t_X8_meets), (m_X8_one, 2, 1, t_X8_one), (m_X8_heap, 1, 1, t_X8_heap), (m_X8_drop, 0, 1, t_X8_drop), (m_X8_count, 1, 1, t_X8_count), (m_X8_feed, 2, 1, t_X8_feed), (m_X8_read, 1, 1, t_X8_read), (m_X8_fault, 0, 1, t_X8_fault), (m_X8_twist, 2, 1, t_X8_twist), (m_X8_chain, 3, 1, t_X8_chain), (m_X8_turn, 2, 1, t_X8_turn)]
def ri_m6 : List ri_mi := [(m_X8_image, 3, 1, t_X8_image), (m_X8_carried, 3, 1, t_X8_carried), (m_X8_meetsThen, 3, 1, t_X8_meetsThen), (m_X8_same, 2, 1, t_X8_same), (m_X8_turns, 1, 1, t_X8_turns), (m_X8_order, 2, 1, t_X8_order), (m_X8_table, 3, 1, t_X8_table), (m_X8_character, 2, 1, t_X8_character), (m_X8_length, 2, 1, t_X8_length), (m_X8_sort, 2, 1, t_X8_sort), (m_X8_law, 2, 1, t_X8_law), (m_X8_carry, 4, 1, t_X8_carry), (m_X8_fewest, 3, 1, t_X8_fewest), (m_X8_layOut, 1, 1, t_X8_layOut)]
def ri_m7 : List ri_mi := [(m_X8_isRing, 1, 1, t_X8_isRing), (m_X8_isPlan, 1, 0, t_X8_isPlan), (m_X8_isTwist, 1, 1, t_X8_isTwist), (m_X8_isLetter, 1, 1, t_X8_isLetter), (m_X8_isSearch, 2, 0, t_X8_isSearch), (m_X8_oneIf, 1, 0, t_X8_oneIf), (m_X8_firstBarring, 2, 1, t_X8_firstBarring), (m_X8_carryToWork, 2, 1, t_X8_carryToWork), (m_X8_firstUnlike, 2, 1, t_X8_firstUnlike), (m_X8_keepsSomeRing, 2, 1, t_X8_keepsSomeRing), (m_X8_keepsRing, 3, 1, t_X8_keepsRing), (m_X9_init, 0, 2, t_X9_init), (m_X9_in, 3, 0, t_X9_in), (m_X9_bit, 1, 0, t_X9_bit)]
def ri_m8 : List ri_mi := [(m_X9_lay, 1, 1, t_X9_lay), (m_X9_skin, 1, 1, t_X9_skin), (m_X9_twists, 0, 1, t_X9_twists), (m_X9_isLetter, 1, 1, t_X9_isLetter), (m_X9_letter, 1, 1, t_X9_letter), (m_X9_ring, 0, 1, t_X9_ring), (m_X9_noRing, 1, 1, t_X9_noRing), (m_X9_drop, 0, 1, t_X9_drop), (m_X9_takeU, 1, 1, t_X9_takeU), (m_X9_takeV, 1, 1, t_X9_takeV), (m_X9_turnV, 0, 1, t_X9_turnV), (m_X9_ofU, 1, 1, t_X9_ofU), (m_X9_ofV, 1, 1, t_X9_ofV), (m_X9_isTurned, 0, 1, t_X9_isTurned)]
def ri_m9 : List ri_mi := [(m_X9_areOne, 0, 1, t_X9_areOne), (m_X9_one, 2, 1, t_X9_one), (m_X9_isPower, 1, 1, t_X9_isPower), (m_X9_placeOf, 1, 0, t_X9_placeOf), (m_X9_farFrom, 2, 1, t_X9_farFrom), (m_X9_goRound, 3, 1, t_X9_goRound), (m_X9_meetAtOnce, 4, 1, t_X9_meetAtOnce), (m_X9_meetAlong, 2, 1, t_X9_meetAlong), (m_X9_countMeetings, 1, 1, t_X9_countMeetings), (m_X9_meetings, 0, 1, t_X9_meetings), (m_X9_meetingsOf, 2, 1, t_X9_meetingsOf), (m_X9_isSimple, 1, 1, t_X9_isSimple), (m_X9_meets, 2, 1, t_X9_meets), (m_X9_told, 2, 1, t_X9_told)]
def ri_m10 : List ri_mi := [(m_X9_at, 2, 1, t_X9_at), (m_X9_heap, 1, 1, t_X9_heap), (m_X9_put, 1, 1, t_X9_put), (m_X9_putC, 2, 1, t_X9_putC), (m_X9_putImage, 4, 1, t_X9_putImage), (m_X9_twistRow, 1, 1, t_X9_twistRow), (m_X9_imageRow, 1, 1, t_X9_imageRow), (m_X9_takeLetter, 1, 1, t_X9_takeLetter), (m_X9_takeRing, 1, 1, t_X9_takeRing), (m_X9_closeToU, 0, 1, t_X9_closeToU), (m_X9_noPlan, 1, 1, t_X9_noPlan), (m_X9_feed, 2, 1, t_X9_feed), (m_X9_look, 0, 1, t_X9_look), (m_X9_want, 3, 1, t_X9_want)]
def ri_m11 : List ri_mi := [(m_X9_takeFigure, 2, 1, t_X9_takeFigure), (m_X9_readTwist, 1, 1, t_X9_readTwist), (m_X9_closeBracket, 0, 1, t_X9_closeBracket), (m_X9_readItem, 1, 1, t_X9_readItem), (m_X9_read, 1, 1, t_X9_read), (m_X9_fault, 0, 1, t_X9_fault), (m_X9_twist, 2, 1, t_X9_twist), (m_X9_chain, 3, 1, t_X9_chain), (m_X9_turn, 2, 1, t_X9_turn), (m_X9_image, 3, 1, t_X9_image), (m_X9_carried, 3, 1, t_X9_carried), (m_X9_meetsThen, 3, 1, t_X9_meetsThen), (m_X9_startImages, 0, 1, t_X9_startImages), (m_X9_goOn, 1, 1, t_X9_goOn)]
def ri_m12 : List ri_mi := [(m_X9_findImages, 1, 1, t_X9_findImages), (m_X9_isImage, 1, 1, t_X9_isImage), (m_X9_same, 2, 1, t_X9_same), (m_X9_putRim, 1, 1, t_X9_putRim), (m_X9_isTurns, 1, 1, t_X9_isTurns), (m_X9_findTurns, 0, 1, t_X9_findTurns), (m_X9_turns, 1, 1, t_X9_turns), (m_X9_findOrder, 2, 1, t_X9_findOrder), (m_X9_order, 2, 1, t_X9_order), (m_X9_tableOf, 2, 1, t_X9_tableOf), (m_X9_table, 3, 1, t_X9_table), (m_X9_determinant, 1, 1, t_X9_determinant), (m_X9_onesOf, 1, 0, t_X9_onesOf), (m_X9_character, 2, 1, t_X9_character)]
def ri_m13 : List ri_mi := [(m_X9_lengthNow, 0, 1, t_X9_lengthNow), (m_X9_length, 2, 1, t_X9_length), (m_X9_comesBack, 3, 1, t_X9_comesBack), (m_X9_sort, 2, 1, t_X9_sort), (m_X9_draftPlan, 3, 1, t_X9_draftPlan), (m_X9_isDraftLike, 0, 1, t_X9_isDraftLike), (m_X9_law, 2, 1, t_X9_law), (m_X9_power, 1, 1, t_X9_power), (m_X9_numberPlan, 2, 1, t_X9_numberPlan), (m_X9_carries, 2, 1, t_X9_carries), (m_X9_carry, 4, 1, t_X9_carry), (m_X9_fewest, 3, 1, t_X9_fewest), (m_X9_count, 1, 1, t_X9_count), (m_J6_bitCount_0f7a4, 1, 0, t_J6_bitCount_0f7a4)]
def ri_ms : List (List ri_mi) := [ri_m0, ri_m1, ri_m2, ri_m3, ri_m4, ri_m5, ri_m6, ri_m7, ri_m8, ri_m9, ri_m10, ri_m11, ri_m12, ri_m13]
def ri_m0d : ri_mi := (m_X0_init, 1, 2, t_X0_init)
def ri_M (j : Nat) : ri_mi := (ri_ms.getD (j / 14) []).getD (j % 14) ri_m0d
end
end
section
noncomputable section
def ri_blank : List (List ri_E) := List.replicate 16 (List.replicate 8 (.inr (0, [])))
def ri_L0 : ri_L := (1, 13, ri_put ri_blank 0 (.inr (8, am_df 8)))
def tst2 : Bool := (ri_D [] ri_M 100000 20 67 [.ref 0] ri_L0).isSome
theorem tst2_ok : tst2 = true := by decide +kernel
end
end
