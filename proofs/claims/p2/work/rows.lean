section
-- ===== PART A: goes FIRST, ahead of the names: the tables' words, and 'selects' of the private methods out of them =====
/-- a private method of a class that the tables say can be made, by its rows of tables_1 -/
def lw_okq (q : MethodName × Nat) : Prop := (q.1.cls ≠ "java/lang/invoke/MethodHandle" ∧ q.1.cls ≠ "java/lang/invoke/VarHandle") ∧ Cond.instantiable q.1.cls q.2 ∈ tables_1 ∧ Cond.privateMethod q.1 ∈ tables_1 ∧ Cond.instanceMethod q.1 ∈ tables_1
theorem lw_p0 : lw_okq (⟨"SkinTwists", "layOut", "(I)V"⟩, 13) := ⟨⟨by decide +kernel, by decide +kernel⟩, List.mem_of_getElem? (i := 15) (by decide +kernel), List.mem_of_getElem? (i := 222) (by decide +kernel), List.mem_of_getElem? (i := 223) (by decide +kernel)⟩
theorem lw_p1 : lw_okq (⟨"SkinTwists$Twister", "layWord", "(III)V"⟩, 5) := ⟨⟨by decide +kernel, by decide +kernel⟩, List.mem_of_getElem? (i := 51) (by decide +kernel), List.mem_of_getElem? (i := 230) (by decide +kernel), List.mem_of_getElem? (i := 231) (by decide +kernel)⟩
theorem lw_p2 : lw_okq (⟨"SkinTwists$Twister", "spellFirst", "(III)V"⟩, 5) := ⟨⟨by decide +kernel, by decide +kernel⟩, List.mem_of_getElem? (i := 51) (by decide +kernel), List.mem_of_getElem? (i := 234) (by decide +kernel), List.mem_of_getElem? (i := 235) (by decide +kernel)⟩
theorem lw_p3 : lw_okq (⟨"SkinTwists$Twister", "spellSecond", "(III)V"⟩, 5) := ⟨⟨by decide +kernel, by decide +kernel⟩, List.mem_of_getElem? (i := 51) (by decide +kernel), List.mem_of_getElem? (i := 242) (by decide +kernel), List.mem_of_getElem? (i := 243) (by decide +kernel)⟩
theorem lw_p4 : lw_okq (⟨"SkinTwists$Twister", "spellThird", "(III)V"⟩, 5) := ⟨⟨by decide +kernel, by decide +kernel⟩, List.mem_of_getElem? (i := 51) (by decide +kernel), List.mem_of_getElem? (i := 246) (by decide +kernel), List.mem_of_getElem? (i := 247) (by decide +kernel)⟩
theorem lw_p5 : lw_okq (⟨"SkinTwists$Twister", "spellBetween", "(II)V"⟩, 5) := ⟨⟨by decide +kernel, by decide +kernel⟩, List.mem_of_getElem? (i := 51) (by decide +kernel), List.mem_of_getElem? (i := 250) (by decide +kernel), List.mem_of_getElem? (i := 251) (by decide +kernel)⟩
theorem lw_p6 : lw_okq (⟨"SkinTwists$Twister", "keepWord", "(IILSkinTwists$Row;)V"⟩, 5) := ⟨⟨by decide +kernel, by decide +kernel⟩, List.mem_of_getElem? (i := 51) (by decide +kernel), List.mem_of_getElem? (i := 261) (by decide +kernel), List.mem_of_getElem? (i := 262) (by decide +kernel)⟩
theorem lw_p7 : lw_okq (⟨"SkinTwists$Row", "looseEnds", "()I"⟩, 2) := ⟨⟨by decide +kernel, by decide +kernel⟩, List.mem_of_getElem? (i := 27) (by decide +kernel), List.mem_of_getElem? (i := 337) (by decide +kernel), List.mem_of_getElem? (i := 338) (by decide +kernel)⟩
theorem lw_p8 : lw_okq (⟨"SkinTwists$Row", "repeats", "(I)Z"⟩, 2) := ⟨⟨by decide +kernel, by decide +kernel⟩, List.mem_of_getElem? (i := 27) (by decide +kernel), List.mem_of_getElem? (i := 345) (by decide +kernel), List.mem_of_getElem? (i := 346) (by decide +kernel)⟩
theorem lw_p9 : lw_okq (⟨"SkinTwists", "isRing", "(I)Z"⟩, 13) := ⟨⟨by decide +kernel, by decide +kernel⟩, List.mem_of_getElem? (i := 15) (by decide +kernel), List.mem_of_getElem? (i := 375) (by decide +kernel), List.mem_of_getElem? (i := 376) (by decide +kernel)⟩
theorem lw_p10 : lw_okq (⟨"SkinTwists$Row", "runsAlong", "(ILSkinTwists$Row;I)Z"⟩, 2) := ⟨⟨by decide +kernel, by decide +kernel⟩, List.mem_of_getElem? (i := 27) (by decide +kernel), List.mem_of_getElem? (i := 403) (by decide +kernel), List.mem_of_getElem? (i := 404) (by decide +kernel)⟩
theorem lw_p11 : lw_okq (⟨"SkinTwists$Row", "runsAgainst", "(ILSkinTwists$Row;I)Z"⟩, 2) := ⟨⟨by decide +kernel, by decide +kernel⟩, List.mem_of_getElem? (i := 27) (by decide +kernel), List.mem_of_getElem? (i := 407) (by decide +kernel), List.mem_of_getElem? (i := 408) (by decide +kernel)⟩
theorem lw_p12 : lw_okq (⟨"SkinTwists", "firstBarring", "(II)I"⟩, 13) := ⟨⟨by decide +kernel, by decide +kernel⟩, List.mem_of_getElem? (i := 15) (by decide +kernel), List.mem_of_getElem? (i := 415) (by decide +kernel), List.mem_of_getElem? (i := 416) (by decide +kernel)⟩
theorem lw_p13 : lw_okq (⟨"SkinTwists$TextReader", "take", "(II)I"⟩, 10) := ⟨⟨by decide +kernel, by decide +kernel⟩, List.mem_of_getElem? (i := 141) (by decide +kernel), List.mem_of_getElem? (i := 447) (by decide +kernel), List.mem_of_getElem? (i := 448) (by decide +kernel)⟩
theorem lw_p14 : lw_okq (⟨"SkinTwists$TextReader", "takeHandle", "(I)I"⟩, 10) := ⟨⟨by decide +kernel, by decide +kernel⟩, List.mem_of_getElem? (i := 141) (by decide +kernel), List.mem_of_getElem? (i := 451) (by decide +kernel), List.mem_of_getElem? (i := 452) (by decide +kernel)⟩
theorem lw_p15 : lw_okq (⟨"SkinTwists$TextReader", "takeTimes", "(I)I"⟩, 10) := ⟨⟨by decide +kernel, by decide +kernel⟩, List.mem_of_getElem? (i := 141) (by decide +kernel), List.mem_of_getElem? (i := 462) (by decide +kernel), List.mem_of_getElem? (i := 463) (by decide +kernel)⟩
def lw_privs_1 : List (MethodName × Nat) := [(⟨"SkinTwists", "layOut", "(I)V"⟩, 13), (⟨"SkinTwists$Twister", "layWord", "(III)V"⟩, 5), (⟨"SkinTwists$Twister", "spellFirst", "(III)V"⟩, 5), (⟨"SkinTwists$Twister", "spellSecond", "(III)V"⟩, 5), (⟨"SkinTwists$Twister", "spellThird", "(III)V"⟩, 5), (⟨"SkinTwists$Twister", "spellBetween", "(II)V"⟩, 5), (⟨"SkinTwists$Twister", "keepWord", "(IILSkinTwists$Row;)V"⟩, 5), (⟨"SkinTwists$Row", "looseEnds", "()I"⟩, 2), (⟨"SkinTwists$Row", "repeats", "(I)Z"⟩, 2), (⟨"SkinTwists", "isRing", "(I)Z"⟩, 13), (⟨"SkinTwists$Row", "runsAlong", "(ILSkinTwists$Row;I)Z"⟩, 2), (⟨"SkinTwists$Row", "runsAgainst", "(ILSkinTwists$Row;I)Z"⟩, 2), (⟨"SkinTwists", "firstBarring", "(II)I"⟩, 13), (⟨"SkinTwists$TextReader", "take", "(II)I"⟩, 10), (⟨"SkinTwists$TextReader", "takeHandle", "(I)I"⟩, 10), (⟨"SkinTwists$TextReader", "takeTimes", "(I)I"⟩, 10)]
theorem lw_r1 : ∀ q ∈ lw_privs_1, lw_okq q := List.forall_mem_cons.mpr ⟨lw_p0, List.forall_mem_cons.mpr ⟨lw_p1, List.forall_mem_cons.mpr ⟨lw_p2, List.forall_mem_cons.mpr ⟨lw_p3, List.forall_mem_cons.mpr ⟨lw_p4, List.forall_mem_cons.mpr ⟨lw_p5, List.forall_mem_cons.mpr ⟨lw_p6, List.forall_mem_cons.mpr ⟨lw_p7, List.forall_mem_cons.mpr ⟨lw_p8, List.forall_mem_cons.mpr ⟨lw_p9, List.forall_mem_cons.mpr ⟨lw_p10, List.forall_mem_cons.mpr ⟨lw_p11, List.forall_mem_cons.mpr ⟨lw_p12, List.forall_mem_cons.mpr ⟨lw_p13, List.forall_mem_cons.mpr ⟨lw_p14, List.forall_mem_cons.mpr ⟨lw_p15, fun _ h => absurd h List.not_mem_nil⟩⟩⟩⟩⟩⟩⟩⟩⟩⟩⟩⟩⟩⟩⟩⟩
theorem lw_p16 : lw_okq (⟨"SkinTwists$TextReader", "takeItem", "(II)I"⟩, 10) := ⟨⟨by decide +kernel, by decide +kernel⟩, List.mem_of_getElem? (i := 141) (by decide +kernel), List.mem_of_getElem? (i := 466) (by decide +kernel), List.mem_of_getElem? (i := 467) (by decide +kernel)⟩
theorem lw_p17 : lw_okq (⟨"SkinTwists", "isLetter", "(I)Z"⟩, 13) := ⟨⟨by decide +kernel, by decide +kernel⟩, List.mem_of_getElem? (i := 15) (by decide +kernel), List.mem_of_getElem? (i := 508) (by decide +kernel), List.mem_of_getElem? (i := 509) (by decide +kernel)⟩
theorem lw_p18 : lw_okq (⟨"SkinTwists", "carryToWork", "(II)Z"⟩, 13) := ⟨⟨by decide +kernel, by decide +kernel⟩, List.mem_of_getElem? (i := 15) (by decide +kernel), List.mem_of_getElem? (i := 528) (by decide +kernel), List.mem_of_getElem? (i := 529) (by decide +kernel)⟩
theorem lw_p19 : lw_okq (⟨"SkinTwists", "firstUnlike", "(LSkinTwists$Plan;LSkinTwists$Plan;)I"⟩, 13) := ⟨⟨by decide +kernel, by decide +kernel⟩, List.mem_of_getElem? (i := 15) (by decide +kernel), List.mem_of_getElem? (i := 542) (by decide +kernel), List.mem_of_getElem? (i := 543) (by decide +kernel)⟩
theorem lw_p20 : lw_okq (⟨"SkinTwists$Images", "areTurns", "(ILSkinTwists$Row;)Z"⟩, 4) := ⟨⟨by decide +kernel, by decide +kernel⟩, List.mem_of_getElem? (i := 89) (by decide +kernel), List.mem_of_getElem? (i := 568) (by decide +kernel), List.mem_of_getElem? (i := 569) (by decide +kernel)⟩
theorem lw_p21 : lw_okq (⟨"SkinTwists$Images", "pushRim", "(ILSkinTwists$Row;)V"⟩, 4) := ⟨⟨by decide +kernel, by decide +kernel⟩, List.mem_of_getElem? (i := 89) (by decide +kernel), List.mem_of_getElem? (i := 572) (by decide +kernel), List.mem_of_getElem? (i := 573) (by decide +kernel)⟩
theorem lw_p22 : lw_okq (⟨"SkinTwists", "keepsSomeRing", "(LSkinTwists$Plan;I)Z"⟩, 13) := ⟨⟨by decide +kernel, by decide +kernel⟩, List.mem_of_getElem? (i := 15) (by decide +kernel), List.mem_of_getElem? (i := 629) (by decide +kernel), List.mem_of_getElem? (i := 630) (by decide +kernel)⟩
theorem lw_p23 : lw_okq (⟨"SkinTwists", "keepsRing", "(LSkinTwists$Plan;ILSkinTwists$Row;)Z"⟩, 13) := ⟨⟨by decide +kernel, by decide +kernel⟩, List.mem_of_getElem? (i := 15) (by decide +kernel), List.mem_of_getElem? (i := 633) (by decide +kernel), List.mem_of_getElem? (i := 634) (by decide +kernel)⟩
theorem lw_p24 : lw_okq (⟨"SkinTwists", "isTwist", "(I)Z"⟩, 13) := ⟨⟨by decide +kernel, by decide +kernel⟩, List.mem_of_getElem? (i := 15) (by decide +kernel), List.mem_of_getElem? (i := 641) (by decide +kernel), List.mem_of_getElem? (i := 642) (by decide +kernel)⟩
theorem lw_p25 : lw_okq (⟨"SkinTwists$Search", "measureAhead", "()V"⟩, 6) := ⟨⟨by decide +kernel, by decide +kernel⟩, List.mem_of_getElem? (i := 114) (by decide +kernel), List.mem_of_getElem? (i := 658) (by decide +kernel), List.mem_of_getElem? (i := 659) (by decide +kernel)⟩
theorem lw_p26 : lw_okq (⟨"SkinTwists$Search", "tryTwists", "(IIII)V"⟩, 6) := ⟨⟨by decide +kernel, by decide +kernel⟩, List.mem_of_getElem? (i := 114) (by decide +kernel), List.mem_of_getElem? (i := 668) (by decide +kernel), List.mem_of_getElem? (i := 669) (by decide +kernel)⟩
theorem lw_p27 : lw_okq (⟨"SkinTwists$Search", "spell", "(IILSkinTwists$Plan;)V"⟩, 6) := ⟨⟨by decide +kernel, by decide +kernel⟩, List.mem_of_getElem? (i := 114) (by decide +kernel), List.mem_of_getElem? (i := 672) (by decide +kernel), List.mem_of_getElem? (i := 673) (by decide +kernel)⟩
theorem lw_p28 : lw_okq (⟨"SkinTwists$Search", "doesAsImages", "(LSkinTwists$Plan;)Z"⟩, 6) := ⟨⟨by decide +kernel, by decide +kernel⟩, List.mem_of_getElem? (i := 114) (by decide +kernel), List.mem_of_getElem? (i := 685) (by decide +kernel), List.mem_of_getElem? (i := 686) (by decide +kernel)⟩
theorem lw_p29 : lw_okq (⟨"SkinTwistsModel", "lay", "(I)V"⟩, 28) := ⟨⟨by decide +kernel, by decide +kernel⟩, List.mem_of_getElem? (i := 692) (by decide +kernel), List.mem_of_getElem? (i := 698) (by decide +kernel), List.mem_of_getElem? (i := 699) (by decide +kernel)⟩
theorem lw_p30 : lw_okq (⟨"SkinTwistsModel", "isLetter", "(I)Z"⟩, 28) := ⟨⟨by decide +kernel, by decide +kernel⟩, List.mem_of_getElem? (i := 692) (by decide +kernel), List.mem_of_getElem? (i := 800) (by decide +kernel), List.mem_of_getElem? (i := 801) (by decide +kernel)⟩
theorem lw_p31 : lw_okq (⟨"SkinTwistsModel", "noRing", "(I)Z"⟩, 28) := ⟨⟨by decide +kernel, by decide +kernel⟩, List.mem_of_getElem? (i := 692) (by decide +kernel), List.mem_of_getElem? (i := 816) (by decide +kernel), List.mem_of_getElem? (i := 817) (by decide +kernel)⟩
def lw_privs_2 : List (MethodName × Nat) := [(⟨"SkinTwists$TextReader", "takeItem", "(II)I"⟩, 10), (⟨"SkinTwists", "isLetter", "(I)Z"⟩, 13), (⟨"SkinTwists", "carryToWork", "(II)Z"⟩, 13), (⟨"SkinTwists", "firstUnlike", "(LSkinTwists$Plan;LSkinTwists$Plan;)I"⟩, 13), (⟨"SkinTwists$Images", "areTurns", "(ILSkinTwists$Row;)Z"⟩, 4), (⟨"SkinTwists$Images", "pushRim", "(ILSkinTwists$Row;)V"⟩, 4), (⟨"SkinTwists", "keepsSomeRing", "(LSkinTwists$Plan;I)Z"⟩, 13), (⟨"SkinTwists", "keepsRing", "(LSkinTwists$Plan;ILSkinTwists$Row;)Z"⟩, 13), (⟨"SkinTwists", "isTwist", "(I)Z"⟩, 13), (⟨"SkinTwists$Search", "measureAhead", "()V"⟩, 6), (⟨"SkinTwists$Search", "tryTwists", "(IIII)V"⟩, 6), (⟨"SkinTwists$Search", "spell", "(IILSkinTwists$Plan;)V"⟩, 6), (⟨"SkinTwists$Search", "doesAsImages", "(LSkinTwists$Plan;)Z"⟩, 6), (⟨"SkinTwistsModel", "lay", "(I)V"⟩, 28), (⟨"SkinTwistsModel", "isLetter", "(I)Z"⟩, 28), (⟨"SkinTwistsModel", "noRing", "(I)Z"⟩, 28)]
theorem lw_r2 : ∀ q ∈ lw_privs_2, lw_okq q := List.forall_mem_cons.mpr ⟨lw_p16, List.forall_mem_cons.mpr ⟨lw_p17, List.forall_mem_cons.mpr ⟨lw_p18, List.forall_mem_cons.mpr ⟨lw_p19, List.forall_mem_cons.mpr ⟨lw_p20, List.forall_mem_cons.mpr ⟨lw_p21, List.forall_mem_cons.mpr ⟨lw_p22, List.forall_mem_cons.mpr ⟨lw_p23, List.forall_mem_cons.mpr ⟨lw_p24, List.forall_mem_cons.mpr ⟨lw_p25, List.forall_mem_cons.mpr ⟨lw_p26, List.forall_mem_cons.mpr ⟨lw_p27, List.forall_mem_cons.mpr ⟨lw_p28, List.forall_mem_cons.mpr ⟨lw_p29, List.forall_mem_cons.mpr ⟨lw_p30, List.forall_mem_cons.mpr ⟨lw_p31, fun _ h => absurd h List.not_mem_nil⟩⟩⟩⟩⟩⟩⟩⟩⟩⟩⟩⟩⟩⟩⟩⟩
theorem lw_p32 : lw_okq (⟨"SkinTwistsModel", "takeU", "(I)V"⟩, 28) := ⟨⟨by decide +kernel, by decide +kernel⟩, List.mem_of_getElem? (i := 692) (by decide +kernel), List.mem_of_getElem? (i := 820) (by decide +kernel), List.mem_of_getElem? (i := 821) (by decide +kernel)⟩
theorem lw_p33 : lw_okq (⟨"SkinTwistsModel", "takeV", "(I)V"⟩, 28) := ⟨⟨by decide +kernel, by decide +kernel⟩, List.mem_of_getElem? (i := 692) (by decide +kernel), List.mem_of_getElem? (i := 824) (by decide +kernel), List.mem_of_getElem? (i := 825) (by decide +kernel)⟩
theorem lw_p34 : lw_okq (⟨"SkinTwistsModel", "areOne", "()Z"⟩, 28) := ⟨⟨by decide +kernel, by decide +kernel⟩, List.mem_of_getElem? (i := 692) (by decide +kernel), List.mem_of_getElem? (i := 828) (by decide +kernel), List.mem_of_getElem? (i := 829) (by decide +kernel)⟩
theorem lw_p35 : lw_okq (⟨"SkinTwistsModel", "isTurned", "()Z"⟩, 28) := ⟨⟨by decide +kernel, by decide +kernel⟩, List.mem_of_getElem? (i := 692) (by decide +kernel), List.mem_of_getElem? (i := 832) (by decide +kernel), List.mem_of_getElem? (i := 833) (by decide +kernel)⟩
theorem lw_p36 : lw_okq (⟨"SkinTwistsModel", "ofU", "(I)I"⟩, 28) := ⟨⟨by decide +kernel, by decide +kernel⟩, List.mem_of_getElem? (i := 692) (by decide +kernel), List.mem_of_getElem? (i := 836) (by decide +kernel), List.mem_of_getElem? (i := 837) (by decide +kernel)⟩
theorem lw_p37 : lw_okq (⟨"SkinTwistsModel", "turnV", "()V"⟩, 28) := ⟨⟨by decide +kernel, by decide +kernel⟩, List.mem_of_getElem? (i := 692) (by decide +kernel), List.mem_of_getElem? (i := 840) (by decide +kernel), List.mem_of_getElem? (i := 841) (by decide +kernel)⟩
theorem lw_p38 : lw_okq (⟨"SkinTwistsModel", "isPower", "(I)Z"⟩, 28) := ⟨⟨by decide +kernel, by decide +kernel⟩, List.mem_of_getElem? (i := 692) (by decide +kernel), List.mem_of_getElem? (i := 851) (by decide +kernel), List.mem_of_getElem? (i := 852) (by decide +kernel)⟩
theorem lw_p39 : lw_okq (⟨"SkinTwistsModel", "meetingsOf", "(II)I"⟩, 28) := ⟨⟨by decide +kernel, by decide +kernel⟩, List.mem_of_getElem? (i := 692) (by decide +kernel), List.mem_of_getElem? (i := 855) (by decide +kernel), List.mem_of_getElem? (i := 856) (by decide +kernel)⟩
theorem lw_p40 : lw_okq (⟨"SkinTwistsModel", "meetings", "()I"⟩, 28) := ⟨⟨by decide +kernel, by decide +kernel⟩, List.mem_of_getElem? (i := 692) (by decide +kernel), List.mem_of_getElem? (i := 859) (by decide +kernel), List.mem_of_getElem? (i := 860) (by decide +kernel)⟩
theorem lw_p41 : lw_okq (⟨"SkinTwistsModel", "countMeetings", "(Z)I"⟩, 28) := ⟨⟨by decide +kernel, by decide +kernel⟩, List.mem_of_getElem? (i := 692) (by decide +kernel), List.mem_of_getElem? (i := 863) (by decide +kernel), List.mem_of_getElem? (i := 864) (by decide +kernel)⟩
theorem lw_p42 : lw_okq (⟨"SkinTwistsModel", "ofV", "(I)I"⟩, 28) := ⟨⟨by decide +kernel, by decide +kernel⟩, List.mem_of_getElem? (i := 692) (by decide +kernel), List.mem_of_getElem? (i := 867) (by decide +kernel), List.mem_of_getElem? (i := 868) (by decide +kernel)⟩
theorem lw_p43 : lw_okq (⟨"SkinTwistsModel", "meetAtOnce", "(IIII)Z"⟩, 28) := ⟨⟨by decide +kernel, by decide +kernel⟩, List.mem_of_getElem? (i := 692) (by decide +kernel), List.mem_of_getElem? (i := 871) (by decide +kernel), List.mem_of_getElem? (i := 872) (by decide +kernel)⟩
theorem lw_p44 : lw_okq (⟨"SkinTwistsModel", "farFrom", "(II)I"⟩, 28) := ⟨⟨by decide +kernel, by decide +kernel⟩, List.mem_of_getElem? (i := 692) (by decide +kernel), List.mem_of_getElem? (i := 875) (by decide +kernel), List.mem_of_getElem? (i := 876) (by decide +kernel)⟩
theorem lw_p45 : lw_okq (⟨"SkinTwistsModel", "meetAlong", "(II)Z"⟩, 28) := ⟨⟨by decide +kernel, by decide +kernel⟩, List.mem_of_getElem? (i := 692) (by decide +kernel), List.mem_of_getElem? (i := 882) (by decide +kernel), List.mem_of_getElem? (i := 883) (by decide +kernel)⟩
theorem lw_p46 : lw_okq (⟨"SkinTwistsModel", "goRound", "(III)Z"⟩, 28) := ⟨⟨by decide +kernel, by decide +kernel⟩, List.mem_of_getElem? (i := 692) (by decide +kernel), List.mem_of_getElem? (i := 886) (by decide +kernel), List.mem_of_getElem? (i := 887) (by decide +kernel)⟩
theorem lw_p47 : lw_okq (⟨"SkinTwistsModel", "isSimple", "(I)Z"⟩, 28) := ⟨⟨by decide +kernel, by decide +kernel⟩, List.mem_of_getElem? (i := 692) (by decide +kernel), List.mem_of_getElem? (i := 902) (by decide +kernel), List.mem_of_getElem? (i := 903) (by decide +kernel)⟩
def lw_privs_3 : List (MethodName × Nat) := [(⟨"SkinTwistsModel", "takeU", "(I)V"⟩, 28), (⟨"SkinTwistsModel", "takeV", "(I)V"⟩, 28), (⟨"SkinTwistsModel", "areOne", "()Z"⟩, 28), (⟨"SkinTwistsModel", "isTurned", "()Z"⟩, 28), (⟨"SkinTwistsModel", "ofU", "(I)I"⟩, 28), (⟨"SkinTwistsModel", "turnV", "()V"⟩, 28), (⟨"SkinTwistsModel", "isPower", "(I)Z"⟩, 28), (⟨"SkinTwistsModel", "meetingsOf", "(II)I"⟩, 28), (⟨"SkinTwistsModel", "meetings", "()I"⟩, 28), (⟨"SkinTwistsModel", "countMeetings", "(Z)I"⟩, 28), (⟨"SkinTwistsModel", "ofV", "(I)I"⟩, 28), (⟨"SkinTwistsModel", "meetAtOnce", "(IIII)Z"⟩, 28), (⟨"SkinTwistsModel", "farFrom", "(II)I"⟩, 28), (⟨"SkinTwistsModel", "meetAlong", "(II)Z"⟩, 28), (⟨"SkinTwistsModel", "goRound", "(III)Z"⟩, 28), (⟨"SkinTwistsModel", "isSimple", "(I)Z"⟩, 28)]
theorem lw_r3 : ∀ q ∈ lw_privs_3, lw_okq q := List.forall_mem_cons.mpr ⟨lw_p32, List.forall_mem_cons.mpr ⟨lw_p33, List.forall_mem_cons.mpr ⟨lw_p34, List.forall_mem_cons.mpr ⟨lw_p35, List.forall_mem_cons.mpr ⟨lw_p36, List.forall_mem_cons.mpr ⟨lw_p37, List.forall_mem_cons.mpr ⟨lw_p38, List.forall_mem_cons.mpr ⟨lw_p39, List.forall_mem_cons.mpr ⟨lw_p40, List.forall_mem_cons.mpr ⟨lw_p41, List.forall_mem_cons.mpr ⟨lw_p42, List.forall_mem_cons.mpr ⟨lw_p43, List.forall_mem_cons.mpr ⟨lw_p44, List.forall_mem_cons.mpr ⟨lw_p45, List.forall_mem_cons.mpr ⟨lw_p46, List.forall_mem_cons.mpr ⟨lw_p47, fun _ h => absurd h List.not_mem_nil⟩⟩⟩⟩⟩⟩⟩⟩⟩⟩⟩⟩⟩⟩⟩⟩
theorem lw_p48 : lw_okq (⟨"SkinTwistsModel", "noPlan", "(I)Z"⟩, 28) := ⟨⟨by decide +kernel, by decide +kernel⟩, List.mem_of_getElem? (i := 692) (by decide +kernel), List.mem_of_getElem? (i := 917) (by decide +kernel), List.mem_of_getElem? (i := 918) (by decide +kernel)⟩
theorem lw_p49 : lw_okq (⟨"SkinTwistsModel", "look", "()I"⟩, 28) := ⟨⟨by decide +kernel, by decide +kernel⟩, List.mem_of_getElem? (i := 692) (by decide +kernel), List.mem_of_getElem? (i := 922) (by decide +kernel), List.mem_of_getElem? (i := 923) (by decide +kernel)⟩
theorem lw_p50 : lw_okq (⟨"SkinTwistsModel", "readItem", "(I)V"⟩, 28) := ⟨⟨by decide +kernel, by decide +kernel⟩, List.mem_of_getElem? (i := 692) (by decide +kernel), List.mem_of_getElem? (i := 926) (by decide +kernel), List.mem_of_getElem? (i := 927) (by decide +kernel)⟩
theorem lw_p51 : lw_okq (⟨"SkinTwistsModel", "readTwist", "(I)V"⟩, 28) := ⟨⟨by decide +kernel, by decide +kernel⟩, List.mem_of_getElem? (i := 692) (by decide +kernel), List.mem_of_getElem? (i := 930) (by decide +kernel), List.mem_of_getElem? (i := 931) (by decide +kernel)⟩
theorem lw_p52 : lw_okq (⟨"SkinTwistsModel", "takeFigure", "(II)I"⟩, 28) := ⟨⟨by decide +kernel, by decide +kernel⟩, List.mem_of_getElem? (i := 692) (by decide +kernel), List.mem_of_getElem? (i := 934) (by decide +kernel), List.mem_of_getElem? (i := 935) (by decide +kernel)⟩
theorem lw_p53 : lw_okq (⟨"SkinTwistsModel", "want", "(ZII)Z"⟩, 28) := ⟨⟨by decide +kernel, by decide +kernel⟩, List.mem_of_getElem? (i := 692) (by decide +kernel), List.mem_of_getElem? (i := 940) (by decide +kernel), List.mem_of_getElem? (i := 941) (by decide +kernel)⟩
theorem lw_p54 : lw_okq (⟨"SkinTwistsModel", "closeBracket", "()V"⟩, 28) := ⟨⟨by decide +kernel, by decide +kernel⟩, List.mem_of_getElem? (i := 692) (by decide +kernel), List.mem_of_getElem? (i := 944) (by decide +kernel), List.mem_of_getElem? (i := 945) (by decide +kernel)⟩
theorem lw_p55 : lw_okq (⟨"SkinTwistsModel", "takeLetter", "(I)V"⟩, 28) := ⟨⟨by decide +kernel, by decide +kernel⟩, List.mem_of_getElem? (i := 692) (by decide +kernel), List.mem_of_getElem? (i := 968) (by decide +kernel), List.mem_of_getElem? (i := 969) (by decide +kernel)⟩
theorem lw_p56 : lw_okq (⟨"SkinTwistsModel", "imageRow", "(I)Z"⟩, 28) := ⟨⟨by decide +kernel, by decide +kernel⟩, List.mem_of_getElem? (i := 692) (by decide +kernel), List.mem_of_getElem? (i := 972) (by decide +kernel), List.mem_of_getElem? (i := 973) (by decide +kernel)⟩
theorem lw_p57 : lw_okq (⟨"SkinTwistsModel", "twistRow", "(I)Z"⟩, 28) := ⟨⟨by decide +kernel, by decide +kernel⟩, List.mem_of_getElem? (i := 692) (by decide +kernel), List.mem_of_getElem? (i := 976) (by decide +kernel), List.mem_of_getElem? (i := 977) (by decide +kernel)⟩
theorem lw_p58 : lw_okq (⟨"SkinTwistsModel", "putImage", "(IZIZ)V"⟩, 28) := ⟨⟨by decide +kernel, by decide +kernel⟩, List.mem_of_getElem? (i := 692) (by decide +kernel), List.mem_of_getElem? (i := 980) (by decide +kernel), List.mem_of_getElem? (i := 981) (by decide +kernel)⟩
theorem lw_p59 : lw_okq (⟨"SkinTwistsModel", "put", "(I)V"⟩, 28) := ⟨⟨by decide +kernel, by decide +kernel⟩, List.mem_of_getElem? (i := 692) (by decide +kernel), List.mem_of_getElem? (i := 984) (by decide +kernel), List.mem_of_getElem? (i := 985) (by decide +kernel)⟩
theorem lw_p60 : lw_okq (⟨"SkinTwistsModel", "putC", "(IZ)V"⟩, 28) := ⟨⟨by decide +kernel, by decide +kernel⟩, List.mem_of_getElem? (i := 692) (by decide +kernel), List.mem_of_getElem? (i := 988) (by decide +kernel), List.mem_of_getElem? (i := 989) (by decide +kernel)⟩
theorem lw_p61 : lw_okq (⟨"SkinTwistsModel", "takeRing", "(I)V"⟩, 28) := ⟨⟨by decide +kernel, by decide +kernel⟩, List.mem_of_getElem? (i := 692) (by decide +kernel), List.mem_of_getElem? (i := 996) (by decide +kernel), List.mem_of_getElem? (i := 997) (by decide +kernel)⟩
theorem lw_p62 : lw_okq (⟨"SkinTwistsModel", "closeToU", "()V"⟩, 28) := ⟨⟨by decide +kernel, by decide +kernel⟩, List.mem_of_getElem? (i := 692) (by decide +kernel), List.mem_of_getElem? (i := 1000) (by decide +kernel), List.mem_of_getElem? (i := 1001) (by decide +kernel)⟩
theorem lw_p63 : lw_okq (⟨"SkinTwistsModel", "findImages", "(I)Z"⟩, 28) := ⟨⟨by decide +kernel, by decide +kernel⟩, List.mem_of_getElem? (i := 692) (by decide +kernel), List.mem_of_getElem? (i := 1012) (by decide +kernel), List.mem_of_getElem? (i := 1013) (by decide +kernel)⟩
def lw_privs_4 : List (MethodName × Nat) := [(⟨"SkinTwistsModel", "noPlan", "(I)Z"⟩, 28), (⟨"SkinTwistsModel", "look", "()I"⟩, 28), (⟨"SkinTwistsModel", "readItem", "(I)V"⟩, 28), (⟨"SkinTwistsModel", "readTwist", "(I)V"⟩, 28), (⟨"SkinTwistsModel", "takeFigure", "(II)I"⟩, 28), (⟨"SkinTwistsModel", "want", "(ZII)Z"⟩, 28), (⟨"SkinTwistsModel", "closeBracket", "()V"⟩, 28), (⟨"SkinTwistsModel", "takeLetter", "(I)V"⟩, 28), (⟨"SkinTwistsModel", "imageRow", "(I)Z"⟩, 28), (⟨"SkinTwistsModel", "twistRow", "(I)Z"⟩, 28), (⟨"SkinTwistsModel", "putImage", "(IZIZ)V"⟩, 28), (⟨"SkinTwistsModel", "put", "(I)V"⟩, 28), (⟨"SkinTwistsModel", "putC", "(IZ)V"⟩, 28), (⟨"SkinTwistsModel", "takeRing", "(I)V"⟩, 28), (⟨"SkinTwistsModel", "closeToU", "()V"⟩, 28), (⟨"SkinTwistsModel", "findImages", "(I)Z"⟩, 28)]
theorem lw_r4 : ∀ q ∈ lw_privs_4, lw_okq q := List.forall_mem_cons.mpr ⟨lw_p48, List.forall_mem_cons.mpr ⟨lw_p49, List.forall_mem_cons.mpr ⟨lw_p50, List.forall_mem_cons.mpr ⟨lw_p51, List.forall_mem_cons.mpr ⟨lw_p52, List.forall_mem_cons.mpr ⟨lw_p53, List.forall_mem_cons.mpr ⟨lw_p54, List.forall_mem_cons.mpr ⟨lw_p55, List.forall_mem_cons.mpr ⟨lw_p56, List.forall_mem_cons.mpr ⟨lw_p57, List.forall_mem_cons.mpr ⟨lw_p58, List.forall_mem_cons.mpr ⟨lw_p59, List.forall_mem_cons.mpr ⟨lw_p60, List.forall_mem_cons.mpr ⟨lw_p61, List.forall_mem_cons.mpr ⟨lw_p62, List.forall_mem_cons.mpr ⟨lw_p63, fun _ h => absurd h List.not_mem_nil⟩⟩⟩⟩⟩⟩⟩⟩⟩⟩⟩⟩⟩⟩⟩⟩
theorem lw_p64 : lw_okq (⟨"SkinTwistsModel", "startImages", "()V"⟩, 28) := ⟨⟨by decide +kernel, by decide +kernel⟩, List.mem_of_getElem? (i := 692) (by decide +kernel), List.mem_of_getElem? (i := 1016) (by decide +kernel), List.mem_of_getElem? (i := 1017) (by decide +kernel)⟩
theorem lw_p65 : lw_okq (⟨"SkinTwistsModel", "goOn", "(I)Z"⟩, 28) := ⟨⟨by decide +kernel, by decide +kernel⟩, List.mem_of_getElem? (i := 692) (by decide +kernel), List.mem_of_getElem? (i := 1020) (by decide +kernel), List.mem_of_getElem? (i := 1021) (by decide +kernel)⟩
theorem lw_p66 : lw_okq (⟨"SkinTwistsModel", "isImage", "(I)Z"⟩, 28) := ⟨⟨by decide +kernel, by decide +kernel⟩, List.mem_of_getElem? (i := 692) (by decide +kernel), List.mem_of_getElem? (i := 1024) (by decide +kernel), List.mem_of_getElem? (i := 1025) (by decide +kernel)⟩
theorem lw_p67 : lw_okq (⟨"SkinTwistsModel", "findTurns", "()I"⟩, 28) := ⟨⟨by decide +kernel, by decide +kernel⟩, List.mem_of_getElem? (i := 692) (by decide +kernel), List.mem_of_getElem? (i := 1032) (by decide +kernel), List.mem_of_getElem? (i := 1033) (by decide +kernel)⟩
theorem lw_p68 : lw_okq (⟨"SkinTwistsModel", "isTurns", "(I)Z"⟩, 28) := ⟨⟨by decide +kernel, by decide +kernel⟩, List.mem_of_getElem? (i := 692) (by decide +kernel), List.mem_of_getElem? (i := 1036) (by decide +kernel), List.mem_of_getElem? (i := 1037) (by decide +kernel)⟩
theorem lw_p69 : lw_okq (⟨"SkinTwistsModel", "putRim", "(Z)V"⟩, 28) := ⟨⟨by decide +kernel, by decide +kernel⟩, List.mem_of_getElem? (i := 692) (by decide +kernel), List.mem_of_getElem? (i := 1040) (by decide +kernel), List.mem_of_getElem? (i := 1041) (by decide +kernel)⟩
theorem lw_p70 : lw_okq (⟨"SkinTwistsModel", "findOrder", "(II)I"⟩, 28) := ⟨⟨by decide +kernel, by decide +kernel⟩, List.mem_of_getElem? (i := 692) (by decide +kernel), List.mem_of_getElem? (i := 1049) (by decide +kernel), List.mem_of_getElem? (i := 1050) (by decide +kernel)⟩
theorem lw_p71 : lw_okq (⟨"SkinTwistsModel", "tableOf", "(II)I"⟩, 28) := ⟨⟨by decide +kernel, by decide +kernel⟩, List.mem_of_getElem? (i := 692) (by decide +kernel), List.mem_of_getElem? (i := 1057) (by decide +kernel), List.mem_of_getElem? (i := 1058) (by decide +kernel)⟩
theorem lw_p72 : lw_okq (⟨"SkinTwistsModel", "determinant", "(I)J"⟩, 28) := ⟨⟨by decide +kernel, by decide +kernel⟩, List.mem_of_getElem? (i := 692) (by decide +kernel), List.mem_of_getElem? (i := 1071) (by decide +kernel), List.mem_of_getElem? (i := 1072) (by decide +kernel)⟩
theorem lw_p73 : lw_okq (⟨"SkinTwistsModel", "lengthNow", "()I"⟩, 28) := ⟨⟨by decide +kernel, by decide +kernel⟩, List.mem_of_getElem? (i := 692) (by decide +kernel), List.mem_of_getElem? (i := 1080) (by decide +kernel), List.mem_of_getElem? (i := 1081) (by decide +kernel)⟩
theorem lw_p74 : lw_okq (⟨"SkinTwistsModel", "comesBack", "(III)Z"⟩, 28) := ⟨⟨by decide +kernel, by decide +kernel⟩, List.mem_of_getElem? (i := 692) (by decide +kernel), List.mem_of_getElem? (i := 1089) (by decide +kernel), List.mem_of_getElem? (i := 1090) (by decide +kernel)⟩
theorem lw_p75 : lw_okq (⟨"SkinTwistsModel", "twists", "()I"⟩, 28) := ⟨⟨by decide +kernel, by decide +kernel⟩, List.mem_of_getElem? (i := 692) (by decide +kernel), List.mem_of_getElem? (i := 1097) (by decide +kernel), List.mem_of_getElem? (i := 1098) (by decide +kernel)⟩
theorem lw_p76 : lw_okq (⟨"SkinTwistsModel", "draftPlan", "(III)V"⟩, 28) := ⟨⟨by decide +kernel, by decide +kernel⟩, List.mem_of_getElem? (i := 692) (by decide +kernel), List.mem_of_getElem? (i := 1101) (by decide +kernel), List.mem_of_getElem? (i := 1102) (by decide +kernel)⟩
theorem lw_p77 : lw_okq (⟨"SkinTwistsModel", "isDraftLike", "()Z"⟩, 28) := ⟨⟨by decide +kernel, by decide +kernel⟩, List.mem_of_getElem? (i := 692) (by decide +kernel), List.mem_of_getElem? (i := 1105) (by decide +kernel), List.mem_of_getElem? (i := 1106) (by decide +kernel)⟩
theorem lw_p78 : lw_okq (⟨"SkinTwistsModel", "power", "(I)I"⟩, 28) := ⟨⟨by decide +kernel, by decide +kernel⟩, List.mem_of_getElem? (i := 692) (by decide +kernel), List.mem_of_getElem? (i := 1114) (by decide +kernel), List.mem_of_getElem? (i := 1115) (by decide +kernel)⟩
theorem lw_p79 : lw_okq (⟨"SkinTwistsModel", "numberPlan", "(II)V"⟩, 28) := ⟨⟨by decide +kernel, by decide +kernel⟩, List.mem_of_getElem? (i := 692) (by decide +kernel), List.mem_of_getElem? (i := 1118) (by decide +kernel), List.mem_of_getElem? (i := 1119) (by decide +kernel)⟩
def lw_privs_5 : List (MethodName × Nat) := [(⟨"SkinTwistsModel", "startImages", "()V"⟩, 28), (⟨"SkinTwistsModel", "goOn", "(I)Z"⟩, 28), (⟨"SkinTwistsModel", "isImage", "(I)Z"⟩, 28), (⟨"SkinTwistsModel", "findTurns", "()I"⟩, 28), (⟨"SkinTwistsModel", "isTurns", "(I)Z"⟩, 28), (⟨"SkinTwistsModel", "putRim", "(Z)V"⟩, 28), (⟨"SkinTwistsModel", "findOrder", "(II)I"⟩, 28), (⟨"SkinTwistsModel", "tableOf", "(II)I"⟩, 28), (⟨"SkinTwistsModel", "determinant", "(I)J"⟩, 28), (⟨"SkinTwistsModel", "lengthNow", "()I"⟩, 28), (⟨"SkinTwistsModel", "comesBack", "(III)Z"⟩, 28), (⟨"SkinTwistsModel", "twists", "()I"⟩, 28), (⟨"SkinTwistsModel", "draftPlan", "(III)V"⟩, 28), (⟨"SkinTwistsModel", "isDraftLike", "()Z"⟩, 28), (⟨"SkinTwistsModel", "power", "(I)I"⟩, 28), (⟨"SkinTwistsModel", "numberPlan", "(II)V"⟩, 28)]
theorem lw_r5 : ∀ q ∈ lw_privs_5, lw_okq q := List.forall_mem_cons.mpr ⟨lw_p64, List.forall_mem_cons.mpr ⟨lw_p65, List.forall_mem_cons.mpr ⟨lw_p66, List.forall_mem_cons.mpr ⟨lw_p67, List.forall_mem_cons.mpr ⟨lw_p68, List.forall_mem_cons.mpr ⟨lw_p69, List.forall_mem_cons.mpr ⟨lw_p70, List.forall_mem_cons.mpr ⟨lw_p71, List.forall_mem_cons.mpr ⟨lw_p72, List.forall_mem_cons.mpr ⟨lw_p73, List.forall_mem_cons.mpr ⟨lw_p74, List.forall_mem_cons.mpr ⟨lw_p75, List.forall_mem_cons.mpr ⟨lw_p76, List.forall_mem_cons.mpr ⟨lw_p77, List.forall_mem_cons.mpr ⟨lw_p78, List.forall_mem_cons.mpr ⟨lw_p79, fun _ h => absurd h List.not_mem_nil⟩⟩⟩⟩⟩⟩⟩⟩⟩⟩⟩⟩⟩⟩⟩⟩
theorem lw_p80 : lw_okq (⟨"SkinTwistsModel", "carries", "(II)Z"⟩, 28) := ⟨⟨by decide +kernel, by decide +kernel⟩, List.mem_of_getElem? (i := 692) (by decide +kernel), List.mem_of_getElem? (i := 1122) (by decide +kernel), List.mem_of_getElem? (i := 1123) (by decide +kernel)⟩
def lw_privs_6 : List (MethodName × Nat) := [(⟨"SkinTwistsModel", "carries", "(II)Z"⟩, 28)]
theorem lw_r6 : ∀ q ∈ lw_privs_6, lw_okq q := List.forall_mem_cons.mpr ⟨lw_p80, fun _ h => absurd h List.not_mem_nil⟩
def lw_privs : List (MethodName × Nat) := lw_privs_1 ++ (lw_privs_2 ++ (lw_privs_3 ++ (lw_privs_4 ++ (lw_privs_5 ++ (lw_privs_6)))))
def lw_tbl : List Cond := k2_sels lw_privs ++ tables_1
theorem lw_privs_ok : ∀ q ∈ lw_privs, lw_okq q := by
  show ∀ q ∈ lw_privs_1 ++ (lw_privs_2 ++ (lw_privs_3 ++ (lw_privs_4 ++ (lw_privs_5 ++ (lw_privs_6))))), lw_okq q
  exact List.forall_mem_append.mpr ⟨lw_r1, List.forall_mem_append.mpr ⟨lw_r2, List.forall_mem_append.mpr ⟨lw_r3, List.forall_mem_append.mpr ⟨lw_r4, List.forall_mem_append.mpr ⟨lw_r5, lw_r6⟩⟩⟩⟩⟩
end
section
def RX0 : String := "SkinTwists$Images"
def TX0 : u_T := fun k => match k with
  | 0 => ("SkinTwists$Images", "rows", "[LSkinTwists$Row;", true)
  | 1 => ("SkinTwists$Images", "letters", "I", false)
  | 2 => ("SkinTwists$Images", "sums", "[I", true)
  | _ => ("SkinTwists$Images", "twister", "LSkinTwists$Twister;", true)
def tyX0 : Nat → FieldType := fun k => match k with
  | 0 => .array (.object "SkinTwists$Row")
  | 1 => .int
  | 2 => .array .int
  | _ => .object "SkinTwists$Twister"
theorem nmX0 : ∀ a, a < 4 → ∀ b, b < 4 → a ≠ b → (TX0 a).2.1 ≠ (TX0 b).2.1 := by decide +kernel
theorem tyX0_ok : ∀ k, k < 4 → parseFieldDescriptor (TX0 k).2.2.1 = some (tyX0 k) := by decide +kernel
abbrev cX0_init : ByteArray := prog_2_method_1_code
def yX0_init : MethodName := ⟨RX0, "<init>", "(LSkinTwists$Twister;)V"⟩
abbrev cX0_begin : ByteArray := prog_2_method_2_code
def yX0_begin : MethodName := ⟨RX0, "begin", "(I)V"⟩
abbrev cX0_doPlan : ByteArray := prog_2_method_3_code
def yX0_doPlan : MethodName := ⟨RX0, "doPlan", "(LSkinTwists$Plan;)Z"⟩
abbrev cX0_lettersTogether : ByteArray := prog_2_method_4_code
def yX0_lettersTogether : MethodName := ⟨RX0, "lettersTogether", "()I"⟩
abbrev cX0_fullTurns : ByteArray := prog_2_method_5_code
def yX0_fullTurns : MethodName := ⟨RX0, "fullTurns", "(LSkinTwists$Row;)I"⟩
abbrev cX0_areTurns : ByteArray := prog_2_method_6_code
def yX0_areTurns : MethodName := ⟨RX0, "areTurns", "(ILSkinTwists$Row;)Z"⟩
abbrev cX0_pushRim : ByteArray := prog_2_method_7_code
def yX0_pushRim : MethodName := ⟨RX0, "pushRim", "(ILSkinTwists$Row;)V"⟩
abbrev cX0_rimLetter : ByteArray := prog_2_method_8_code
def yX0_rimLetter : MethodName := ⟨RX0, "rimLetter", "(I)I"⟩
abbrev cX0_cornerSum : ByteArray := prog_2_method_9_code
def yX0_cornerSum : MethodName := ⟨RX0, "cornerSum", "(I)J"⟩
abbrev cX0_corner : ByteArray := prog_2_method_10_code
def yX0_corner : MethodName := ⟨RX0, "corner", "([IIII)J"⟩
def RX1 : String := "SkinTwists$Meetings"
def TX1 : u_T := fun k => match k with
  | _ => ("SkinTwists$Meetings", "back", "LSkinTwists$Row;", true)
def tyX1 : Nat → FieldType := fun k => match k with
  | _ => .object "SkinTwists$Row"
theorem nmX1 : ∀ a, a < 1 → ∀ b, b < 1 → a ≠ b → (TX1 a).2.1 ≠ (TX1 b).2.1 := by decide +kernel
theorem tyX1_ok : ∀ k, k < 1 → parseFieldDescriptor (TX1 k).2.2.1 = some (tyX1 k) := by decide +kernel
abbrev cX1_init : ByteArray := prog_3_method_1_code
def yX1_init : MethodName := ⟨RX1, "<init>", "()V"⟩
abbrev cX1_between : ByteArray := prog_3_method_2_code
def yX1_between : MethodName := ⟨RX1, "between", "(LSkinTwists$Row;LSkinTwists$Row;)I"⟩
abbrev cX1_crossings : ByteArray := prog_3_method_3_code
def yX1_crossings : MethodName := ⟨RX1, "crossings", "(LSkinTwists$Row;LSkinTwists$Row;Z)I"⟩
abbrev cX1_cross : ByteArray := prog_3_method_4_code
def yX1_cross : MethodName := ⟨RX1, "cross", "(IIII)Z"⟩
abbrev cX1_changeSides : ByteArray := prog_3_method_5_code
def yX1_changeSides : MethodName := ⟨RX1, "changeSides", "(LSkinTwists$Row;ILSkinTwists$Row;I)Z"⟩
abbrev cX1_goRound : ByteArray := prog_3_method_6_code
def yX1_goRound : MethodName := ⟨RX1, "goRound", "(III)Z"⟩
abbrev cX1_stepsRound : ByteArray := prog_3_method_7_code
def yX1_stepsRound : MethodName := ⟨RX1, "stepsRound", "(II)I"⟩
def RX2 : String := "SkinTwists$Plan"
def TX2 : u_T := fun k => match k with
  | 0 => ("SkinTwists$Plan", "codes", "[I", true)
  | _ => ("SkinTwists$Plan", "size", "I", false)
def tyX2 : Nat → FieldType := fun k => match k with
  | 0 => .array .int
  | _ => .int
theorem nmX2 : ∀ a, a < 2 → ∀ b, b < 2 → a ≠ b → (TX2 a).2.1 ≠ (TX2 b).2.1 := by decide +kernel
theorem tyX2_ok : ∀ k, k < 2 → parseFieldDescriptor (TX2 k).2.2.1 = some (tyX2 k) := by decide +kernel
abbrev cX2_init : ByteArray := prog_4_method_1_code
def yX2_init : MethodName := ⟨RX2, "<init>", "()V"⟩
abbrev cX2_add : ByteArray := prog_4_method_2_code
def yX2_add : MethodName := ⟨RX2, "add", "(I)V"⟩
abbrev cX2_addAll : ByteArray := prog_4_method_3_code
def yX2_addAll : MethodName := ⟨RX2, "addAll", "(LSkinTwists$Plan;)V"⟩
abbrev cX2_copy : ByteArray := prog_4_method_4_code
def yX2_copy : MethodName := ⟨RX2, "copy", "(LSkinTwists$Plan;)V"⟩
abbrev cX2_becomeReversed : ByteArray := prog_4_method_5_code
def yX2_becomeReversed : MethodName := ⟨RX2, "becomeReversed", "(LSkinTwists$Plan;)V"⟩
abbrev cX2_codeOrSize : ByteArray := prog_4_method_6_code
def yX2_codeOrSize : MethodName := ⟨RX2, "codeOrSize", "(I)I"⟩
def RX3 : String := "SkinTwists$Ring"
def TX3 : u_T := fun k => match k with
  | 0 => ("SkinTwists$Ring", "row", "LSkinTwists$Row;", true)
  | 1 => ("SkinTwists$Ring", "power", "Z", false)
  | _ => ("SkinTwists$Ring", "self", "I", false)
def tyX3 : Nat → FieldType := fun k => match k with
  | 0 => .object "SkinTwists$Row"
  | 1 => .boolean
  | _ => .int
theorem nmX3 : ∀ a, a < 3 → ∀ b, b < 3 → a ≠ b → (TX3 a).2.1 ≠ (TX3 b).2.1 := by decide +kernel
theorem tyX3_ok : ∀ k, k < 3 → parseFieldDescriptor (TX3 k).2.2.1 = some (tyX3 k) := by decide +kernel
abbrev cX3_init : ByteArray := prog_5_method_1_code
def yX3_init : MethodName := ⟨RX3, "<init>", "()V"⟩
abbrev cX3_become : ByteArray := prog_5_method_2_code
def yX3_become : MethodName := ⟨RX3, "become", "(LSkinTwists$Row;LSkinTwists$Meetings;)V"⟩
abbrev cX3_isSimple : ByteArray := prog_5_method_3_code
def yX3_isSimple : MethodName := ⟨RX3, "isSimple", "()Z"⟩
def RX4 : String := "SkinTwists$Row"
def TX4 : u_T := fun k => match k with
  | 0 => ("SkinTwists$Row", "cells", "[I", true)
  | _ => ("SkinTwists$Row", "size", "I", false)
def tyX4 : Nat → FieldType := fun k => match k with
  | 0 => .array .int
  | _ => .int
theorem nmX4 : ∀ a, a < 2 → ∀ b, b < 2 → a ≠ b → (TX4 a).2.1 ≠ (TX4 b).2.1 := by decide +kernel
theorem tyX4_ok : ∀ k, k < 2 → parseFieldDescriptor (TX4 k).2.2.1 = some (tyX4 k) := by decide +kernel
abbrev cX4_init : ByteArray := prog_6_method_1_code
def yX4_init : MethodName := ⟨RX4, "<init>", "(I)V"⟩
abbrev cX4_push : ByteArray := prog_6_method_2_code
def yX4_push : MethodName := ⟨RX4, "push", "(I)V"⟩
abbrev cX4_becomeLetter : ByteArray := prog_6_method_3_code
def yX4_becomeLetter : MethodName := ⟨RX4, "becomeLetter", "(I)V"⟩
abbrev cX4_copy : ByteArray := prog_6_method_4_code
def yX4_copy : MethodName := ⟨RX4, "copy", "(LSkinTwists$Row;)V"⟩
abbrev cX4_becomeBack : ByteArray := prog_6_method_5_code
def yX4_becomeBack : MethodName := ⟨RX4, "becomeBack", "(LSkinTwists$Row;)V"⟩
abbrev cX4_looseEnds : ByteArray := prog_6_method_6_code
def yX4_looseEnds : MethodName := ⟨RX4, "looseEnds", "()I"⟩
abbrev cX4_closedSize : ByteArray := prog_6_method_7_code
def yX4_closedSize : MethodName := ⟨RX4, "closedSize", "()I"⟩
abbrev cX4_close : ByteArray := prog_6_method_8_code
def yX4_close : MethodName := ⟨RX4, "close", "()V"⟩
abbrev cX4_isLike : ByteArray := prog_6_method_9_code
def yX4_isLike : MethodName := ⟨RX4, "isLike", "(LSkinTwists$Row;)Z"⟩
abbrev cX4_isOneWith : ByteArray := prog_6_method_10_code
def yX4_isOneWith : MethodName := ⟨RX4, "isOneWith", "(LSkinTwists$Row;)Z"⟩
abbrev cX4_runsAlong : ByteArray := prog_6_method_11_code
def yX4_runsAlong : MethodName := ⟨RX4, "runsAlong", "(ILSkinTwists$Row;I)Z"⟩
abbrev cX4_runsAgainst : ByteArray := prog_6_method_12_code
def yX4_runsAgainst : MethodName := ⟨RX4, "runsAgainst", "(ILSkinTwists$Row;I)Z"⟩
abbrev cX4_isPower : ByteArray := prog_6_method_13_code
def yX4_isPower : MethodName := ⟨RX4, "isPower", "()Z"⟩
abbrev cX4_repeats : ByteArray := prog_6_method_14_code
def yX4_repeats : MethodName := ⟨RX4, "repeats", "(I)Z"⟩
abbrev cX4_balanceOf : ByteArray := prog_6_method_15_code
def yX4_balanceOf : MethodName := ⟨RX4, "balanceOf", "(I)I"⟩
def RX5 : String := "SkinTwists$Search"
def TX5 : u_T := fun k => match k with
  | 0 => ("SkinTwists$Search", "twister", "LSkinTwists$Twister;", true)
  | 1 => ("SkinTwists$Search", "images", "LSkinTwists$Images;", true)
  | 2 => ("SkinTwists$Search", "steps", "[LSkinTwists$Row;", true)
  | 3 => ("SkinTwists$Search", "sizesAhead", "[I", true)
  | 4 => ("SkinTwists$Search", "goal", "LSkinTwists$Row;", true)
  | _ => ("SkinTwists$Search", "best", "I", false)
def tyX5 : Nat → FieldType := fun k => match k with
  | 0 => .object "SkinTwists$Twister"
  | 1 => .object "SkinTwists$Images"
  | 2 => .array (.object "SkinTwists$Row")
  | 3 => .array .int
  | 4 => .object "SkinTwists$Row"
  | _ => .int
theorem nmX5 : ∀ a, a < 6 → ∀ b, b < 6 → a ≠ b → (TX5 a).2.1 ≠ (TX5 b).2.1 := by decide +kernel
theorem tyX5_ok : ∀ k, k < 6 → parseFieldDescriptor (TX5 k).2.2.1 = some (tyX5 k) := by decide +kernel
abbrev cX5_init : ByteArray := prog_7_method_1_code
def yX5_init : MethodName := ⟨RX5, "<init>", "(LSkinTwists$Twister;LSkinTwists$Images;)V"⟩
abbrev cX5_forCarrying : ByteArray := prog_7_method_2_code
def yX5_forCarrying : MethodName := ⟨RX5, "forCarrying", "(LSkinTwists$Row;LSkinTwists$Row;ILSkinTwists$Plan;)Z"⟩
abbrev cX5_measureAhead : ByteArray := prog_7_method_3_code
def yX5_measureAhead : MethodName := ⟨RX5, "measureAhead", "()V"⟩
abbrev cX5_tryTwists : ByteArray := prog_7_method_4_code
def yX5_tryTwists : MethodName := ⟨RX5, "tryTwists", "(IIII)V"⟩
abbrev cX5_spell : ByteArray := prog_7_method_5_code
def yX5_spell : MethodName := ⟨RX5, "spell", "(IILSkinTwists$Plan;)V"⟩
abbrev cX5_forImages : ByteArray := prog_7_method_6_code
def yX5_forImages : MethodName := ⟨RX5, "forImages", "(ILSkinTwists$Plan;)Z"⟩
abbrev cX5_doesAsImages : ByteArray := prog_7_method_7_code
def yX5_doesAsImages : MethodName := ⟨RX5, "doesAsImages", "(LSkinTwists$Plan;)Z"⟩
def RX6 : String := "SkinTwists$TextReader"
def TX6 : u_T := fun k => match k with
  | 0 => ("SkinTwists$TextReader", "size", "I", false)
  | 1 => ("SkinTwists$TextReader", "faultByte", "I", false)
  | 2 => ("SkinTwists$TextReader", "plan", "LSkinTwists$Plan;", true)
  | 3 => ("SkinTwists$TextReader", "text", "[I", true)
  | 4 => ("SkinTwists$TextReader", "opened", "[I", true)
  | 5 => ("SkinTwists$TextReader", "handles", "I", false)
  | 6 => ("SkinTwists$TextReader", "open", "I", false)
  | 7 => ("SkinTwists$TextReader", "state", "I", false)
  | 8 => ("SkinTwists$TextReader", "kind", "I", false)
  | _ => ("SkinTwists$TextReader", "kindByte", "I", false)
def tyX6 : Nat → FieldType := fun k => match k with
  | 0 => .int
  | 1 => .int
  | 2 => .object "SkinTwists$Plan"
  | 3 => .array .int
  | 4 => .array .int
  | 5 => .int
  | 6 => .int
  | 7 => .int
  | 8 => .int
  | _ => .int
theorem nmX6 : ∀ a, a < 10 → ∀ b, b < 10 → a ≠ b → (TX6 a).2.1 ≠ (TX6 b).2.1 := by decide +kernel
theorem tyX6_ok : ∀ k, k < 10 → parseFieldDescriptor (TX6 k).2.2.1 = some (tyX6 k) := by decide +kernel
abbrev cX6_init : ByteArray := prog_8_method_1_code
def yX6_init : MethodName := ⟨RX6, "<init>", "()V"⟩
abbrev cX6_add : ByteArray := prog_8_method_2_code
def yX6_add : MethodName := ⟨RX6, "add", "(I)V"⟩
abbrev cX6_understand : ByteArray := prog_8_method_3_code
def yX6_understand : MethodName := ⟨RX6, "understand", "(I)I"⟩
abbrev cX6_take : ByteArray := prog_8_method_4_code
def yX6_take : MethodName := ⟨RX6, "take", "(II)I"⟩
abbrev cX6_isFigure : ByteArray := prog_8_method_5_code
def yX6_isFigure : MethodName := ⟨RX6, "isFigure", "(I)Z"⟩
abbrev cX6_takeHandle : ByteArray := prog_8_method_6_code
def yX6_takeHandle : MethodName := ⟨RX6, "takeHandle", "(I)I"⟩
abbrev cX6_takeTimes : ByteArray := prog_8_method_7_code
def yX6_takeTimes : MethodName := ⟨RX6, "takeTimes", "(I)I"⟩
abbrev cX6_takeItem : ByteArray := prog_8_method_8_code
def yX6_takeItem : MethodName := ⟨RX6, "takeItem", "(II)I"⟩
def RX7 : String := "SkinTwists$Twister"
def TX7 : u_T := fun k => match k with
  | 0 => ("SkinTwists$Twister", "twists", "I", false)
  | 1 => ("SkinTwists$Twister", "words", "[I", true)
  | 2 => ("SkinTwists$Twister", "wide", "[I", true)
  | 3 => ("SkinTwists$Twister", "word", "LSkinTwists$Row;", true)
  | _ => ("SkinTwists$Twister", "wordBack", "LSkinTwists$Row;", true)
def tyX7 : Nat → FieldType := fun k => match k with
  | 0 => .int
  | 1 => .array .int
  | 2 => .array .int
  | 3 => .object "SkinTwists$Row"
  | _ => .object "SkinTwists$Row"
theorem nmX7 : ∀ a, a < 5 → ∀ b, b < 5 → a ≠ b → (TX7 a).2.1 ≠ (TX7 b).2.1 := by decide +kernel
theorem tyX7_ok : ∀ k, k < 5 → parseFieldDescriptor (TX7 k).2.2.1 = some (tyX7 k) := by decide +kernel
abbrev cX7_init : ByteArray := prog_9_method_1_code
def yX7_init : MethodName := ⟨RX7, "<init>", "()V"⟩
abbrev cX7_layOut : ByteArray := prog_9_method_2_code
def yX7_layOut : MethodName := ⟨RX7, "layOut", "(I)V"⟩
abbrev cX7_layWord : ByteArray := prog_9_method_3_code
def yX7_layWord : MethodName := ⟨RX7, "layWord", "(III)V"⟩
abbrev cX7_spellFirst : ByteArray := prog_9_method_4_code
def yX7_spellFirst : MethodName := ⟨RX7, "spellFirst", "(III)V"⟩
abbrev cX7_spellSecond : ByteArray := prog_9_method_5_code
def yX7_spellSecond : MethodName := ⟨RX7, "spellSecond", "(III)V"⟩
abbrev cX7_spellThird : ByteArray := prog_9_method_6_code
def yX7_spellThird : MethodName := ⟨RX7, "spellThird", "(III)V"⟩
abbrev cX7_spellBetween : ByteArray := prog_9_method_7_code
def yX7_spellBetween : MethodName := ⟨RX7, "spellBetween", "(II)V"⟩
abbrev cX7_slotOf : ByteArray := prog_9_method_8_code
def yX7_slotOf : MethodName := ⟨RX7, "slotOf", "(II)I"⟩
abbrev cX7_keepWord : ByteArray := prog_9_method_9_code
def yX7_keepWord : MethodName := ⟨RX7, "keepWord", "(IILSkinTwists$Row;)V"⟩
abbrev cX7_doTwist : ByteArray := prog_9_method_10_code
def yX7_doTwist : MethodName := ⟨RX7, "doTwist", "(ILSkinTwists$Row;)Z"⟩
abbrev cX7_doPlan : ByteArray := prog_9_method_11_code
def yX7_doPlan : MethodName := ⟨RX7, "doPlan", "(LSkinTwists$Plan;LSkinTwists$Row;)Z"⟩
def RX8 : String := "SkinTwists"
def TX8 : u_T := fun k => match k with
  | 0 => ("SkinTwists", "rings", "[LSkinTwists$Ring;", true)
  | 1 => ("SkinTwists", "plans", "[LSkinTwists$Plan;", true)
  | 2 => ("SkinTwists", "draft", "LSkinTwists$Row;", true)
  | 3 => ("SkinTwists", "twister", "LSkinTwists$Twister;", true)
  | 4 => ("SkinTwists", "meetings", "LSkinTwists$Meetings;", true)
  | 5 => ("SkinTwists", "images", "LSkinTwists$Images;", true)
  | 6 => ("SkinTwists", "search", "LSkinTwists$Search;", true)
  | 7 => ("SkinTwists", "reader", "LSkinTwists$TextReader;", true)
  | 8 => ("SkinTwists", "work", "LSkinTwists$Row;", true)
  | 9 => ("SkinTwists", "left", "LSkinTwists$Plan;", true)
  | 10 => ("SkinTwists", "right", "LSkinTwists$Plan;", true)
  | 11 => ("SkinTwists", "handles", "I", false)
  | _ => ("SkinTwists", "ringCount", "I", false)
def tyX8 : Nat → FieldType := fun k => match k with
  | 0 => .array (.object "SkinTwists$Ring")
  | 1 => .array (.object "SkinTwists$Plan")
  | 2 => .object "SkinTwists$Row"
  | 3 => .object "SkinTwists$Twister"
  | 4 => .object "SkinTwists$Meetings"
  | 5 => .object "SkinTwists$Images"
  | 6 => .object "SkinTwists$Search"
  | 7 => .object "SkinTwists$TextReader"
  | 8 => .object "SkinTwists$Row"
  | 9 => .object "SkinTwists$Plan"
  | 10 => .object "SkinTwists$Plan"
  | 11 => .int
  | _ => .int
theorem nmX8 : ∀ a, a < 13 → ∀ b, b < 13 → a ≠ b → (TX8 a).2.1 ≠ (TX8 b).2.1 := by decide +kernel
theorem tyX8_ok : ∀ k, k < 13 → parseFieldDescriptor (TX8 k).2.2.1 = some (tyX8 k) := by decide +kernel
abbrev cX8_init : ByteArray := prog_1_method_1_code
def yX8_init : MethodName := ⟨RX8, "<init>", "()V"⟩
abbrev cX8_skin : ByteArray := prog_1_method_2_code
def yX8_skin : MethodName := ⟨RX8, "skin", "(I)I"⟩
abbrev cX8_letter : ByteArray := prog_1_method_3_code
def yX8_letter : MethodName := ⟨RX8, "letter", "(I)I"⟩
abbrev cX8_ring : ByteArray := prog_1_method_4_code
def yX8_ring : MethodName := ⟨RX8, "ring", "()I"⟩
abbrev cX8_told : ByteArray := prog_1_method_5_code
def yX8_told : MethodName := ⟨RX8, "told", "(II)I"⟩
abbrev cX8_at : ByteArray := prog_1_method_6_code
def yX8_at : MethodName := ⟨RX8, "at", "(II)I"⟩
abbrev cX8_meets : ByteArray := prog_1_method_7_code
def yX8_meets : MethodName := ⟨RX8, "meets", "(II)I"⟩
abbrev cX8_one : ByteArray := prog_1_method_8_code
def yX8_one : MethodName := ⟨RX8, "one", "(II)I"⟩
abbrev cX8_heap : ByteArray := prog_1_method_9_code
def yX8_heap : MethodName := ⟨RX8, "heap", "(I)I"⟩
abbrev cX8_drop : ByteArray := prog_1_method_10_code
def yX8_drop : MethodName := ⟨RX8, "drop", "()I"⟩
abbrev cX8_count : ByteArray := prog_1_method_11_code
def yX8_count : MethodName := ⟨RX8, "count", "(I)I"⟩
abbrev cX8_feed : ByteArray := prog_1_method_12_code
def yX8_feed : MethodName := ⟨RX8, "feed", "(IJ)I"⟩
abbrev cX8_read : ByteArray := prog_1_method_13_code
def yX8_read : MethodName := ⟨RX8, "read", "(I)I"⟩
abbrev cX8_fault : ByteArray := prog_1_method_14_code
def yX8_fault : MethodName := ⟨RX8, "fault", "()I"⟩
abbrev cX8_twist : ByteArray := prog_1_method_15_code
def yX8_twist : MethodName := ⟨RX8, "twist", "(II)I"⟩
abbrev cX8_chain : ByteArray := prog_1_method_16_code
def yX8_chain : MethodName := ⟨RX8, "chain", "(III)I"⟩
abbrev cX8_turn : ByteArray := prog_1_method_17_code
def yX8_turn : MethodName := ⟨RX8, "turn", "(II)I"⟩
abbrev cX8_image : ByteArray := prog_1_method_18_code
def yX8_image : MethodName := ⟨RX8, "image", "(III)I"⟩
abbrev cX8_carried : ByteArray := prog_1_method_19_code
def yX8_carried : MethodName := ⟨RX8, "carried", "(III)I"⟩
abbrev cX8_meetsThen : ByteArray := prog_1_method_20_code
def yX8_meetsThen : MethodName := ⟨RX8, "meetsThen", "(III)I"⟩
abbrev cX8_same : ByteArray := prog_1_method_21_code
def yX8_same : MethodName := ⟨RX8, "same", "(II)I"⟩
abbrev cX8_turns : ByteArray := prog_1_method_22_code
def yX8_turns : MethodName := ⟨RX8, "turns", "(I)I"⟩
abbrev cX8_order : ByteArray := prog_1_method_23_code
def yX8_order : MethodName := ⟨RX8, "order", "(II)I"⟩
abbrev cX8_table : ByteArray := prog_1_method_24_code
def yX8_table : MethodName := ⟨RX8, "table", "(III)I"⟩
abbrev cX8_character : ByteArray := prog_1_method_25_code
def yX8_character : MethodName := ⟨RX8, "character", "(II)J"⟩
abbrev cX8_length : ByteArray := prog_1_method_26_code
def yX8_length : MethodName := ⟨RX8, "length", "(II)I"⟩
abbrev cX8_sort : ByteArray := prog_1_method_27_code
def yX8_sort : MethodName := ⟨RX8, "sort", "(II)I"⟩
abbrev cX8_law : ByteArray := prog_1_method_28_code
def yX8_law : MethodName := ⟨RX8, "law", "(II)I"⟩
abbrev cX8_carry : ByteArray := prog_1_method_29_code
def yX8_carry : MethodName := ⟨RX8, "carry", "(IIII)I"⟩
abbrev cX8_fewest : ByteArray := prog_1_method_30_code
def yX8_fewest : MethodName := ⟨RX8, "fewest", "(III)I"⟩
abbrev cX8_layOut : ByteArray := prog_1_method_31_code
def yX8_layOut : MethodName := ⟨RX8, "layOut", "(I)V"⟩
abbrev cX8_isRing : ByteArray := prog_1_method_32_code
def yX8_isRing : MethodName := ⟨RX8, "isRing", "(I)Z"⟩
abbrev cX8_isPlan : ByteArray := prog_1_method_33_code
def yX8_isPlan : MethodName := ⟨RX8, "isPlan", "(I)Z"⟩
abbrev cX8_isTwist : ByteArray := prog_1_method_34_code
def yX8_isTwist : MethodName := ⟨RX8, "isTwist", "(I)Z"⟩
abbrev cX8_isLetter : ByteArray := prog_1_method_35_code
def yX8_isLetter : MethodName := ⟨RX8, "isLetter", "(I)Z"⟩
abbrev cX8_isSearch : ByteArray := prog_1_method_36_code
def yX8_isSearch : MethodName := ⟨RX8, "isSearch", "(II)Z"⟩
abbrev cX8_oneIf : ByteArray := prog_1_method_37_code
def yX8_oneIf : MethodName := ⟨RX8, "oneIf", "(Z)I"⟩
abbrev cX8_firstBarring : ByteArray := prog_1_method_38_code
def yX8_firstBarring : MethodName := ⟨RX8, "firstBarring", "(II)I"⟩
abbrev cX8_carryToWork : ByteArray := prog_1_method_39_code
def yX8_carryToWork : MethodName := ⟨RX8, "carryToWork", "(II)Z"⟩
abbrev cX8_firstUnlike : ByteArray := prog_1_method_40_code
def yX8_firstUnlike : MethodName := ⟨RX8, "firstUnlike", "(LSkinTwists$Plan;LSkinTwists$Plan;)I"⟩
abbrev cX8_keepsSomeRing : ByteArray := prog_1_method_41_code
def yX8_keepsSomeRing : MethodName := ⟨RX8, "keepsSomeRing", "(LSkinTwists$Plan;I)Z"⟩
abbrev cX8_keepsRing : ByteArray := prog_1_method_42_code
def yX8_keepsRing : MethodName := ⟨RX8, "keepsRing", "(LSkinTwists$Plan;ILSkinTwists$Row;)Z"⟩
def RX9 : String := "SkinTwistsModel"
def TX9 : u_T := fun k => match k with
  | 0 => ("SkinTwistsModel", "g", "I", false)
  | 1 => ("SkinTwistsModel", "drafts", "I", false)
  | 2 => ("SkinTwistsModel", "draft", "[I", true)
  | 3 => ("SkinTwistsModel", "rings", "I", false)
  | 4 => ("SkinTwistsModel", "ringSize", "[I", true)
  | 5 => ("SkinTwistsModel", "rings0", "[I", true)
  | 6 => ("SkinTwistsModel", "planSize", "[I", true)
  | 7 => ("SkinTwistsModel", "plans", "[I", true)
  | 8 => ("SkinTwistsModel", "u", "[I", true)
  | 9 => ("SkinTwistsModel", "uSize", "I", false)
  | 10 => ("SkinTwistsModel", "v", "[I", true)
  | 11 => ("SkinTwistsModel", "vSize", "I", false)
  | 12 => ("SkinTwistsModel", "rowA", "[I", true)
  | 13 => ("SkinTwistsModel", "sizeA", "I", false)
  | 14 => ("SkinTwistsModel", "rowB", "[I", true)
  | 15 => ("SkinTwistsModel", "sizeB", "I", false)
  | 16 => ("SkinTwistsModel", "text", "[I", true)
  | 17 => ("SkinTwistsModel", "textSize", "I", false)
  | 18 => ("SkinTwistsModel", "here", "I", false)
  | 19 => ("SkinTwistsModel", "faultOf", "I", false)
  | 20 => ("SkinTwistsModel", "place", "I", false)
  | 21 => ("SkinTwistsModel", "opened", "[I", true)
  | 22 => ("SkinTwistsModel", "deep", "I", false)
  | 23 => ("SkinTwistsModel", "newPlan", "[I", true)
  | 24 => ("SkinTwistsModel", "newSize", "I", false)
  | 25 => ("SkinTwistsModel", "image", "[I", true)
  | 26 => ("SkinTwistsModel", "imageSize", "[I", true)
  | _ => ("SkinTwistsModel", "minors", "[J", true)
def tyX9 : Nat → FieldType := fun k => match k with
  | 0 => .int
  | 1 => .int
  | 2 => .array .int
  | 3 => .int
  | 4 => .array .int
  | 5 => .array .int
  | 6 => .array .int
  | 7 => .array .int
  | 8 => .array .int
  | 9 => .int
  | 10 => .array .int
  | 11 => .int
  | 12 => .array .int
  | 13 => .int
  | 14 => .array .int
  | 15 => .int
  | 16 => .array .int
  | 17 => .int
  | 18 => .int
  | 19 => .int
  | 20 => .int
  | 21 => .array .int
  | 22 => .int
  | 23 => .array .int
  | 24 => .int
  | 25 => .array .int
  | 26 => .array .int
  | _ => .array .long
theorem nmX9 : ∀ a, a < 28 → ∀ b, b < 28 → a ≠ b → (TX9 a).2.1 ≠ (TX9 b).2.1 := by decide +kernel
theorem tyX9_ok : ∀ k, k < 28 → parseFieldDescriptor (TX9 k).2.2.1 = some (tyX9 k) := by decide +kernel
abbrev cX9_init : ByteArray := prog_11_method_1_code
def yX9_init : MethodName := ⟨RX9, "<init>", "()V"⟩
abbrev cX9_in : ByteArray := prog_11_method_3_code
def yX9_in : MethodName := ⟨RX9, "in", "(JJJ)Z"⟩
abbrev cX9_bit : ByteArray := prog_11_method_4_code
def yX9_bit : MethodName := ⟨RX9, "bit", "(Z)I"⟩
abbrev cX9_lay : ByteArray := prog_11_method_5_code
def yX9_lay : MethodName := ⟨RX9, "lay", "(I)V"⟩
abbrev cX9_skin : ByteArray := prog_11_method_6_code
def yX9_skin : MethodName := ⟨RX9, "skin", "(I)I"⟩
abbrev cX9_twists : ByteArray := prog_11_method_7_code
def yX9_twists : MethodName := ⟨RX9, "twists", "()I"⟩
abbrev cX9_isLetter : ByteArray := prog_11_method_8_code
def yX9_isLetter : MethodName := ⟨RX9, "isLetter", "(I)Z"⟩
abbrev cX9_letter : ByteArray := prog_11_method_9_code
def yX9_letter : MethodName := ⟨RX9, "letter", "(I)I"⟩
abbrev cX9_ring : ByteArray := prog_11_method_10_code
def yX9_ring : MethodName := ⟨RX9, "ring", "()I"⟩
abbrev cX9_noRing : ByteArray := prog_11_method_11_code
def yX9_noRing : MethodName := ⟨RX9, "noRing", "(I)Z"⟩
abbrev cX9_drop : ByteArray := prog_11_method_12_code
def yX9_drop : MethodName := ⟨RX9, "drop", "()I"⟩
abbrev cX9_takeU : ByteArray := prog_11_method_13_code
def yX9_takeU : MethodName := ⟨RX9, "takeU", "(I)V"⟩
abbrev cX9_takeV : ByteArray := prog_11_method_14_code
def yX9_takeV : MethodName := ⟨RX9, "takeV", "(I)V"⟩
abbrev cX9_turnV : ByteArray := prog_11_method_15_code
def yX9_turnV : MethodName := ⟨RX9, "turnV", "()V"⟩
abbrev cX9_ofU : ByteArray := prog_11_method_16_code
def yX9_ofU : MethodName := ⟨RX9, "ofU", "(I)I"⟩
abbrev cX9_ofV : ByteArray := prog_11_method_17_code
def yX9_ofV : MethodName := ⟨RX9, "ofV", "(I)I"⟩
abbrev cX9_isTurned : ByteArray := prog_11_method_18_code
def yX9_isTurned : MethodName := ⟨RX9, "isTurned", "()Z"⟩
abbrev cX9_areOne : ByteArray := prog_11_method_19_code
def yX9_areOne : MethodName := ⟨RX9, "areOne", "()Z"⟩
abbrev cX9_one : ByteArray := prog_11_method_20_code
def yX9_one : MethodName := ⟨RX9, "one", "(II)I"⟩
abbrev cX9_isPower : ByteArray := prog_11_method_21_code
def yX9_isPower : MethodName := ⟨RX9, "isPower", "(I)Z"⟩
abbrev cX9_placeOf : ByteArray := prog_11_method_22_code
def yX9_placeOf : MethodName := ⟨RX9, "placeOf", "(I)I"⟩
abbrev cX9_farFrom : ByteArray := prog_11_method_23_code
def yX9_farFrom : MethodName := ⟨RX9, "farFrom", "(II)I"⟩
abbrev cX9_goRound : ByteArray := prog_11_method_24_code
def yX9_goRound : MethodName := ⟨RX9, "goRound", "(III)Z"⟩
abbrev cX9_meetAtOnce : ByteArray := prog_11_method_25_code
def yX9_meetAtOnce : MethodName := ⟨RX9, "meetAtOnce", "(IIII)Z"⟩
abbrev cX9_meetAlong : ByteArray := prog_11_method_26_code
def yX9_meetAlong : MethodName := ⟨RX9, "meetAlong", "(II)Z"⟩
abbrev cX9_countMeetings : ByteArray := prog_11_method_27_code
def yX9_countMeetings : MethodName := ⟨RX9, "countMeetings", "(Z)I"⟩
abbrev cX9_meetings : ByteArray := prog_11_method_28_code
def yX9_meetings : MethodName := ⟨RX9, "meetings", "()I"⟩
abbrev cX9_meetingsOf : ByteArray := prog_11_method_29_code
def yX9_meetingsOf : MethodName := ⟨RX9, "meetingsOf", "(II)I"⟩
abbrev cX9_isSimple : ByteArray := prog_11_method_30_code
def yX9_isSimple : MethodName := ⟨RX9, "isSimple", "(I)Z"⟩
abbrev cX9_meets : ByteArray := prog_11_method_31_code
def yX9_meets : MethodName := ⟨RX9, "meets", "(II)I"⟩
abbrev cX9_told : ByteArray := prog_11_method_32_code
def yX9_told : MethodName := ⟨RX9, "told", "(II)I"⟩
abbrev cX9_at : ByteArray := prog_11_method_33_code
def yX9_at : MethodName := ⟨RX9, "at", "(II)I"⟩
abbrev cX9_heap : ByteArray := prog_11_method_34_code
def yX9_heap : MethodName := ⟨RX9, "heap", "(I)I"⟩
abbrev cX9_put : ByteArray := prog_11_method_35_code
def yX9_put : MethodName := ⟨RX9, "put", "(I)V"⟩
abbrev cX9_putC : ByteArray := prog_11_method_36_code
def yX9_putC : MethodName := ⟨RX9, "putC", "(IZ)V"⟩
abbrev cX9_putImage : ByteArray := prog_11_method_37_code
def yX9_putImage : MethodName := ⟨RX9, "putImage", "(IZIZ)V"⟩
abbrev cX9_twistRow : ByteArray := prog_11_method_38_code
def yX9_twistRow : MethodName := ⟨RX9, "twistRow", "(I)Z"⟩
abbrev cX9_imageRow : ByteArray := prog_11_method_39_code
def yX9_imageRow : MethodName := ⟨RX9, "imageRow", "(I)Z"⟩
abbrev cX9_takeLetter : ByteArray := prog_11_method_40_code
def yX9_takeLetter : MethodName := ⟨RX9, "takeLetter", "(I)V"⟩
abbrev cX9_takeRing : ByteArray := prog_11_method_41_code
def yX9_takeRing : MethodName := ⟨RX9, "takeRing", "(I)V"⟩
abbrev cX9_closeToU : ByteArray := prog_11_method_42_code
def yX9_closeToU : MethodName := ⟨RX9, "closeToU", "()V"⟩
abbrev cX9_noPlan : ByteArray := prog_11_method_43_code
def yX9_noPlan : MethodName := ⟨RX9, "noPlan", "(I)Z"⟩
abbrev cX9_feed : ByteArray := prog_11_method_44_code
def yX9_feed : MethodName := ⟨RX9, "feed", "(IJ)I"⟩
abbrev cX9_look : ByteArray := prog_11_method_45_code
def yX9_look : MethodName := ⟨RX9, "look", "()I"⟩
abbrev cX9_want : ByteArray := prog_11_method_46_code
def yX9_want : MethodName := ⟨RX9, "want", "(ZII)Z"⟩
abbrev cX9_takeFigure : ByteArray := prog_11_method_47_code
def yX9_takeFigure : MethodName := ⟨RX9, "takeFigure", "(II)I"⟩
abbrev cX9_readTwist : ByteArray := prog_11_method_48_code
def yX9_readTwist : MethodName := ⟨RX9, "readTwist", "(I)V"⟩
abbrev cX9_closeBracket : ByteArray := prog_11_method_49_code
def yX9_closeBracket : MethodName := ⟨RX9, "closeBracket", "()V"⟩
abbrev cX9_readItem : ByteArray := prog_11_method_50_code
def yX9_readItem : MethodName := ⟨RX9, "readItem", "(I)V"⟩
abbrev cX9_read : ByteArray := prog_11_method_51_code
def yX9_read : MethodName := ⟨RX9, "read", "(I)I"⟩
abbrev cX9_fault : ByteArray := prog_11_method_52_code
def yX9_fault : MethodName := ⟨RX9, "fault", "()I"⟩
abbrev cX9_twist : ByteArray := prog_11_method_53_code
def yX9_twist : MethodName := ⟨RX9, "twist", "(II)I"⟩
abbrev cX9_chain : ByteArray := prog_11_method_54_code
def yX9_chain : MethodName := ⟨RX9, "chain", "(III)I"⟩
abbrev cX9_turn : ByteArray := prog_11_method_55_code
def yX9_turn : MethodName := ⟨RX9, "turn", "(II)I"⟩
abbrev cX9_image : ByteArray := prog_11_method_56_code
def yX9_image : MethodName := ⟨RX9, "image", "(III)I"⟩
abbrev cX9_carried : ByteArray := prog_11_method_57_code
def yX9_carried : MethodName := ⟨RX9, "carried", "(III)I"⟩
abbrev cX9_meetsThen : ByteArray := prog_11_method_58_code
def yX9_meetsThen : MethodName := ⟨RX9, "meetsThen", "(III)I"⟩
abbrev cX9_startImages : ByteArray := prog_11_method_59_code
def yX9_startImages : MethodName := ⟨RX9, "startImages", "()V"⟩
abbrev cX9_goOn : ByteArray := prog_11_method_60_code
def yX9_goOn : MethodName := ⟨RX9, "goOn", "(I)Z"⟩
abbrev cX9_findImages : ByteArray := prog_11_method_61_code
def yX9_findImages : MethodName := ⟨RX9, "findImages", "(I)Z"⟩
abbrev cX9_isImage : ByteArray := prog_11_method_62_code
def yX9_isImage : MethodName := ⟨RX9, "isImage", "(I)Z"⟩
abbrev cX9_same : ByteArray := prog_11_method_63_code
def yX9_same : MethodName := ⟨RX9, "same", "(II)I"⟩
abbrev cX9_putRim : ByteArray := prog_11_method_64_code
def yX9_putRim : MethodName := ⟨RX9, "putRim", "(Z)V"⟩
abbrev cX9_isTurns : ByteArray := prog_11_method_65_code
def yX9_isTurns : MethodName := ⟨RX9, "isTurns", "(I)Z"⟩
abbrev cX9_findTurns : ByteArray := prog_11_method_66_code
def yX9_findTurns : MethodName := ⟨RX9, "findTurns", "()I"⟩
abbrev cX9_turns : ByteArray := prog_11_method_67_code
def yX9_turns : MethodName := ⟨RX9, "turns", "(I)I"⟩
abbrev cX9_findOrder : ByteArray := prog_11_method_68_code
def yX9_findOrder : MethodName := ⟨RX9, "findOrder", "(II)I"⟩
abbrev cX9_order : ByteArray := prog_11_method_69_code
def yX9_order : MethodName := ⟨RX9, "order", "(II)I"⟩
abbrev cX9_tableOf : ByteArray := prog_11_method_70_code
def yX9_tableOf : MethodName := ⟨RX9, "tableOf", "(II)I"⟩
abbrev cX9_table : ByteArray := prog_11_method_71_code
def yX9_table : MethodName := ⟨RX9, "table", "(III)I"⟩
abbrev cX9_determinant : ByteArray := prog_11_method_72_code
def yX9_determinant : MethodName := ⟨RX9, "determinant", "(I)J"⟩
abbrev cX9_onesOf : ByteArray := prog_11_method_73_code
def yX9_onesOf : MethodName := ⟨RX9, "onesOf", "(I)I"⟩
abbrev cX9_character : ByteArray := prog_11_method_74_code
def yX9_character : MethodName := ⟨RX9, "character", "(II)J"⟩
abbrev cX9_lengthNow : ByteArray := prog_11_method_75_code
def yX9_lengthNow : MethodName := ⟨RX9, "lengthNow", "()I"⟩
abbrev cX9_length : ByteArray := prog_11_method_76_code
def yX9_length : MethodName := ⟨RX9, "length", "(II)I"⟩
abbrev cX9_comesBack : ByteArray := prog_11_method_77_code
def yX9_comesBack : MethodName := ⟨RX9, "comesBack", "(III)Z"⟩
abbrev cX9_sort : ByteArray := prog_11_method_78_code
def yX9_sort : MethodName := ⟨RX9, "sort", "(II)I"⟩
abbrev cX9_draftPlan : ByteArray := prog_11_method_79_code
def yX9_draftPlan : MethodName := ⟨RX9, "draftPlan", "(III)V"⟩
abbrev cX9_isDraftLike : ByteArray := prog_11_method_80_code
def yX9_isDraftLike : MethodName := ⟨RX9, "isDraftLike", "()Z"⟩
abbrev cX9_law : ByteArray := prog_11_method_81_code
def yX9_law : MethodName := ⟨RX9, "law", "(II)I"⟩
abbrev cX9_power : ByteArray := prog_11_method_82_code
def yX9_power : MethodName := ⟨RX9, "power", "(I)I"⟩
abbrev cX9_numberPlan : ByteArray := prog_11_method_83_code
def yX9_numberPlan : MethodName := ⟨RX9, "numberPlan", "(II)V"⟩
abbrev cX9_carries : ByteArray := prog_11_method_84_code
def yX9_carries : MethodName := ⟨RX9, "carries", "(II)Z"⟩
abbrev cX9_carry : ByteArray := prog_11_method_85_code
def yX9_carry : MethodName := ⟨RX9, "carry", "(IIII)I"⟩
abbrev cX9_fewest : ByteArray := prog_11_method_86_code
def yX9_fewest : MethodName := ⟨RX9, "fewest", "(III)I"⟩
abbrev cX9_count : ByteArray := prog_11_method_87_code
def yX9_count : MethodName := ⟨RX9, "count", "(I)I"⟩
def RJ6 : String := "java/lang/Integer"
def TJ6 : u_T := fun k => match k with
  | _ => ("", "", "", false)
def tyJ6 : Nat → FieldType := fun k => match k with
  | _ => .int
abbrev wsJ60 : List Cond := u_ws RJ6 TJ6 0
theorem nmJ6 : ∀ a, a < 0 → ∀ b, b < 0 → a ≠ b → (TJ6 a).2.1 ≠ (TJ6 b).2.1 := by decide +kernel
theorem tyJ6_ok : ∀ k, k < 0 → parseFieldDescriptor (TJ6 k).2.2.1 = some (tyJ6 k) := by decide +kernel
abbrev cJ6_bitCount_0f7a4 : ByteArray := prog_12_method_49_code
def yJ6_bitCount_0f7a4 : MethodName := ⟨RJ6, "bitCount", "(I)I"⟩
def RJ9 : String := "java/lang/Math"
def TJ9 : u_T := fun k => match k with
  | _ => ("", "", "", false)
def tyJ9 : Nat → FieldType := fun k => match k with
  | _ => .int
abbrev wsJ90 : List Cond := u_ws RJ9 TJ9 0
theorem nmJ9 : ∀ a, a < 0 → ∀ b, b < 0 → a ≠ b → (TJ9 a).2.1 ≠ (TJ9 b).2.1 := by decide +kernel
theorem tyJ9_ok : ∀ k, k < 0 → parseFieldDescriptor (TJ9 k).2.2.1 = some (tyJ9 k) := by decide +kernel
abbrev cJ9_abs_0f7a4 : ByteArray := prog_13_method_59_code
def yJ9_abs_0f7a4 : MethodName := ⟨RJ9, "abs", "(I)I"⟩
abbrev cJ9_max_7cf53 : ByteArray := prog_13_method_65_code
def yJ9_max_7cf53 : MethodName := ⟨RJ9, "max", "(II)I"⟩
abbrev cJ9_min_7cf53 : ByteArray := prog_13_method_69_code
def yJ9_min_7cf53 : MethodName := ⟨RJ9, "min", "(II)I"⟩
def RJ10 : String := "java/lang/System"
def TJ10 : u_T := fun k => match k with
  | _ => ("", "", "", false)
def tyJ10 : Nat → FieldType := fun k => match k with
  | _ => .int
abbrev wsJ100 : List Cond := u_ws RJ10 TJ10 0
theorem nmJ10 : ∀ a, a < 0 → ∀ b, b < 0 → a ≠ b → (TJ10 a).2.1 ≠ (TJ10 b).2.1 := by decide +kernel
theorem tyJ10_ok : ∀ k, k < 0 → parseFieldDescriptor (TJ10 k).2.2.1 = some (tyJ10 k) := by decide +kernel
def RL : String := "SkinTwistsLaw"
abbrev cL_law : ByteArray := code
def yL_law : MethodName := ⟨RL, "law", "([I)Z"⟩
end
section
noncomputable section
/-! ===== the tables' words, what a method's list must be ===== -/
/-- the words of the tables that hold on for ever -/
def am_tbl : List Cond := lw_tbl.filter goodWord
abbrev am_M : Type := MethodName × ByteArray × Nat × Option FieldType
abbrev am_cl : List vw_C := [(RX0, TX0, 4), (RX1, TX1, 1), (RX2, TX2, 2), (RX3, TX3, 3), (RX4, TX4, 2), (RX5, TX5, 6), (RX6, TX6, 10), (RX7, TX7, 5), (RX8, TX8, 13), (RX9, TX9, 28)]
theorem am_good : GoodIn am_tbl am_tbl := fun w hw => ⟨hw, good_of_word (List.mem_filter.mp hw).2⟩
theorem am_mem {w : Cond} (i : Nat) (h : lw_tbl[i]? = some w) (g : goodWord w = true) : w ∈ am_tbl := List.mem_filter.mpr ⟨List.mem_of_getElem? h, g⟩
def am_okM (y : am_M) (n : Nat) : Prop := plainName y.1.cls = true ∧ Cond.code y.1 y.2.1 y.2.2.1 y.2.2.2 ∈ am_tbl ∧ Cond.initialized y.1.cls ∈ am_tbl ∧ (y.1.cls ≠ "java/lang/invoke/MethodHandle" ∧ y.1.cls ≠ "java/lang/invoke/VarHandle" ∧ (parseMethodDescriptor y.1.desc).map (fun d => d.parameters.length) = some n) ∧ y.2.2.1 ≤ 60
/-- operation, three numbers, row numbers of targets; pc, instruction, length, a place in the tables -/
abbrev ri_row : Type := Nat × Nat × Nat × Nat × List Nat × Nat × Instr × Nat × Nat
abbrev ri_pc (r : ri_row) : Nat := r.2.2.2.2.2.1
abbrev ri_ins (r : ri_row) : Instr := r.2.2.2.2.2.2.1
abbrev ri_len (r : ri_row) : Nat := r.2.2.2.2.2.2.2.1
abbrev ri_pl (r : ri_row) : Nat := r.2.2.2.2.2.2.2.2
def ri_lw (pl : Nat) (w : Cond) : Bool := decide (lw_tbl[pl]? = some w) && goodWord w
theorem ri_lw_in {pl : Nat} {w : Cond} (h : ri_lw pl w = true) : w ∈ am_tbl := by
  unfold ri_lw at h
  rw [Bool.and_eq_true, decide_eq_true_eq] at h
  exact am_mem pl h.1 h.2
/-- what the tables must say of a row of a method's list -/
def ri_rok1 (y : am_M) (pcs : List Nat) (a b n : Nat) (ts : List Nat) (pc : Nat) (ins : Instr) (pl : Nat) : Bool := match ins with
  | .iconst z => decide (Int32.ofInt z = nI n)
  | .bipush z => decide ((Int8.ofInt z).toInt32 = nI n)
  | .sipush z => decide ((Int16.ofInt z).toInt32 = nI n)
  | .ldc_w idx => ri_lw pl (.constant y.1.cls idx (nI n))
  | .lconst z => decide (Int64.ofNat (z : Nat) = Int64.ofNat n)
  | .ldc2_w idx => ri_lw pl (.constantLong y.1.cls idx (Int64.ofNat n))
  | .iload_n i => decide ((i : Nat) = a)
  | .iload i => decide (i = a)
  | .lload_n i => decide ((i : Nat) = a)
  | .lload i => decide (i = a)
  | .aload_n i => decide ((i : Nat) = a)
  | .aload i => decide (i = a)
  | .istore_n i => decide ((i : Nat) = a ∧ a < y.2.2.1)
  | .istore i => decide (i = a ∧ a < y.2.2.1)
  | .lstore_n i => decide ((i : Nat) = a ∧ a + 1 < y.2.2.1)
  | .lstore i => decide (i = a ∧ a + 1 < y.2.2.1)
  | .astore_n i => decide ((i : Nat) = a ∧ a < y.2.2.1)
  | .astore i => decide (i = a ∧ a < y.2.2.1)
  | .iinc i z => decide (i = a ∧ a < y.2.2.1 ∧ Int32.ofInt z = nI n)
  | .if_icmp _ off => decide ((pcs[a]?).map Int.ofNat = some ((pc : Int) + off))
  | .ifCond _ off => decide ((pcs[a]?).map Int.ofNat = some ((pc : Int) + off))
  | .goto off => decide ((pcs[a]?).map Int.ofNat = some ((pc : Int) + off))
  | .getfield idx => match am_cl[a]? with
    | some q => decide (b < q.2.2) && ri_lw pl (.fieldLink y.1.cls idx (q.2.1 b).1 (q.2.1 b).2.1 (q.2.1 b).2.2.1)
    | none => false
  | .putfield idx => match am_cl[a]? with
    | some q => decide (b < q.2.2) && ri_lw pl (.fieldLink y.1.cls idx (q.2.1 b).1 (q.2.1 b).2.1 (q.2.1 b).2.2.1) && (!(q.2.1 b).2.2.2 || (decide (y.1.name = "<init>") && decide ((q.2.1 b).1 = y.1.cls))) &&
      (match parseFieldDescriptor (q.2.1 b).2.2.1 with
        | some .int => n == 0
        | some .boolean => n == 1
        | some (.array _) => n == 2
        | some (.object _) => n == 2
        | _ => false)
    | none => false
  | .new idx => match am_cl[a]? with
    | some q => ri_lw pl (.classLink y.1.cls idx q.1)
    | none => false
  | .anewarray idx => match a with
    | 2 => ri_lw pl (.classLink y.1.cls idx RX4)
    | 3 => ri_lw pl (.classLink y.1.cls idx RX3)
    | 4 => ri_lw pl (.classLink y.1.cls idx RX2)
    | _ => false
  | .getstatic idx => ri_lw pl (.fieldLink y.1.cls idx RX1 "PLACES" "[I")
  | .tableswitch dflt lo hi offs => decide (lo = 0 ∧ hi + 1 = (ts.length : Int)) && (decide ((pcs[a]?).map Int.ofNat = some ((pc : Int) + dflt)) && decide (ts.map (fun t => (pcs[t]?).map Int.ofNat) = offs.toList.map (fun off => some ((pc : Int) + off))))
  | .ireturn => match y.2.2.2 with
    | some .int => b == 0
    | some .boolean => b == 1
    | _ => false
  | .lreturn => decide (y.2.2.2 = some .long)
  | .return_ => decide (y.2.2.2 = none)
  | _ => true
def ri_end (i : Instr) : Bool := match i with
  | .ireturn => true
  | .lreturn => true
  | .return_ => true
  | .goto _ => true
  | .tableswitch .. => true
  | .lookupswitch .. => true
  | _ => false
def ri_sw (i : Instr) : Bool := match i with
  | .tableswitch .. => true
  | .lookupswitch .. => true
  | _ => false
def ri_ln (i : Instr) : Nat := match i with
  | .bipush _ => 2
  | .sipush _ => 3
  | .ldc_w _ => 3
  | .ldc2_w _ => 3
  | .iload _ => 2
  | .lload _ => 2
  | .aload _ => 2
  | .istore _ => 2
  | .lstore _ => 2
  | .astore _ => 2
  | .iinc .. => 3
  | .if_icmp .. => 3
  | .ifCond .. => 3
  | .goto _ => 3
  | .getfield _ => 3
  | .putfield _ => 3
  | .getstatic _ => 3
  | .new _ => 3
  | .newarray _ => 2
  | .anewarray _ => 3
  | .invokevirtual _ => 3
  | .invokestatic _ => 3
  | .invokespecial _ => 3
  | _ => 1
def ri_opc (s : ClassFile.Cond) (e n l g t m : Nat) : Nat := match s with
  | .eq => e
  | .ne => n
  | .lt => l
  | .ge => g
  | .gt => t
  | .le => m
def ri_opn (i : Instr) : Nat := match i with
  | .iconst _ => 2
  | .bipush _ => 2
  | .sipush _ => 2
  | .ldc_w _ => 2
  | .lconst _ => 38
  | .ldc2_w _ => 38
  | .iload_n _ => 1
  | .iload _ => 1
  | .istore_n _ => 9
  | .istore _ => 9
  | .lload_n _ => 39
  | .lload _ => 39
  | .lstore_n _ => 40
  | .lstore _ => 40
  | .aload_n _ => 0
  | .aload _ => 0
  | .astore_n _ => 41
  | .astore _ => 41
  | .iinc .. => 16
  | .goto _ => 6
  | .getfield _ => 3
  | .putfield _ => 14
  | .getstatic _ => 48
  | .new _ => 49
  | .newarray .int => 50
  | .newarray .long => 51
  | .anewarray _ => 52
  | .tableswitch .. => 57
  | .ireturn => 5
  | .lreturn => 58
  | .return_ => 21
  | .invokevirtual _ => 4
  | .invokestatic _ => 17
  | .invokespecial _ => 59
  | .iadd => 7
  | .iaload => 8
  | .isub => 10
  | .imul => 15
  | .aaload => 20
  | .iastore => 22
  | .dup => 23
  | .i2l => 24
  | .ineg => 32
  | .iand => 33
  | .irem => 34
  | .ishr => 35
  | .idiv => 36
  | .arraylength => 37
  | .lcmp => 42
  | .ladd => 43
  | .lmul => 44
  | .ixor => 45
  | .ishl => 46
  | .iushr => 47
  | .aastore => 53
  | .laload => 54
  | .lastore => 55
  | .dup2 => 56
  | .if_icmp c _ => ri_opc c 19 18 26 13 25 27
  | .ifCond c _ => ri_opc c 11 12 28 30 31 29
  | _ => 99
def ri_rok (y : am_M) (pcs : List Nat) (i : Nat) (r : ri_row) : Bool :=
  decide (decode y.2.1 (ri_pc r) = .ok (ri_ins r, ri_len r)) && (decide (pcs[i]? = some (ri_pc r)) && ((ri_end (ri_ins r) || decide (pcs[i + 1]? = some (ri_pc r + ri_len r))) && ((ri_sw (ri_ins r) || ri_len r == ri_ln (ri_ins r)) && (Nat.beq r.1 (ri_opn (ri_ins r)) && ri_rok1 y pcs r.2.1 r.2.2.1 r.2.2.2.1 r.2.2.2.2.1 (ri_pc r) (ri_ins r) (ri_pl r)))))
abbrev ri_mi : Type := am_M × Nat × Nat × List ri_row
def ri_nthD {α : Type} (d : α) (l : List α) : Nat → α := List.rec (motive := fun _ => Nat → α) (fun _ => d) (fun x _ ih n => Nat.rec (motive := fun _ => α) x (fun m _ => ih m) n) l
def ri_rokI (M : Nat → ri_mi) (y : am_M) (r : ri_row) : Bool := match ri_ins r with
  | .invokevirtual idx => (M r.2.1).2.2.1 == 1 && ((M r.2.1).2.1 == r.2.2.2.1 && (ri_lw (ri_pl r) (.methodLink y.1.cls idx (M r.2.1).1.1) && decide ((am_cl[r.2.2.1]?).map (fun q => q.1) = some (M r.2.1).1.1.cls)))
  | .invokestatic idx => if Nat.beq r.2.2.1 2 then ri_lw (ri_pl r) (.methodLink y.1.cls idx arraycopyName) else if Nat.ble 3 r.2.2.1 then (if Nat.beq r.2.2.1 5 then ri_lw (ri_pl r) (.methodLink y.1.cls idx Lib.Math.abs.name) else if Nat.beq r.2.2.1 3 then ri_lw (ri_pl r) (.methodLink y.1.cls idx Lib.Math.max.name) else if Nat.beq r.2.2.1 4 then ri_lw (ri_pl r) (.methodLink y.1.cls idx Lib.Math.min.name) else false) else (M r.2.1).2.2.1 == 0 && ((M r.2.1).2.1 == r.2.2.2.1 && ri_lw (ri_pl r) (.methodLink y.1.cls idx (M r.2.1).1.1))
  | .invokespecial idx => if Nat.beq r.2.2.1 1 then ri_lw (ri_pl r) (.methodLink y.1.cls idx objectInit) else (M r.2.1).2.2.1 == 2 && ((M r.2.1).2.1 == r.2.2.2.1 && ri_lw (ri_pl r) (.methodLink y.1.cls idx (M r.2.1).1.1))
  | _ => true
def ri_pcs (tb : List ri_row) : List Nat := tb.map (fun r => ri_pc r)
def ri_okj (M : Nat → ri_mi) (j : Nat) : Prop := am_okM (M j).1 (M j).2.1 ∧ ((M j).2.2.1 = 0 → Cond.static (M j).1.1 ∈ am_tbl) ∧ ((M j).2.2.1 = 1 → Cond.instanceMethod (M j).1.1 ∈ am_tbl ∧ Cond.selects (M j).1.1.cls (M j).1.1 (M j).1.1 ∈ am_tbl) ∧ ((M j).2.2.1 = 2 → Cond.instanceMethod (M j).1.1 ∈ am_tbl ∧ (M j).1.1.name = "<init>" ∧ (M j).1.2.2.2 = none) ∧
  (∀ i r, (M j).2.2.2[i]? = some r → ri_rok (M j).1 (ri_pcs (M j).2.2.2) i r = true ∧ ri_rokI M (M j).1 r = true) ∧ (ri_pcs (M j).2.2.2)[0]? = some 0
end
end
section
noncomputable section
def t_X0_init : List ri_row := [(0, 0, 0, 0, [], 0, .aload_n 0, 1, 0),
  (59, 0, 1, 0, [], 1, .invokespecial 3, 3, 174),
  (0, 0, 0, 0, [], 4, .aload_n 0, 1, 0),
  (2, 0, 0, 6, [], 5, .bipush 6, 2, 0),
  (52, 2, 0, 0, [], 7, .anewarray 9, 3, 175),
  (14, 0, 0, 2, [], 10, .putfield 11, 3, 178),
  (0, 0, 0, 0, [], 13, .aload_n 0, 1, 0),
  (2, 0, 0, 36, [], 14, .bipush 36, 2, 0),
  (50, 0, 0, 0, [], 16, .newarray .int, 2, 0),
  (14, 0, 2, 2, [], 18, .putfield 17, 3, 183),
  (0, 0, 0, 0, [], 21, .aload_n 0, 1, 0),
  (0, 1, 0, 0, [], 22, .aload_n 1, 1, 0),
  (14, 0, 3, 2, [], 23, .putfield 21, 3, 184),
  (2, 0, 0, 0, [], 26, .iconst 0, 1, 0),
  (9, 2, 0, 0, [], 27, .istore_n 2, 1, 0),
  (1, 2, 0, 0, [], 28, .iload_n 2, 1, 0),
  (2, 0, 0, 6, [], 29, .bipush 6, 2, 0),
  (13, 28, 0, 0, [], 31, .if_icmp .ge 25, 3, 0),
  (0, 0, 0, 0, [], 34, .aload_n 0, 1, 0),
  (3, 0, 0, 0, [], 35, .getfield 11, 3, 178),
  (1, 2, 0, 0, [], 38, .iload_n 2, 1, 0),
  (49, 4, 0, 0, [], 39, .new 9, 3, 175),
  (23, 0, 0, 0, [], 42, .dup, 1, 0),
  (2, 0, 0, 400, [], 43, .sipush 400, 3, 0),
  (59, 26, 0, 1, [], 46, .invokespecial 25, 3, 177),
  (53, 0, 0, 0, [], 49, .aastore, 1, 0),
  (16, 2, 0, 1, [], 50, .iinc 2 1, 3, 0),
  (6, 15, 0, 0, [], 53, .goto (-25), 3, 0),
  (21, 0, 0, 0, [], 56, .return_, 1, 0)]
def m_X0_init : am_M := (yX0_init, cX0_init, 3, none)
def t_X0_begin : List ri_row := [(0, 0, 0, 0, [], 0, .aload_n 0, 1, 0),
  (2, 0, 0, 2, [], 1, .iconst 2, 1, 0),
  (1, 1, 0, 0, [], 2, .iload_n 1, 1, 0),
  (15, 0, 0, 0, [], 3, .imul, 1, 0),
  (14, 0, 1, 0, [], 4, .putfield 28, 3, 181),
  (2, 0, 0, 1, [], 7, .iconst 1, 1, 0),
  (9, 2, 0, 0, [], 8, .istore_n 2, 1, 0),
  (1, 2, 0, 0, [], 9, .iload_n 2, 1, 0),
  (0, 0, 0, 0, [], 10, .aload_n 0, 1, 0),
  (3, 0, 1, 0, [], 11, .getfield 28, 3, 181),
  (25, 21, 0, 0, [], 14, .if_icmp .gt 21, 3, 0),
  (0, 0, 0, 0, [], 17, .aload_n 0, 1, 0),
  (3, 0, 0, 0, [], 18, .getfield 11, 3, 178),
  (1, 2, 0, 0, [], 21, .iload_n 2, 1, 0),
  (2, 0, 0, 1, [], 22, .iconst 1, 1, 0),
  (10, 0, 0, 0, [], 23, .isub, 1, 0),
  (20, 0, 0, 0, [], 24, .aaload, 1, 0),
  (1, 2, 0, 0, [], 25, .iload_n 2, 1, 0),
  (4, 28, 4, 1, [], 26, .invokevirtual 32, 3, 630),
  (16, 2, 0, 1, [], 29, .iinc 2 1, 3, 0),
  (6, 7, 0, 0, [], 32, .goto (-23), 3, 0),
  (21, 0, 0, 0, [], 35, .return_, 1, 0)]
def m_X0_begin : am_M := (yX0_begin, cX0_begin, 3, none)
def t_X0_doPlan : List ri_row := [(2, 0, 0, 0, [], 0, .iconst 0, 1, 0),
  (9, 2, 0, 0, [], 1, .istore_n 2, 1, 0),
  (1, 2, 0, 0, [], 2, .iload_n 2, 1, 0),
  (0, 0, 0, 0, [], 3, .aload_n 0, 1, 0),
  (3, 0, 1, 0, [], 4, .getfield 28, 3, 181),
  (13, 19, 0, 0, [], 7, .if_icmp .ge 28, 3, 0),
  (0, 0, 0, 0, [], 10, .aload_n 0, 1, 0),
  (3, 0, 3, 0, [], 11, .getfield 21, 3, 184),
  (0, 1, 0, 0, [], 14, .aload_n 1, 1, 0),
  (0, 0, 0, 0, [], 15, .aload_n 0, 1, 0),
  (3, 0, 0, 0, [], 16, .getfield 11, 3, 178),
  (1, 2, 0, 0, [], 19, .iload_n 2, 1, 0),
  (20, 0, 0, 0, [], 20, .aaload, 1, 0),
  (4, 66, 7, 2, [], 21, .invokevirtual 35, 3, 635),
  (12, 17, 0, 0, [], 24, .ifCond .ne 5, 3, 0),
  (2, 0, 0, 0, [], 27, .iconst 0, 1, 0),
  (5, 0, 1, 0, [], 28, .ireturn, 1, 0),
  (16, 2, 0, 1, [], 29, .iinc 2 1, 3, 0),
  (6, 2, 0, 0, [], 32, .goto (-30), 3, 0),
  (2, 0, 0, 1, [], 35, .iconst 1, 1, 0),
  (5, 0, 1, 0, [], 36, .ireturn, 1, 0)]
def m_X0_doPlan : am_M := (yX0_doPlan, cX0_doPlan, 3, some .boolean)
def t_X0_lettersTogether : List ri_row := [(2, 0, 0, 0, [], 0, .iconst 0, 1, 0),
  (9, 1, 0, 0, [], 1, .istore_n 1, 1, 0),
  (2, 0, 0, 0, [], 2, .iconst 0, 1, 0),
  (9, 2, 0, 0, [], 3, .istore_n 2, 1, 0),
  (1, 2, 0, 0, [], 4, .iload_n 2, 1, 0),
  (0, 0, 0, 0, [], 5, .aload_n 0, 1, 0),
  (3, 0, 1, 0, [], 6, .getfield 28, 3, 181),
  (13, 18, 0, 0, [], 9, .if_icmp .ge 21, 3, 0),
  (1, 1, 0, 0, [], 12, .iload_n 1, 1, 0),
  (0, 0, 0, 0, [], 13, .aload_n 0, 1, 0),
  (3, 0, 0, 0, [], 14, .getfield 11, 3, 178),
  (1, 2, 0, 0, [], 17, .iload_n 2, 1, 0),
  (20, 0, 0, 0, [], 18, .aaload, 1, 0),
  (3, 4, 1, 0, [], 19, .getfield 41, 3, 124),
  (7, 0, 0, 0, [], 22, .iadd, 1, 0),
  (9, 1, 0, 0, [], 23, .istore_n 1, 1, 0),
  (16, 2, 0, 1, [], 24, .iinc 2 1, 3, 0),
  (6, 4, 0, 0, [], 27, .goto (-23), 3, 0),
  (1, 1, 0, 0, [], 30, .iload_n 1, 1, 0),
  (5, 0, 0, 0, [], 31, .ireturn, 1, 0)]
def m_X0_lettersTogether : am_M := (yX0_lettersTogether, cX0_lettersTogether, 3, some .int)
def t_X0_fullTurns : List ri_row := [(2, 0, 0, 0, [], 0, .iconst 0, 1, 0),
  (9, 2, 0, 0, [], 1, .istore_n 2, 1, 0),
  (1, 2, 0, 0, [], 2, .iload_n 2, 1, 0),
  (2, 0, 0, 5, [], 3, .iconst 5, 1, 0),
  (25, 23, 0, 0, [], 4, .if_icmp .gt 33, 3, 0),
  (0, 0, 0, 0, [], 7, .aload_n 0, 1, 0),
  (1, 2, 0, 0, [], 8, .iload_n 2, 1, 0),
  (0, 1, 0, 0, [], 9, .aload_n 1, 1, 0),
  (4, 5, 0, 2, [], 10, .invokevirtual 44, 3, 648),
  (11, 12, 0, 0, [], 13, .ifCond .eq 5, 3, 0),
  (1, 2, 0, 0, [], 16, .iload_n 2, 1, 0),
  (5, 0, 0, 0, [], 17, .ireturn, 1, 0),
  (0, 0, 0, 0, [], 18, .aload_n 0, 1, 0),
  (1, 2, 0, 0, [], 19, .iload_n 2, 1, 0),
  (32, 0, 0, 0, [], 20, .ineg, 1, 0),
  (0, 1, 0, 0, [], 21, .aload_n 1, 1, 0),
  (4, 5, 0, 2, [], 22, .invokevirtual 44, 3, 648),
  (11, 21, 0, 0, [], 25, .ifCond .eq 6, 3, 0),
  (1, 2, 0, 0, [], 28, .iload_n 2, 1, 0),
  (32, 0, 0, 0, [], 29, .ineg, 1, 0),
  (5, 0, 0, 0, [], 30, .ireturn, 1, 0),
  (16, 2, 0, 1, [], 31, .iinc 2 1, 3, 0),
  (6, 2, 0, 0, [], 34, .goto (-32), 3, 0),
  (2, 0, 0, 99, [], 37, .bipush 99, 2, 0),
  (5, 0, 0, 0, [], 39, .ireturn, 1, 0)]
def m_X0_fullTurns : am_M := (yX0_fullTurns, cX0_fullTurns, 3, some .int)
def t_X0_areTurns : List ri_row := [(2, 0, 0, 1, [], 0, .iconst 1, 1, 0),
  (9, 3, 0, 0, [], 1, .istore_n 3, 1, 0),
  (1, 3, 0, 0, [], 2, .iload_n 3, 1, 0),
  (0, 0, 0, 0, [], 3, .aload_n 0, 1, 0),
  (3, 0, 1, 0, [], 4, .getfield 28, 3, 181),
  (25, 34, 0, 0, [], 7, .if_icmp .gt 49, 3, 0),
  (0, 2, 0, 0, [], 10, .aload_n 2, 1, 0),
  (2, 0, 0, 0, [], 11, .iconst 0, 1, 0),
  (14, 4, 1, 0, [], 12, .putfield 41, 3, 124),
  (0, 0, 0, 0, [], 15, .aload_n 0, 1, 0),
  (1, 1, 0, 0, [], 16, .iload_n 1, 1, 0),
  (0, 2, 0, 0, [], 17, .aload_n 2, 1, 0),
  (4, 6, 0, 2, [], 18, .invokevirtual 48, 3, 652),
  (0, 2, 0, 0, [], 21, .aload_n 2, 1, 0),
  (1, 3, 0, 0, [], 22, .iload_n 3, 1, 0),
  (4, 27, 4, 1, [], 23, .invokevirtual 52, 3, 662),
  (0, 0, 0, 0, [], 26, .aload_n 0, 1, 0),
  (1, 1, 0, 0, [], 27, .iload_n 1, 1, 0),
  (32, 0, 0, 0, [], 28, .ineg, 1, 0),
  (0, 2, 0, 0, [], 29, .aload_n 2, 1, 0),
  (4, 6, 0, 2, [], 30, .invokevirtual 48, 3, 652),
  (0, 2, 0, 0, [], 33, .aload_n 2, 1, 0),
  (0, 0, 0, 0, [], 34, .aload_n 0, 1, 0),
  (3, 0, 0, 0, [], 35, .getfield 11, 3, 178),
  (1, 3, 0, 0, [], 38, .iload_n 3, 1, 0),
  (2, 0, 0, 1, [], 39, .iconst 1, 1, 0),
  (10, 0, 0, 0, [], 40, .isub, 1, 0),
  (20, 0, 0, 0, [], 41, .aaload, 1, 0),
  (4, 34, 4, 1, [], 42, .invokevirtual 55, 3, 663),
  (12, 32, 0, 0, [], 45, .ifCond .ne 5, 3, 0),
  (2, 0, 0, 0, [], 48, .iconst 0, 1, 0),
  (5, 0, 1, 0, [], 49, .ireturn, 1, 0),
  (16, 3, 0, 1, [], 50, .iinc 3 1, 3, 0),
  (6, 2, 0, 0, [], 53, .goto (-51), 3, 0),
  (2, 0, 0, 1, [], 56, .iconst 1, 1, 0),
  (5, 0, 1, 0, [], 57, .ireturn, 1, 0)]
def m_X0_areTurns : am_M := (yX0_areTurns, cX0_areTurns, 4, some .boolean)
def t_X0_pushRim : List ri_row := [(2, 0, 0, 0, [], 0, .iconst 0, 1, 0),
  (9, 3, 0, 0, [], 1, .istore_n 3, 1, 0),
  (1, 3, 0, 0, [], 2, .iload_n 3, 1, 0),
  (1, 1, 0, 0, [], 3, .iload_n 1, 1, 0),
  (17, 0, 5, 0, [], 4, .invokestatic 59, 3, 656),
  (13, 35, 0, 0, [], 7, .if_icmp .ge 60, 3, 0),
  (2, 0, 0, 0, [], 10, .iconst 0, 1, 0),
  (9, 4, 0, 0, [], 11, .istore 4, 2, 0),
  (1, 4, 0, 0, [], 13, .iload 4, 2, 0),
  (2, 0, 0, 2, [], 15, .iconst 2, 1, 0),
  (0, 0, 0, 0, [], 16, .aload_n 0, 1, 0),
  (3, 0, 1, 0, [], 17, .getfield 28, 3, 181),
  (15, 0, 0, 0, [], 20, .imul, 1, 0),
  (13, 33, 0, 0, [], 21, .if_icmp .ge 40, 3, 0),
  (0, 2, 0, 0, [], 24, .aload_n 2, 1, 0),
  (1, 1, 0, 0, [], 25, .iload_n 1, 1, 0),
  (29, 20, 0, 0, [], 26, .ifCond .le 11, 3, 0),
  (1, 4, 0, 0, [], 29, .iload 4, 2, 0),
  (17, 7, 0, 1, [], 31, .invokestatic 65, 3, 659),
  (6, 30, 0, 0, [], 34, .goto 18, 3, 0),
  (2, 0, 0, 2, [], 37, .iconst 2, 1, 0),
  (0, 0, 0, 0, [], 38, .aload_n 0, 1, 0),
  (3, 0, 1, 0, [], 39, .getfield 28, 3, 181),
  (15, 0, 0, 0, [], 42, .imul, 1, 0),
  (2, 0, 0, 1, [], 43, .iconst 1, 1, 0),
  (10, 0, 0, 0, [], 44, .isub, 1, 0),
  (1, 4, 0, 0, [], 45, .iload 4, 2, 0),
  (10, 0, 0, 0, [], 47, .isub, 1, 0),
  (17, 7, 0, 1, [], 48, .invokestatic 65, 3, 659),
  (32, 0, 0, 0, [], 51, .ineg, 1, 0),
  (4, 27, 4, 1, [], 52, .invokevirtual 52, 3, 662),
  (16, 4, 0, 1, [], 55, .iinc 4 1, 3, 0),
  (6, 8, 0, 0, [], 58, .goto (-45), 3, 0),
  (16, 3, 0, 1, [], 61, .iinc 3 1, 3, 0),
  (6, 2, 0, 0, [], 64, .goto (-62), 3, 0),
  (21, 0, 0, 0, [], 67, .return_, 1, 0)]
def m_X0_pushRim : am_M := (yX0_pushRim, cX0_pushRim, 5, none)
def t_X0_rimLetter : List ri_row := [(1, 0, 0, 0, [], 0, .iload_n 0, 1, 0),
  (2, 0, 0, 4, [], 1, .iconst 4, 1, 0),
  (36, 0, 0, 0, [], 2, .idiv, 1, 0),
  (2, 0, 0, 2, [], 3, .iconst 2, 1, 0),
  (15, 0, 0, 0, [], 4, .imul, 1, 0),
  (2, 0, 0, 1, [], 5, .iconst 1, 1, 0),
  (7, 0, 0, 0, [], 6, .iadd, 1, 0),
  (1, 0, 0, 0, [], 7, .iload_n 0, 1, 0),
  (2, 0, 0, 2, [], 8, .iconst 2, 1, 0),
  (34, 0, 0, 0, [], 9, .irem, 1, 0),
  (7, 0, 0, 0, [], 10, .iadd, 1, 0),
  (9, 1, 0, 0, [], 11, .istore_n 1, 1, 0),
  (1, 0, 0, 0, [], 12, .iload_n 0, 1, 0),
  (2, 0, 0, 4, [], 13, .iconst 4, 1, 0),
  (34, 0, 0, 0, [], 14, .irem, 1, 0),
  (2, 0, 0, 2, [], 15, .iconst 2, 1, 0),
  (13, 19, 0, 0, [], 16, .if_icmp .ge 7, 3, 0),
  (1, 1, 0, 0, [], 19, .iload_n 1, 1, 0),
  (6, 21, 0, 0, [], 20, .goto 5, 3, 0),
  (1, 1, 0, 0, [], 23, .iload_n 1, 1, 0),
  (32, 0, 0, 0, [], 24, .ineg, 1, 0),
  (5, 0, 0, 0, [], 25, .ireturn, 1, 0)]
def m_X0_rimLetter : am_M := (yX0_rimLetter, cX0_rimLetter, 2, some .int)
def t_X0_cornerSum : List ri_row := [(2, 0, 0, 0, [], 0, .iconst 0, 1, 0),
  (9, 2, 0, 0, [], 1, .istore_n 2, 1, 0),
  (1, 2, 0, 0, [], 2, .iload_n 2, 1, 0),
  (0, 0, 0, 0, [], 3, .aload_n 0, 1, 0),
  (3, 0, 1, 0, [], 4, .getfield 28, 3, 181),
  (13, 32, 0, 0, [], 7, .if_icmp .ge 48, 3, 0),
  (2, 0, 0, 0, [], 10, .iconst 0, 1, 0),
  (9, 3, 0, 0, [], 11, .istore_n 3, 1, 0),
  (1, 3, 0, 0, [], 12, .iload_n 3, 1, 0),
  (0, 0, 0, 0, [], 13, .aload_n 0, 1, 0),
  (3, 0, 1, 0, [], 14, .getfield 28, 3, 181),
  (13, 30, 0, 0, [], 17, .if_icmp .ge 32, 3, 0),
  (0, 0, 0, 0, [], 20, .aload_n 0, 1, 0),
  (3, 0, 2, 0, [], 21, .getfield 17, 3, 183),
  (1, 2, 0, 0, [], 24, .iload_n 2, 1, 0),
  (2, 0, 0, 6, [], 25, .bipush 6, 2, 0),
  (15, 0, 0, 0, [], 27, .imul, 1, 0),
  (1, 3, 0, 0, [], 28, .iload_n 3, 1, 0),
  (7, 0, 0, 0, [], 29, .iadd, 1, 0),
  (0, 0, 0, 0, [], 30, .aload_n 0, 1, 0),
  (3, 0, 0, 0, [], 31, .getfield 11, 3, 178),
  (1, 2, 0, 0, [], 34, .iload_n 2, 1, 0),
  (20, 0, 0, 0, [], 35, .aaload, 1, 0),
  (1, 3, 0, 0, [], 36, .iload_n 3, 1, 0),
  (2, 0, 0, 1, [], 37, .iconst 1, 1, 0),
  (7, 0, 0, 0, [], 38, .iadd, 1, 0),
  (4, 40, 4, 1, [], 39, .invokevirtual 68, 3, 686),
  (22, 0, 0, 0, [], 42, .iastore, 1, 0),
  (16, 3, 0, 1, [], 43, .iinc 3 1, 3, 0),
  (6, 8, 0, 0, [], 46, .goto (-34), 3, 0),
  (16, 2, 0, 1, [], 49, .iinc 2 1, 3, 0),
  (6, 2, 0, 0, [], 52, .goto (-50), 3, 0),
  (38, 0, 0, 0, [], 55, .lconst 0, 1, 0),
  (40, 2, 0, 0, [], 56, .lstore_n 2, 1, 0),
  (2, 0, 0, 0, [], 57, .iconst 0, 1, 0),
  (9, 4, 0, 0, [], 58, .istore 4, 2, 0),
  (1, 4, 0, 0, [], 60, .iload 4, 2, 0),
  (2, 0, 0, 1, [], 62, .iconst 1, 1, 0),
  (0, 0, 0, 0, [], 63, .aload_n 0, 1, 0),
  (3, 0, 1, 0, [], 64, .getfield 28, 3, 181),
  (46, 0, 0, 0, [], 67, .ishl, 1, 0),
  (13, 57, 0, 0, [], 68, .if_icmp .ge 33, 3, 0),
  (1, 4, 0, 0, [], 71, .iload 4, 2, 0),
  (17, 195, 0, 1, [], 73, .invokestatic 71, 3, 687),
  (1, 1, 0, 0, [], 76, .iload_n 1, 1, 0),
  (18, 55, 0, 0, [], 77, .if_icmp .ne 18, 3, 0),
  (39, 2, 0, 0, [], 80, .lload_n 2, 1, 0),
  (0, 0, 0, 0, [], 81, .aload_n 0, 1, 0),
  (3, 0, 2, 0, [], 82, .getfield 17, 3, 183),
  (2, 0, 0, 0, [], 85, .iconst 0, 1, 0),
  (1, 4, 0, 0, [], 86, .iload 4, 2, 0),
  (1, 4, 0, 0, [], 88, .iload 4, 2, 0),
  (17, 9, 0, 4, [], 90, .invokestatic 76, 3, 693),
  (43, 0, 0, 0, [], 93, .ladd, 1, 0),
  (40, 2, 0, 0, [], 94, .lstore_n 2, 1, 0),
  (16, 4, 0, 1, [], 95, .iinc 4 1, 3, 0),
  (6, 36, 0, 0, [], 98, .goto (-38), 3, 0),
  (39, 2, 0, 0, [], 101, .lload_n 2, 1, 0),
  (58, 0, 0, 0, [], 102, .lreturn, 1, 0)]
def m_X0_cornerSum : am_M := (yX0_cornerSum, cX0_cornerSum, 5, some .long)
def t_X0_corner : List ri_row := [(1, 1, 0, 0, [], 0, .iload_n 1, 1, 0),
  (2, 0, 0, 6, [], 1, .bipush 6, 2, 0),
  (26, 5, 0, 0, [], 3, .if_icmp .lt 5, 3, 0),
  (38, 0, 0, 1, [], 6, .lconst 1, 1, 0),
  (58, 0, 0, 0, [], 7, .lreturn, 1, 0),
  (1, 2, 0, 0, [], 8, .iload_n 2, 1, 0),
  (1, 1, 0, 0, [], 9, .iload_n 1, 1, 0),
  (35, 0, 0, 0, [], 10, .ishr, 1, 0),
  (2, 0, 0, 1, [], 11, .iconst 1, 1, 0),
  (33, 0, 0, 0, [], 12, .iand, 1, 0),
  (12, 19, 0, 0, [], 13, .ifCond .ne 13, 3, 0),
  (0, 0, 0, 0, [], 16, .aload_n 0, 1, 0),
  (1, 1, 0, 0, [], 17, .iload_n 1, 1, 0),
  (2, 0, 0, 1, [], 18, .iconst 1, 1, 0),
  (7, 0, 0, 0, [], 19, .iadd, 1, 0),
  (1, 2, 0, 0, [], 20, .iload_n 2, 1, 0),
  (1, 3, 0, 0, [], 21, .iload_n 3, 1, 0),
  (17, 9, 0, 4, [], 22, .invokestatic 76, 3, 693),
  (58, 0, 0, 0, [], 25, .lreturn, 1, 0),
  (38, 0, 0, 0, [], 26, .lconst 0, 1, 0),
  (40, 4, 0, 0, [], 27, .lstore 4, 2, 0),
  (2, 0, 0, 1, [], 29, .iconst 1, 1, 0),
  (9, 6, 0, 0, [], 30, .istore 6, 2, 0),
  (2, 0, 0, 0, [], 32, .iconst 0, 1, 0),
  (9, 7, 0, 0, [], 33, .istore 7, 2, 0),
  (1, 7, 0, 0, [], 35, .iload 7, 2, 0),
  (2, 0, 0, 6, [], 37, .bipush 6, 2, 0),
  (13, 71, 0, 0, [], 39, .if_icmp .ge 68, 3, 0),
  (1, 3, 0, 0, [], 42, .iload_n 3, 1, 0),
  (1, 7, 0, 0, [], 43, .iload 7, 2, 0),
  (35, 0, 0, 0, [], 45, .ishr, 1, 0),
  (2, 0, 0, 1, [], 46, .iconst 1, 1, 0),
  (33, 0, 0, 0, [], 47, .iand, 1, 0),
  (11, 69, 0, 0, [], 48, .ifCond .eq 53, 3, 0),
  (0, 0, 0, 0, [], 51, .aload_n 0, 1, 0),
  (1, 1, 0, 0, [], 52, .iload_n 1, 1, 0),
  (2, 0, 0, 6, [], 53, .bipush 6, 2, 0),
  (15, 0, 0, 0, [], 55, .imul, 1, 0),
  (1, 7, 0, 0, [], 56, .iload 7, 2, 0),
  (7, 0, 0, 0, [], 58, .iadd, 1, 0),
  (8, 0, 0, 0, [], 59, .iaload, 1, 0),
  (9, 8, 0, 0, [], 60, .istore 8, 2, 0),
  (1, 8, 0, 0, [], 62, .iload 8, 2, 0),
  (11, 66, 0, 0, [], 64, .ifCond .eq 32, 3, 0),
  (39, 4, 0, 0, [], 67, .lload 4, 2, 0),
  (1, 6, 0, 0, [], 69, .iload 6, 2, 0),
  (24, 0, 0, 0, [], 71, .i2l, 1, 0),
  (1, 8, 0, 0, [], 72, .iload 8, 2, 0),
  (24, 0, 0, 0, [], 74, .i2l, 1, 0),
  (44, 0, 0, 0, [], 75, .lmul, 1, 0),
  (0, 0, 0, 0, [], 76, .aload_n 0, 1, 0),
  (1, 1, 0, 0, [], 77, .iload_n 1, 1, 0),
  (2, 0, 0, 1, [], 78, .iconst 1, 1, 0),
  (7, 0, 0, 0, [], 79, .iadd, 1, 0),
  (1, 2, 0, 0, [], 80, .iload_n 2, 1, 0),
  (1, 3, 0, 0, [], 81, .iload_n 3, 1, 0),
  (2, 0, 0, 1, [], 82, .iconst 1, 1, 0),
  (1, 7, 0, 0, [], 83, .iload 7, 2, 0),
  (46, 0, 0, 0, [], 85, .ishl, 1, 0),
  (2, 0, 0, 4294967295, [], 86, .iconst (-1), 1, 0),
  (45, 0, 0, 0, [], 87, .ixor, 1, 0),
  (33, 0, 0, 0, [], 88, .iand, 1, 0),
  (17, 9, 0, 4, [], 89, .invokestatic 76, 3, 693),
  (44, 0, 0, 0, [], 92, .lmul, 1, 0),
  (43, 0, 0, 0, [], 93, .ladd, 1, 0),
  (40, 4, 0, 0, [], 94, .lstore 4, 2, 0),
  (1, 6, 0, 0, [], 96, .iload 6, 2, 0),
  (32, 0, 0, 0, [], 98, .ineg, 1, 0),
  (9, 6, 0, 0, [], 99, .istore 6, 2, 0),
  (16, 7, 0, 1, [], 101, .iinc 7 1, 3, 0),
  (6, 25, 0, 0, [], 104, .goto (-69), 3, 0),
  (39, 4, 0, 0, [], 107, .lload 4, 2, 0),
  (58, 0, 0, 0, [], 109, .lreturn, 1, 0)]
def m_X0_corner : am_M := (yX0_corner, cX0_corner, 9, some .long)
def t_X1_init : List ri_row := [(0, 0, 0, 0, [], 0, .aload_n 0, 1, 0),
  (59, 0, 1, 0, [], 1, .invokespecial 3, 3, 162),
  (0, 0, 0, 0, [], 4, .aload_n 0, 1, 0),
  (49, 4, 0, 0, [], 5, .new 9, 3, 163),
  (23, 0, 0, 0, [], 8, .dup, 1, 0),
  (2, 0, 0, 60, [], 9, .bipush 60, 2, 0),
  (59, 26, 0, 1, [], 11, .invokespecial 11, 3, 164),
  (14, 1, 0, 2, [], 14, .putfield 14, 3, 165),
  (21, 0, 0, 0, [], 17, .return_, 1, 0)]
def m_X1_init : am_M := (yX1_init, cX1_init, 1, none)
def t_X1_between : List ri_row := [(0, 0, 0, 0, [], 0, .aload_n 0, 1, 0),
  (3, 1, 0, 0, [], 1, .getfield 14, 3, 165),
  (0, 2, 0, 0, [], 4, .aload_n 2, 1, 0),
  (4, 30, 4, 1, [], 5, .invokevirtual 20, 3, 433),
  (0, 1, 0, 0, [], 8, .aload_n 1, 1, 0),
  (0, 2, 0, 0, [], 9, .aload_n 2, 1, 0),
  (2, 0, 0, 1, [], 10, .iconst 1, 1, 0),
  (17, 12, 0, 3, [], 11, .invokestatic 24, 3, 434),
  (0, 1, 0, 0, [], 14, .aload_n 1, 1, 0),
  (0, 0, 0, 0, [], 15, .aload_n 0, 1, 0),
  (3, 1, 0, 0, [], 16, .getfield 14, 3, 165),
  (2, 0, 0, 0, [], 19, .iconst 0, 1, 0),
  (17, 12, 0, 3, [], 20, .invokestatic 24, 3, 434),
  (7, 0, 0, 0, [], 23, .iadd, 1, 0),
  (5, 0, 0, 0, [], 24, .ireturn, 1, 0)]
def m_X1_between : am_M := (yX1_between, cX1_between, 3, some .int)
def t_X1_crossings : List ri_row := [(2, 0, 0, 0, [], 0, .iconst 0, 1, 0),
  (9, 3, 0, 0, [], 1, .istore_n 3, 1, 0),
  (2, 0, 0, 0, [], 2, .iconst 0, 1, 0),
  (9, 4, 0, 0, [], 3, .istore 4, 2, 0),
  (1, 4, 0, 0, [], 5, .iload 4, 2, 0),
  (0, 0, 0, 0, [], 7, .aload_n 0, 1, 0),
  (3, 4, 1, 0, [], 8, .getfield 28, 3, 121),
  (13, 84, 0, 0, [], 11, .if_icmp .ge 157, 3, 0),
  (0, 0, 0, 0, [], 14, .aload_n 0, 1, 0),
  (3, 4, 0, 0, [], 15, .getfield 32, 3, 117),
  (1, 4, 0, 0, [], 18, .iload 4, 2, 0),
  (8, 0, 0, 0, [], 20, .iaload, 1, 0),
  (9, 5, 0, 0, [], 21, .istore 5, 2, 0),
  (0, 0, 0, 0, [], 23, .aload_n 0, 1, 0),
  (3, 4, 0, 0, [], 24, .getfield 32, 3, 117),
  (1, 4, 0, 0, [], 27, .iload 4, 2, 0),
  (12, 22, 0, 0, [], 29, .ifCond .ne 12, 3, 0),
  (0, 0, 0, 0, [], 32, .aload_n 0, 1, 0),
  (3, 4, 1, 0, [], 33, .getfield 28, 3, 121),
  (2, 0, 0, 1, [], 36, .iconst 1, 1, 0),
  (10, 0, 0, 0, [], 37, .isub, 1, 0),
  (6, 25, 0, 0, [], 38, .goto 7, 3, 0),
  (1, 4, 0, 0, [], 41, .iload 4, 2, 0),
  (2, 0, 0, 1, [], 43, .iconst 1, 1, 0),
  (10, 0, 0, 0, [], 44, .isub, 1, 0),
  (8, 0, 0, 0, [], 45, .iaload, 1, 0),
  (32, 0, 0, 0, [], 46, .ineg, 1, 0),
  (9, 6, 0, 0, [], 47, .istore 6, 2, 0),
  (2, 0, 0, 0, [], 49, .iconst 0, 1, 0),
  (9, 7, 0, 0, [], 50, .istore 7, 2, 0),
  (1, 7, 0, 0, [], 52, .iload 7, 2, 0),
  (0, 1, 0, 0, [], 54, .aload_n 1, 1, 0),
  (3, 4, 1, 0, [], 55, .getfield 28, 3, 121),
  (13, 82, 0, 0, [], 58, .if_icmp .ge 104, 3, 0),
  (0, 1, 0, 0, [], 61, .aload_n 1, 1, 0),
  (3, 4, 0, 0, [], 62, .getfield 32, 3, 117),
  (1, 7, 0, 0, [], 65, .iload 7, 2, 0),
  (8, 0, 0, 0, [], 67, .iaload, 1, 0),
  (9, 8, 0, 0, [], 68, .istore 8, 2, 0),
  (1, 5, 0, 0, [], 70, .iload 5, 2, 0),
  (1, 8, 0, 0, [], 72, .iload 8, 2, 0),
  (19, 45, 0, 0, [], 74, .if_icmp .eq 10, 3, 0),
  (1, 2, 0, 0, [], 77, .iload_n 2, 1, 0),
  (12, 45, 0, 0, [], 78, .ifCond .ne 6, 3, 0),
  (6, 80, 0, 0, [], 81, .goto 75, 3, 0),
  (0, 1, 0, 0, [], 84, .aload_n 1, 1, 0),
  (3, 4, 0, 0, [], 85, .getfield 32, 3, 117),
  (1, 7, 0, 0, [], 88, .iload 7, 2, 0),
  (12, 54, 0, 0, [], 90, .ifCond .ne 12, 3, 0),
  (0, 1, 0, 0, [], 93, .aload_n 1, 1, 0),
  (3, 4, 1, 0, [], 94, .getfield 28, 3, 121),
  (2, 0, 0, 1, [], 97, .iconst 1, 1, 0),
  (10, 0, 0, 0, [], 98, .isub, 1, 0),
  (6, 57, 0, 0, [], 99, .goto 7, 3, 0),
  (1, 7, 0, 0, [], 102, .iload 7, 2, 0),
  (2, 0, 0, 1, [], 104, .iconst 1, 1, 0),
  (10, 0, 0, 0, [], 105, .isub, 1, 0),
  (8, 0, 0, 0, [], 106, .iaload, 1, 0),
  (32, 0, 0, 0, [], 107, .ineg, 1, 0),
  (9, 9, 0, 0, [], 108, .istore 9, 2, 0),
  (1, 5, 0, 0, [], 110, .iload 5, 2, 0),
  (1, 8, 0, 0, [], 112, .iload 8, 2, 0),
  (18, 73, 0, 0, [], 114, .if_icmp .ne 25, 3, 0),
  (1, 6, 0, 0, [], 117, .iload 6, 2, 0),
  (1, 9, 0, 0, [], 119, .iload 9, 2, 0),
  (19, 80, 0, 0, [], 121, .if_icmp .eq 35, 3, 0),
  (0, 0, 0, 0, [], 124, .aload_n 0, 1, 0),
  (1, 4, 0, 0, [], 125, .iload 4, 2, 0),
  (0, 1, 0, 0, [], 127, .aload_n 1, 1, 0),
  (1, 7, 0, 0, [], 128, .iload 7, 2, 0),
  (17, 14, 0, 4, [], 130, .invokestatic 36, 3, 437),
  (11, 80, 0, 0, [], 133, .ifCond .eq 23, 3, 0),
  (6, 79, 0, 0, [], 136, .goto 17, 3, 0),
  (1, 6, 0, 0, [], 139, .iload 6, 2, 0),
  (1, 5, 0, 0, [], 141, .iload 5, 2, 0),
  (1, 9, 0, 0, [], 143, .iload 9, 2, 0),
  (1, 8, 0, 0, [], 145, .iload 8, 2, 0),
  (17, 13, 0, 4, [], 147, .invokestatic 40, 3, 448),
  (11, 80, 0, 0, [], 150, .ifCond .eq 6, 3, 0),
  (16, 3, 0, 1, [], 153, .iinc 3 1, 3, 0),
  (16, 7, 0, 1, [], 156, .iinc 7 1, 3, 0),
  (6, 30, 0, 0, [], 159, .goto (-107), 3, 0),
  (16, 4, 0, 1, [], 162, .iinc 4 1, 3, 0),
  (6, 4, 0, 0, [], 165, .goto (-160), 3, 0),
  (1, 3, 0, 0, [], 168, .iload_n 3, 1, 0),
  (5, 0, 0, 0, [], 169, .ireturn, 1, 0)]
def m_X1_crossings : am_M := (yX1_crossings, cX1_crossings, 10, some .int)
def t_X1_cross : List ri_row := [(1, 0, 0, 0, [], 0, .iload_n 0, 1, 0),
  (1, 2, 0, 0, [], 1, .iload_n 2, 1, 0),
  (19, 9, 0, 0, [], 2, .if_icmp .eq 13, 3, 0),
  (1, 0, 0, 0, [], 5, .iload_n 0, 1, 0),
  (1, 3, 0, 0, [], 6, .iload_n 3, 1, 0),
  (19, 9, 0, 0, [], 7, .if_icmp .eq 8, 3, 0),
  (1, 1, 0, 0, [], 10, .iload_n 1, 1, 0),
  (1, 2, 0, 0, [], 11, .iload_n 2, 1, 0),
  (18, 11, 0, 0, [], 12, .if_icmp .ne 5, 3, 0),
  (2, 0, 0, 0, [], 15, .iconst 0, 1, 0),
  (5, 0, 1, 0, [], 16, .ireturn, 1, 0),
  (1, 0, 0, 0, [], 17, .iload_n 0, 1, 0),
  (1, 2, 0, 0, [], 18, .iload_n 2, 1, 0),
  (1, 1, 0, 0, [], 19, .iload_n 1, 1, 0),
  (17, 15, 0, 3, [], 20, .invokestatic 44, 3, 440),
  (1, 0, 0, 0, [], 23, .iload_n 0, 1, 0),
  (1, 3, 0, 0, [], 24, .iload_n 3, 1, 0),
  (1, 1, 0, 0, [], 25, .iload_n 1, 1, 0),
  (17, 15, 0, 3, [], 26, .invokestatic 44, 3, 440),
  (19, 22, 0, 0, [], 29, .if_icmp .eq 7, 3, 0),
  (2, 0, 0, 1, [], 32, .iconst 1, 1, 0),
  (6, 23, 0, 0, [], 33, .goto 4, 3, 0),
  (2, 0, 0, 0, [], 36, .iconst 0, 1, 0),
  (5, 0, 1, 0, [], 37, .ireturn, 1, 0)]
def m_X1_cross : am_M := (yX1_cross, cX1_cross, 4, some .boolean)
def t_X1_changeSides : List ri_row := [(0, 0, 0, 0, [], 0, .aload_n 0, 1, 0),
  (3, 4, 0, 0, [], 1, .getfield 32, 3, 117),
  (1, 1, 0, 0, [], 4, .iload_n 1, 1, 0),
  (8, 0, 0, 0, [], 5, .iaload, 1, 0),
  (9, 4, 0, 0, [], 6, .istore 4, 2, 0),
  (0, 0, 0, 0, [], 8, .aload_n 0, 1, 0),
  (3, 4, 0, 0, [], 9, .getfield 32, 3, 117),
  (1, 1, 0, 0, [], 12, .iload_n 1, 1, 0),
  (12, 14, 0, 0, [], 13, .ifCond .ne 12, 3, 0),
  (0, 0, 0, 0, [], 16, .aload_n 0, 1, 0),
  (3, 4, 1, 0, [], 17, .getfield 28, 3, 121),
  (2, 0, 0, 1, [], 20, .iconst 1, 1, 0),
  (10, 0, 0, 0, [], 21, .isub, 1, 0),
  (6, 17, 0, 0, [], 22, .goto 6, 3, 0),
  (1, 1, 0, 0, [], 25, .iload_n 1, 1, 0),
  (2, 0, 0, 1, [], 26, .iconst 1, 1, 0),
  (10, 0, 0, 0, [], 27, .isub, 1, 0),
  (8, 0, 0, 0, [], 28, .iaload, 1, 0),
  (32, 0, 0, 0, [], 29, .ineg, 1, 0),
  (9, 5, 0, 0, [], 30, .istore 5, 2, 0),
  (0, 2, 0, 0, [], 32, .aload_n 2, 1, 0),
  (3, 4, 0, 0, [], 33, .getfield 32, 3, 117),
  (1, 3, 0, 0, [], 36, .iload_n 3, 1, 0),
  (12, 29, 0, 0, [], 37, .ifCond .ne 12, 3, 0),
  (0, 2, 0, 0, [], 40, .aload_n 2, 1, 0),
  (3, 4, 1, 0, [], 41, .getfield 28, 3, 121),
  (2, 0, 0, 1, [], 44, .iconst 1, 1, 0),
  (10, 0, 0, 0, [], 45, .isub, 1, 0),
  (6, 32, 0, 0, [], 46, .goto 6, 3, 0),
  (1, 3, 0, 0, [], 49, .iload_n 3, 1, 0),
  (2, 0, 0, 1, [], 50, .iconst 1, 1, 0),
  (10, 0, 0, 0, [], 51, .isub, 1, 0),
  (8, 0, 0, 0, [], 52, .iaload, 1, 0),
  (32, 0, 0, 0, [], 53, .ineg, 1, 0),
  (9, 6, 0, 0, [], 54, .istore 6, 2, 0),
  (1, 1, 0, 0, [], 56, .iload_n 1, 1, 0),
  (9, 7, 0, 0, [], 57, .istore 7, 2, 0),
  (1, 3, 0, 0, [], 59, .iload_n 3, 1, 0),
  (9, 8, 0, 0, [], 60, .istore 8, 2, 0),
  (1, 4, 0, 0, [], 62, .iload 4, 2, 0),
  (9, 9, 0, 0, [], 64, .istore 9, 2, 0),
  (2, 0, 0, 0, [], 66, .iconst 0, 1, 0),
  (9, 10, 0, 0, [], 67, .istore 10, 2, 0),
  (1, 10, 0, 0, [], 69, .iload 10, 2, 0),
  (0, 0, 0, 0, [], 71, .aload_n 0, 1, 0),
  (3, 4, 1, 0, [], 72, .getfield 28, 3, 121),
  (0, 2, 0, 0, [], 75, .aload_n 2, 1, 0),
  (3, 4, 1, 0, [], 76, .getfield 28, 3, 121),
  (7, 0, 0, 0, [], 79, .iadd, 1, 0),
  (13, 105, 0, 0, [], 80, .if_icmp .ge 108, 3, 0),
  (0, 0, 0, 0, [], 83, .aload_n 0, 1, 0),
  (3, 4, 0, 0, [], 84, .getfield 32, 3, 117),
  (1, 7, 0, 0, [], 87, .iload 7, 2, 0),
  (8, 0, 0, 0, [], 89, .iaload, 1, 0),
  (9, 11, 0, 0, [], 90, .istore 11, 2, 0),
  (0, 2, 0, 0, [], 92, .aload_n 2, 1, 0),
  (3, 4, 0, 0, [], 93, .getfield 32, 3, 117),
  (1, 8, 0, 0, [], 96, .iload 8, 2, 0),
  (8, 0, 0, 0, [], 98, .iaload, 1, 0),
  (9, 12, 0, 0, [], 99, .istore 12, 2, 0),
  (1, 11, 0, 0, [], 101, .iload 11, 2, 0),
  (1, 12, 0, 0, [], 103, .iload 12, 2, 0),
  (19, 77, 0, 0, [], 105, .if_icmp .eq 31, 3, 0),
  (1, 4, 0, 0, [], 108, .iload 4, 2, 0),
  (1, 5, 0, 0, [], 110, .iload 5, 2, 0),
  (1, 6, 0, 0, [], 112, .iload 6, 2, 0),
  (17, 15, 0, 3, [], 114, .invokestatic 44, 3, 440),
  (1, 9, 0, 0, [], 117, .iload 9, 2, 0),
  (32, 0, 0, 0, [], 119, .ineg, 1, 0),
  (1, 11, 0, 0, [], 120, .iload 11, 2, 0),
  (1, 12, 0, 0, [], 122, .iload 12, 2, 0),
  (17, 15, 0, 3, [], 124, .invokestatic 44, 3, 440),
  (18, 75, 0, 0, [], 127, .if_icmp .ne 7, 3, 0),
  (2, 0, 0, 1, [], 130, .iconst 1, 1, 0),
  (6, 76, 0, 0, [], 131, .goto 4, 3, 0),
  (2, 0, 0, 0, [], 134, .iconst 0, 1, 0),
  (5, 0, 1, 0, [], 135, .ireturn, 1, 0),
  (1, 11, 0, 0, [], 136, .iload 11, 2, 0),
  (9, 9, 0, 0, [], 138, .istore 9, 2, 0),
  (1, 7, 0, 0, [], 140, .iload 7, 2, 0),
  (2, 0, 0, 1, [], 142, .iconst 1, 1, 0),
  (7, 0, 0, 0, [], 143, .iadd, 1, 0),
  (0, 0, 0, 0, [], 144, .aload_n 0, 1, 0),
  (3, 4, 1, 0, [], 145, .getfield 28, 3, 121),
  (18, 87, 0, 0, [], 148, .if_icmp .ne 7, 3, 0),
  (2, 0, 0, 0, [], 151, .iconst 0, 1, 0),
  (6, 90, 0, 0, [], 152, .goto 7, 3, 0),
  (1, 7, 0, 0, [], 155, .iload 7, 2, 0),
  (2, 0, 0, 1, [], 157, .iconst 1, 1, 0),
  (7, 0, 0, 0, [], 158, .iadd, 1, 0),
  (9, 7, 0, 0, [], 159, .istore 7, 2, 0),
  (1, 8, 0, 0, [], 161, .iload 8, 2, 0),
  (2, 0, 0, 1, [], 163, .iconst 1, 1, 0),
  (7, 0, 0, 0, [], 164, .iadd, 1, 0),
  (0, 2, 0, 0, [], 165, .aload_n 2, 1, 0),
  (3, 4, 1, 0, [], 166, .getfield 28, 3, 121),
  (18, 99, 0, 0, [], 169, .if_icmp .ne 7, 3, 0),
  (2, 0, 0, 0, [], 172, .iconst 0, 1, 0),
  (6, 102, 0, 0, [], 173, .goto 7, 3, 0),
  (1, 8, 0, 0, [], 176, .iload 8, 2, 0),
  (2, 0, 0, 1, [], 178, .iconst 1, 1, 0),
  (7, 0, 0, 0, [], 179, .iadd, 1, 0),
  (9, 8, 0, 0, [], 180, .istore 8, 2, 0),
  (16, 10, 0, 1, [], 182, .iinc 10 1, 3, 0),
  (6, 43, 0, 0, [], 185, .goto (-116), 3, 0),
  (2, 0, 0, 0, [], 188, .iconst 0, 1, 0),
  (5, 0, 1, 0, [], 189, .ireturn, 1, 0)]
def m_X1_changeSides : am_M := (yX1_changeSides, cX1_changeSides, 13, some .boolean)
def t_X1_goRound : List ri_row := [(1, 0, 0, 0, [], 0, .iload_n 0, 1, 0),
  (1, 1, 0, 0, [], 1, .iload_n 1, 1, 0),
  (17, 16, 0, 2, [], 2, .invokestatic 48, 3, 443),
  (1, 0, 0, 0, [], 5, .iload_n 0, 1, 0),
  (1, 2, 0, 0, [], 6, .iload_n 2, 1, 0),
  (17, 16, 0, 2, [], 7, .invokestatic 48, 3, 443),
  (13, 9, 0, 0, [], 10, .if_icmp .ge 7, 3, 0),
  (2, 0, 0, 1, [], 13, .iconst 1, 1, 0),
  (6, 10, 0, 0, [], 14, .goto 4, 3, 0),
  (2, 0, 0, 0, [], 17, .iconst 0, 1, 0),
  (5, 0, 1, 0, [], 18, .ireturn, 1, 0)]
def m_X1_goRound : am_M := (yX1_goRound, cX1_goRound, 3, some .boolean)
def t_X1_stepsRound : List ri_row := [(1, 0, 0, 0, [], 0, .iload_n 0, 1, 0),
  (2, 0, 0, 6, [], 1, .bipush 6, 2, 0),
  (7, 0, 0, 0, [], 3, .iadd, 1, 0),
  (9, 2, 0, 0, [], 4, .istore_n 2, 1, 0),
  (1, 1, 0, 0, [], 5, .iload_n 1, 1, 0),
  (2, 0, 0, 6, [], 6, .bipush 6, 2, 0),
  (7, 0, 0, 0, [], 8, .iadd, 1, 0),
  (9, 3, 0, 0, [], 9, .istore_n 3, 1, 0),
  (1, 2, 0, 0, [], 10, .iload_n 2, 1, 0),
  (28, 20, 0, 0, [], 11, .ifCond .lt 23, 3, 0),
  (1, 2, 0, 0, [], 14, .iload_n 2, 1, 0),
  (48, 0, 0, 0, [], 15, .getstatic 52, 3, 446),
  (37, 0, 0, 0, [], 18, .arraylength, 1, 0),
  (13, 20, 0, 0, [], 19, .if_icmp .ge 15, 3, 0),
  (1, 3, 0, 0, [], 22, .iload_n 3, 1, 0),
  (28, 20, 0, 0, [], 23, .ifCond .lt 11, 3, 0),
  (1, 3, 0, 0, [], 26, .iload_n 3, 1, 0),
  (48, 0, 0, 0, [], 27, .getstatic 52, 3, 446),
  (37, 0, 0, 0, [], 30, .arraylength, 1, 0),
  (26, 22, 0, 0, [], 31, .if_icmp .lt 5, 3, 0),
  (2, 0, 0, 0, [], 34, .iconst 0, 1, 0),
  (5, 0, 0, 0, [], 35, .ireturn, 1, 0),
  (48, 0, 0, 0, [], 36, .getstatic 52, 3, 446),
  (1, 3, 0, 0, [], 39, .iload_n 3, 1, 0),
  (8, 0, 0, 0, [], 40, .iaload, 1, 0),
  (48, 0, 0, 0, [], 41, .getstatic 52, 3, 446),
  (1, 2, 0, 0, [], 44, .iload_n 2, 1, 0),
  (8, 0, 0, 0, [], 45, .iaload, 1, 0),
  (10, 0, 0, 0, [], 46, .isub, 1, 0),
  (9, 4, 0, 0, [], 47, .istore 4, 2, 0),
  (1, 4, 0, 0, [], 49, .iload 4, 2, 0),
  (30, 36, 0, 0, [], 51, .ifCond .ge 11, 3, 0),
  (1, 4, 0, 0, [], 54, .iload 4, 2, 0),
  (2, 0, 0, 12, [], 56, .bipush 12, 2, 0),
  (7, 0, 0, 0, [], 58, .iadd, 1, 0),
  (6, 37, 0, 0, [], 59, .goto 5, 3, 0),
  (1, 4, 0, 0, [], 62, .iload 4, 2, 0),
  (5, 0, 0, 0, [], 64, .ireturn, 1, 0)]
def m_X1_stepsRound : am_M := (yX1_stepsRound, cX1_stepsRound, 5, some .int)
def t_X2_init : List ri_row := [(0, 0, 0, 0, [], 0, .aload_n 0, 1, 0),
  (59, 0, 1, 0, [], 1, .invokespecial 3, 3, 232),
  (0, 0, 0, 0, [], 4, .aload_n 0, 1, 0),
  (2, 0, 0, 60, [], 5, .bipush 60, 2, 0),
  (50, 0, 0, 0, [], 7, .newarray .int, 2, 0),
  (14, 2, 0, 2, [], 9, .putfield 9, 3, 233),
  (21, 0, 0, 0, [], 12, .return_, 1, 0)]
def m_X2_init : am_M := (yX2_init, cX2_init, 1, none)
def t_X2_add : List ri_row := [(0, 0, 0, 0, [], 0, .aload_n 0, 1, 0),
  (3, 2, 1, 0, [], 1, .getfield 15, 3, 237),
  (0, 0, 0, 0, [], 4, .aload_n 0, 1, 0),
  (3, 2, 0, 0, [], 5, .getfield 9, 3, 233),
  (37, 0, 0, 0, [], 8, .arraylength, 1, 0),
  (13, 18, 0, 0, [], 9, .if_icmp .ge 23, 3, 0),
  (0, 0, 0, 0, [], 12, .aload_n 0, 1, 0),
  (3, 2, 0, 0, [], 13, .getfield 9, 3, 233),
  (0, 0, 0, 0, [], 16, .aload_n 0, 1, 0),
  (3, 2, 1, 0, [], 17, .getfield 15, 3, 237),
  (1, 1, 0, 0, [], 20, .iload_n 1, 1, 0),
  (22, 0, 0, 0, [], 21, .iastore, 1, 0),
  (0, 0, 0, 0, [], 22, .aload_n 0, 1, 0),
  (23, 0, 0, 0, [], 23, .dup, 1, 0),
  (3, 2, 1, 0, [], 24, .getfield 15, 3, 237),
  (2, 0, 0, 1, [], 27, .iconst 1, 1, 0),
  (7, 0, 0, 0, [], 28, .iadd, 1, 0),
  (14, 2, 1, 0, [], 29, .putfield 15, 3, 237),
  (21, 0, 0, 0, [], 32, .return_, 1, 0)]
def m_X2_add : am_M := (yX2_add, cX2_add, 2, none)
def t_X2_addAll : List ri_row := [(2, 0, 0, 0, [], 0, .iconst 0, 1, 0),
  (9, 2, 0, 0, [], 1, .istore_n 2, 1, 0),
  (1, 2, 0, 0, [], 2, .iload_n 2, 1, 0),
  (0, 1, 0, 0, [], 3, .aload_n 1, 1, 0),
  (3, 2, 1, 0, [], 4, .getfield 15, 3, 237),
  (13, 14, 0, 0, [], 7, .if_icmp .ge 19, 3, 0),
  (0, 0, 0, 0, [], 10, .aload_n 0, 1, 0),
  (0, 1, 0, 0, [], 11, .aload_n 1, 1, 0),
  (3, 2, 0, 0, [], 12, .getfield 9, 3, 233),
  (1, 2, 0, 0, [], 15, .iload_n 2, 1, 0),
  (8, 0, 0, 0, [], 16, .iaload, 1, 0),
  (4, 18, 2, 1, [], 17, .invokevirtual 19, 3, 575),
  (16, 2, 0, 1, [], 20, .iinc 2 1, 3, 0),
  (6, 2, 0, 0, [], 23, .goto (-21), 3, 0),
  (21, 0, 0, 0, [], 26, .return_, 1, 0)]
def m_X2_addAll : am_M := (yX2_addAll, cX2_addAll, 3, none)
def t_X2_copy : List ri_row := [(0, 0, 0, 0, [], 0, .aload_n 0, 1, 0),
  (0, 1, 0, 0, [], 1, .aload_n 1, 1, 0),
  (3, 2, 1, 0, [], 2, .getfield 15, 3, 237),
  (14, 2, 1, 0, [], 5, .putfield 15, 3, 237),
  (0, 1, 0, 0, [], 8, .aload_n 1, 1, 0),
  (3, 2, 0, 0, [], 9, .getfield 9, 3, 233),
  (2, 0, 0, 0, [], 12, .iconst 0, 1, 0),
  (0, 0, 0, 0, [], 13, .aload_n 0, 1, 0),
  (3, 2, 0, 0, [], 14, .getfield 9, 3, 233),
  (2, 0, 0, 0, [], 17, .iconst 0, 1, 0),
  (0, 0, 0, 0, [], 18, .aload_n 0, 1, 0),
  (3, 2, 1, 0, [], 19, .getfield 15, 3, 237),
  (17, 0, 2, 0, [], 22, .invokestatic 23, 3, 554),
  (21, 0, 0, 0, [], 25, .return_, 1, 0)]
def m_X2_copy : am_M := (yX2_copy, cX2_copy, 2, none)
def t_X2_becomeReversed : List ri_row := [(0, 0, 0, 0, [], 0, .aload_n 0, 1, 0),
  (2, 0, 0, 0, [], 1, .iconst 0, 1, 0),
  (14, 2, 1, 0, [], 2, .putfield 15, 3, 237),
  (0, 1, 0, 0, [], 5, .aload_n 1, 1, 0),
  (3, 2, 1, 0, [], 6, .getfield 15, 3, 237),
  (2, 0, 0, 1, [], 9, .iconst 1, 1, 0),
  (10, 0, 0, 0, [], 10, .isub, 1, 0),
  (9, 2, 0, 0, [], 11, .istore_n 2, 1, 0),
  (1, 2, 0, 0, [], 12, .iload_n 2, 1, 0),
  (28, 20, 0, 0, [], 13, .ifCond .lt 21, 3, 0),
  (0, 0, 0, 0, [], 16, .aload_n 0, 1, 0),
  (0, 1, 0, 0, [], 17, .aload_n 1, 1, 0),
  (3, 2, 0, 0, [], 18, .getfield 9, 3, 233),
  (1, 2, 0, 0, [], 21, .iload_n 2, 1, 0),
  (8, 0, 0, 0, [], 22, .iaload, 1, 0),
  (2, 0, 0, 1, [], 23, .iconst 1, 1, 0),
  (45, 0, 0, 0, [], 24, .ixor, 1, 0),
  (4, 18, 2, 1, [], 25, .invokevirtual 19, 3, 575),
  (16, 2, 0, 4294967295, [], 28, .iinc 2 (-1), 3, 0),
  (6, 8, 0, 0, [], 31, .goto (-19), 3, 0),
  (21, 0, 0, 0, [], 34, .return_, 1, 0)]
def m_X2_becomeReversed : am_M := (yX2_becomeReversed, cX2_becomeReversed, 3, none)
def t_X2_codeOrSize : List ri_row := [(1, 1, 0, 0, [], 0, .iload_n 1, 1, 0),
  (2, 0, 0, 4294967295, [], 1, .iconst (-1), 1, 0),
  (18, 6, 0, 0, [], 2, .if_icmp .ne 8, 3, 0),
  (0, 0, 0, 0, [], 5, .aload_n 0, 1, 0),
  (3, 2, 1, 0, [], 6, .getfield 15, 3, 237),
  (5, 0, 0, 0, [], 9, .ireturn, 1, 0),
  (1, 1, 0, 0, [], 10, .iload_n 1, 1, 0),
  (28, 17, 0, 0, [], 11, .ifCond .lt 20, 3, 0),
  (1, 1, 0, 0, [], 14, .iload_n 1, 1, 0),
  (0, 0, 0, 0, [], 15, .aload_n 0, 1, 0),
  (3, 2, 1, 0, [], 16, .getfield 15, 3, 237),
  (13, 17, 0, 0, [], 19, .if_icmp .ge 12, 3, 0),
  (0, 0, 0, 0, [], 22, .aload_n 0, 1, 0),
  (3, 2, 0, 0, [], 23, .getfield 9, 3, 233),
  (1, 1, 0, 0, [], 26, .iload_n 1, 1, 0),
  (8, 0, 0, 0, [], 27, .iaload, 1, 0),
  (6, 18, 0, 0, [], 28, .goto 4, 3, 0),
  (2, 0, 0, 4294967295, [], 31, .iconst (-1), 1, 0),
  (5, 0, 0, 0, [], 32, .ireturn, 1, 0)]
def m_X2_codeOrSize : am_M := (yX2_codeOrSize, cX2_codeOrSize, 2, some .int)
def t_X3_init : List ri_row := [(0, 0, 0, 0, [], 0, .aload_n 0, 1, 0),
  (59, 0, 1, 0, [], 1, .invokespecial 3, 3, 286),
  (0, 0, 0, 0, [], 4, .aload_n 0, 1, 0),
  (49, 4, 0, 0, [], 5, .new 9, 3, 287),
  (23, 0, 0, 0, [], 8, .dup, 1, 0),
  (2, 0, 0, 60, [], 9, .bipush 60, 2, 0),
  (59, 26, 0, 1, [], 11, .invokespecial 11, 3, 288),
  (14, 3, 0, 2, [], 14, .putfield 14, 3, 289),
  (21, 0, 0, 0, [], 17, .return_, 1, 0)]
def m_X3_init : am_M := (yX3_init, cX3_init, 1, none)
def t_X3_become : List ri_row := [(0, 0, 0, 0, [], 0, .aload_n 0, 1, 0),
  (3, 3, 0, 0, [], 1, .getfield 14, 3, 289),
  (0, 1, 0, 0, [], 4, .aload_n 1, 1, 0),
  (4, 29, 4, 1, [], 5, .invokevirtual 20, 3, 408),
  (0, 0, 0, 0, [], 8, .aload_n 0, 1, 0),
  (3, 3, 0, 0, [], 9, .getfield 14, 3, 289),
  (4, 33, 4, 0, [], 12, .invokevirtual 24, 3, 413),
  (0, 0, 0, 0, [], 15, .aload_n 0, 1, 0),
  (0, 0, 0, 0, [], 16, .aload_n 0, 1, 0),
  (3, 3, 0, 0, [], 17, .getfield 14, 3, 289),
  (4, 38, 4, 0, [], 20, .invokevirtual 27, 3, 421),
  (14, 3, 1, 1, [], 23, .putfield 31, 3, 291),
  (0, 0, 0, 0, [], 26, .aload_n 0, 1, 0),
  (0, 0, 0, 0, [], 27, .aload_n 0, 1, 0),
  (3, 3, 1, 0, [], 28, .getfield 31, 3, 291),
  (11, 18, 0, 0, [], 31, .ifCond .eq 7, 3, 0),
  (2, 0, 0, 4294967295, [], 34, .iconst (-1), 1, 0),
  (6, 26, 0, 0, [], 35, .goto 17, 3, 0),
  (0, 2, 0, 0, [], 38, .aload_n 2, 1, 0),
  (0, 0, 0, 0, [], 39, .aload_n 0, 1, 0),
  (3, 3, 0, 0, [], 40, .getfield 14, 3, 289),
  (0, 0, 0, 0, [], 43, .aload_n 0, 1, 0),
  (3, 3, 0, 0, [], 44, .getfield 14, 3, 289),
  (4, 11, 1, 2, [], 47, .invokevirtual 35, 3, 429),
  (2, 0, 0, 2, [], 50, .iconst 2, 1, 0),
  (36, 0, 0, 0, [], 51, .idiv, 1, 0),
  (14, 3, 2, 0, [], 52, .putfield 41, 3, 293),
  (21, 0, 0, 0, [], 55, .return_, 1, 0)]
def m_X3_become : am_M := (yX3_become, cX3_become, 3, none)
def t_X3_isSimple : List ri_row := [(0, 0, 0, 0, [], 0, .aload_n 0, 1, 0),
  (3, 3, 2, 0, [], 1, .getfield 41, 3, 293),
  (12, 5, 0, 0, [], 4, .ifCond .ne 7, 3, 0),
  (2, 0, 0, 1, [], 7, .iconst 1, 1, 0),
  (6, 6, 0, 0, [], 8, .goto 4, 3, 0),
  (2, 0, 0, 0, [], 11, .iconst 0, 1, 0),
  (5, 0, 1, 0, [], 12, .ireturn, 1, 0)]
def m_X3_isSimple : am_M := (yX3_isSimple, cX3_isSimple, 1, some .boolean)
def t_X4_init : List ri_row := [(0, 0, 0, 0, [], 0, .aload_n 0, 1, 0),
  (59, 0, 1, 0, [], 1, .invokespecial 1, 3, 112),
  (0, 0, 0, 0, [], 4, .aload_n 0, 1, 0),
  (2, 0, 0, 1, [], 5, .iconst 1, 1, 0),
  (1, 1, 0, 0, [], 6, .iload_n 1, 1, 0),
  (17, 0, 3, 0, [], 7, .invokestatic 7, 3, 113),
  (50, 0, 0, 0, [], 10, .newarray .int, 2, 0),
  (14, 4, 0, 2, [], 12, .putfield 13, 3, 116),
  (21, 0, 0, 0, [], 15, .return_, 1, 0)]
def m_X4_init : am_M := (yX4_init, cX4_init, 2, none)
def t_X4_push : List ri_row := [(0, 0, 0, 0, [], 0, .aload_n 0, 1, 0),
  (3, 4, 1, 0, [], 1, .getfield 19, 3, 120),
  (29, 20, 0, 0, [], 4, .ifCond .le 32, 3, 0),
  (0, 0, 0, 0, [], 7, .aload_n 0, 1, 0),
  (3, 4, 0, 0, [], 8, .getfield 13, 3, 116),
  (0, 0, 0, 0, [], 11, .aload_n 0, 1, 0),
  (3, 4, 1, 0, [], 12, .getfield 19, 3, 120),
  (2, 0, 0, 1, [], 15, .iconst 1, 1, 0),
  (10, 0, 0, 0, [], 16, .isub, 1, 0),
  (8, 0, 0, 0, [], 17, .iaload, 1, 0),
  (1, 1, 0, 0, [], 18, .iload_n 1, 1, 0),
  (32, 0, 0, 0, [], 19, .ineg, 1, 0),
  (18, 20, 0, 0, [], 20, .if_icmp .ne 16, 3, 0),
  (0, 0, 0, 0, [], 23, .aload_n 0, 1, 0),
  (23, 0, 0, 0, [], 24, .dup, 1, 0),
  (3, 4, 1, 0, [], 25, .getfield 19, 3, 120),
  (2, 0, 0, 1, [], 28, .iconst 1, 1, 0),
  (10, 0, 0, 0, [], 29, .isub, 1, 0),
  (14, 4, 1, 0, [], 30, .putfield 19, 3, 120),
  (6, 38, 0, 0, [], 33, .goto 35, 3, 0),
  (0, 0, 0, 0, [], 36, .aload_n 0, 1, 0),
  (3, 4, 1, 0, [], 37, .getfield 19, 3, 120),
  (0, 0, 0, 0, [], 40, .aload_n 0, 1, 0),
  (3, 4, 0, 0, [], 41, .getfield 13, 3, 116),
  (37, 0, 0, 0, [], 44, .arraylength, 1, 0),
  (13, 38, 0, 0, [], 45, .if_icmp .ge 23, 3, 0),
  (0, 0, 0, 0, [], 48, .aload_n 0, 1, 0),
  (3, 4, 0, 0, [], 49, .getfield 13, 3, 116),
  (0, 0, 0, 0, [], 52, .aload_n 0, 1, 0),
  (3, 4, 1, 0, [], 53, .getfield 19, 3, 120),
  (1, 1, 0, 0, [], 56, .iload_n 1, 1, 0),
  (22, 0, 0, 0, [], 57, .iastore, 1, 0),
  (0, 0, 0, 0, [], 58, .aload_n 0, 1, 0),
  (23, 0, 0, 0, [], 59, .dup, 1, 0),
  (3, 4, 1, 0, [], 60, .getfield 19, 3, 120),
  (2, 0, 0, 1, [], 63, .iconst 1, 1, 0),
  (7, 0, 0, 0, [], 64, .iadd, 1, 0),
  (14, 4, 1, 0, [], 65, .putfield 19, 3, 120),
  (21, 0, 0, 0, [], 68, .return_, 1, 0)]
def m_X4_push : am_M := (yX4_push, cX4_push, 2, none)
def t_X4_becomeLetter : List ri_row := [(0, 0, 0, 0, [], 0, .aload_n 0, 1, 0),
  (3, 4, 0, 0, [], 1, .getfield 13, 3, 116),
  (2, 0, 0, 0, [], 4, .iconst 0, 1, 0),
  (1, 1, 0, 0, [], 5, .iload_n 1, 1, 0),
  (22, 0, 0, 0, [], 6, .iastore, 1, 0),
  (0, 0, 0, 0, [], 7, .aload_n 0, 1, 0),
  (2, 0, 0, 1, [], 8, .iconst 1, 1, 0),
  (14, 4, 1, 0, [], 9, .putfield 19, 3, 120),
  (21, 0, 0, 0, [], 12, .return_, 1, 0)]
def m_X4_becomeLetter : am_M := (yX4_becomeLetter, cX4_becomeLetter, 2, none)
def t_X4_copy : List ri_row := [(0, 0, 0, 0, [], 0, .aload_n 0, 1, 0),
  (0, 1, 0, 0, [], 1, .aload_n 1, 1, 0),
  (3, 4, 1, 0, [], 2, .getfield 19, 3, 120),
  (0, 0, 0, 0, [], 5, .aload_n 0, 1, 0),
  (3, 4, 0, 0, [], 6, .getfield 13, 3, 116),
  (37, 0, 0, 0, [], 9, .arraylength, 1, 0),
  (17, 0, 4, 0, [], 10, .invokestatic 23, 3, 338),
  (14, 4, 1, 0, [], 13, .putfield 19, 3, 120),
  (0, 1, 0, 0, [], 16, .aload_n 1, 1, 0),
  (3, 4, 0, 0, [], 17, .getfield 13, 3, 116),
  (2, 0, 0, 0, [], 20, .iconst 0, 1, 0),
  (0, 0, 0, 0, [], 21, .aload_n 0, 1, 0),
  (3, 4, 0, 0, [], 22, .getfield 13, 3, 116),
  (2, 0, 0, 0, [], 25, .iconst 0, 1, 0),
  (0, 0, 0, 0, [], 26, .aload_n 0, 1, 0),
  (3, 4, 1, 0, [], 27, .getfield 19, 3, 120),
  (17, 0, 2, 0, [], 30, .invokestatic 26, 3, 412),
  (21, 0, 0, 0, [], 33, .return_, 1, 0)]
def m_X4_copy : am_M := (yX4_copy, cX4_copy, 2, none)
def t_X4_becomeBack : List ri_row := [(0, 0, 0, 0, [], 0, .aload_n 0, 1, 0),
  (0, 1, 0, 0, [], 1, .aload_n 1, 1, 0),
  (3, 4, 1, 0, [], 2, .getfield 19, 3, 120),
  (0, 0, 0, 0, [], 5, .aload_n 0, 1, 0),
  (3, 4, 0, 0, [], 6, .getfield 13, 3, 116),
  (37, 0, 0, 0, [], 9, .arraylength, 1, 0),
  (17, 0, 4, 0, [], 10, .invokestatic 23, 3, 338),
  (14, 4, 1, 0, [], 13, .putfield 19, 3, 120),
  (2, 0, 0, 0, [], 16, .iconst 0, 1, 0),
  (9, 2, 0, 0, [], 17, .istore_n 2, 1, 0),
  (1, 2, 0, 0, [], 18, .iload_n 2, 1, 0),
  (0, 0, 0, 0, [], 19, .aload_n 0, 1, 0),
  (3, 4, 1, 0, [], 20, .getfield 19, 3, 120),
  (13, 30, 0, 0, [], 23, .if_icmp .ge 29, 3, 0),
  (0, 0, 0, 0, [], 26, .aload_n 0, 1, 0),
  (3, 4, 0, 0, [], 27, .getfield 13, 3, 116),
  (1, 2, 0, 0, [], 30, .iload_n 2, 1, 0),
  (0, 1, 0, 0, [], 31, .aload_n 1, 1, 0),
  (3, 4, 0, 0, [], 32, .getfield 13, 3, 116),
  (0, 0, 0, 0, [], 35, .aload_n 0, 1, 0),
  (3, 4, 1, 0, [], 36, .getfield 19, 3, 120),
  (2, 0, 0, 1, [], 39, .iconst 1, 1, 0),
  (10, 0, 0, 0, [], 40, .isub, 1, 0),
  (1, 2, 0, 0, [], 41, .iload_n 2, 1, 0),
  (10, 0, 0, 0, [], 42, .isub, 1, 0),
  (8, 0, 0, 0, [], 43, .iaload, 1, 0),
  (32, 0, 0, 0, [], 44, .ineg, 1, 0),
  (22, 0, 0, 0, [], 45, .iastore, 1, 0),
  (16, 2, 0, 1, [], 46, .iinc 2 1, 3, 0),
  (6, 10, 0, 0, [], 49, .goto (-31), 3, 0),
  (21, 0, 0, 0, [], 52, .return_, 1, 0)]
def m_X4_becomeBack : am_M := (yX4_becomeBack, cX4_becomeBack, 3, none)
def t_X4_looseEnds : List ri_row := [(2, 0, 0, 0, [], 0, .iconst 0, 1, 0),
  (9, 1, 0, 0, [], 1, .istore_n 1, 1, 0),
  (1, 1, 0, 0, [], 2, .iload_n 1, 1, 0),
  (0, 0, 0, 0, [], 3, .aload_n 0, 1, 0),
  (3, 4, 1, 0, [], 4, .getfield 19, 3, 120),
  (2, 0, 0, 2, [], 7, .iconst 2, 1, 0),
  (36, 0, 0, 0, [], 8, .idiv, 1, 0),
  (13, 25, 0, 0, [], 9, .if_icmp .ge 32, 3, 0),
  (0, 0, 0, 0, [], 12, .aload_n 0, 1, 0),
  (3, 4, 0, 0, [], 13, .getfield 13, 3, 116),
  (1, 1, 0, 0, [], 16, .iload_n 1, 1, 0),
  (8, 0, 0, 0, [], 17, .iaload, 1, 0),
  (0, 0, 0, 0, [], 18, .aload_n 0, 1, 0),
  (3, 4, 0, 0, [], 19, .getfield 13, 3, 116),
  (0, 0, 0, 0, [], 22, .aload_n 0, 1, 0),
  (3, 4, 1, 0, [], 23, .getfield 19, 3, 120),
  (2, 0, 0, 1, [], 26, .iconst 1, 1, 0),
  (10, 0, 0, 0, [], 27, .isub, 1, 0),
  (1, 1, 0, 0, [], 28, .iload_n 1, 1, 0),
  (10, 0, 0, 0, [], 29, .isub, 1, 0),
  (8, 0, 0, 0, [], 30, .iaload, 1, 0),
  (32, 0, 0, 0, [], 31, .ineg, 1, 0),
  (18, 25, 0, 0, [], 32, .if_icmp .ne 9, 3, 0),
  (16, 1, 0, 1, [], 35, .iinc 1 1, 3, 0),
  (6, 2, 0, 0, [], 38, .goto (-36), 3, 0),
  (1, 1, 0, 0, [], 41, .iload_n 1, 1, 0),
  (5, 0, 0, 0, [], 42, .ireturn, 1, 0)]
def m_X4_looseEnds : am_M := (yX4_looseEnds, cX4_looseEnds, 2, some .int)
def t_X4_closedSize : List ri_row := [(0, 0, 0, 0, [], 0, .aload_n 0, 1, 0),
  (3, 4, 1, 0, [], 1, .getfield 19, 3, 120),
  (2, 0, 0, 2, [], 4, .iconst 2, 1, 0),
  (0, 0, 0, 0, [], 5, .aload_n 0, 1, 0),
  (4, 31, 4, 0, [], 6, .invokevirtual 32, 3, 417),
  (15, 0, 0, 0, [], 9, .imul, 1, 0),
  (10, 0, 0, 0, [], 10, .isub, 1, 0),
  (5, 0, 0, 0, [], 11, .ireturn, 1, 0)]
def m_X4_closedSize : am_M := (yX4_closedSize, cX4_closedSize, 1, some .int)
def t_X4_close : List ri_row := [(0, 0, 0, 0, [], 0, .aload_n 0, 1, 0),
  (4, 31, 4, 0, [], 1, .invokevirtual 32, 3, 417),
  (9, 1, 0, 0, [], 4, .istore_n 1, 1, 0),
  (0, 0, 0, 0, [], 5, .aload_n 0, 1, 0),
  (23, 0, 0, 0, [], 6, .dup, 1, 0),
  (3, 4, 1, 0, [], 7, .getfield 19, 3, 120),
  (2, 0, 0, 2, [], 10, .iconst 2, 1, 0),
  (1, 1, 0, 0, [], 11, .iload_n 1, 1, 0),
  (15, 0, 0, 0, [], 12, .imul, 1, 0),
  (10, 0, 0, 0, [], 13, .isub, 1, 0),
  (14, 4, 1, 0, [], 14, .putfield 19, 3, 120),
  (0, 0, 0, 0, [], 17, .aload_n 0, 1, 0),
  (3, 4, 0, 0, [], 18, .getfield 13, 3, 116),
  (1, 1, 0, 0, [], 21, .iload_n 1, 1, 0),
  (0, 0, 0, 0, [], 22, .aload_n 0, 1, 0),
  (3, 4, 0, 0, [], 23, .getfield 13, 3, 116),
  (2, 0, 0, 0, [], 26, .iconst 0, 1, 0),
  (0, 0, 0, 0, [], 27, .aload_n 0, 1, 0),
  (3, 4, 1, 0, [], 28, .getfield 19, 3, 120),
  (17, 0, 2, 0, [], 31, .invokestatic 26, 3, 412),
  (21, 0, 0, 0, [], 34, .return_, 1, 0)]
def m_X4_close : am_M := (yX4_close, cX4_close, 2, none)
def t_X4_isLike : List ri_row := [(0, 0, 0, 0, [], 0, .aload_n 0, 1, 0),
  (3, 4, 1, 0, [], 1, .getfield 19, 3, 120),
  (0, 1, 0, 0, [], 4, .aload_n 1, 1, 0),
  (3, 4, 1, 0, [], 5, .getfield 19, 3, 120),
  (19, 7, 0, 0, [], 8, .if_icmp .eq 5, 3, 0),
  (2, 0, 0, 0, [], 11, .iconst 0, 1, 0),
  (5, 0, 1, 0, [], 12, .ireturn, 1, 0),
  (2, 0, 0, 0, [], 13, .iconst 0, 1, 0),
  (9, 2, 0, 0, [], 14, .istore_n 2, 1, 0),
  (1, 2, 0, 0, [], 15, .iload_n 2, 1, 0),
  (0, 0, 0, 0, [], 16, .aload_n 0, 1, 0),
  (3, 4, 1, 0, [], 17, .getfield 19, 3, 120),
  (13, 26, 0, 0, [], 20, .if_icmp .ge 26, 3, 0),
  (0, 0, 0, 0, [], 23, .aload_n 0, 1, 0),
  (3, 4, 0, 0, [], 24, .getfield 13, 3, 116),
  (1, 2, 0, 0, [], 27, .iload_n 2, 1, 0),
  (8, 0, 0, 0, [], 28, .iaload, 1, 0),
  (0, 1, 0, 0, [], 29, .aload_n 1, 1, 0),
  (3, 4, 0, 0, [], 30, .getfield 13, 3, 116),
  (1, 2, 0, 0, [], 33, .iload_n 2, 1, 0),
  (8, 0, 0, 0, [], 34, .iaload, 1, 0),
  (19, 24, 0, 0, [], 35, .if_icmp .eq 5, 3, 0),
  (2, 0, 0, 0, [], 38, .iconst 0, 1, 0),
  (5, 0, 1, 0, [], 39, .ireturn, 1, 0),
  (16, 2, 0, 1, [], 40, .iinc 2 1, 3, 0),
  (6, 9, 0, 0, [], 43, .goto (-28), 3, 0),
  (2, 0, 0, 1, [], 46, .iconst 1, 1, 0),
  (5, 0, 1, 0, [], 47, .ireturn, 1, 0)]
def m_X4_isLike : am_M := (yX4_isLike, cX4_isLike, 3, some .boolean)
def t_X4_isOneWith : List ri_row := [(0, 0, 0, 0, [], 0, .aload_n 0, 1, 0),
  (4, 31, 4, 0, [], 1, .invokevirtual 32, 3, 417),
  (9, 2, 0, 0, [], 4, .istore_n 2, 1, 0),
  (0, 0, 0, 0, [], 5, .aload_n 0, 1, 0),
  (3, 4, 1, 0, [], 6, .getfield 19, 3, 120),
  (2, 0, 0, 2, [], 9, .iconst 2, 1, 0),
  (1, 2, 0, 0, [], 10, .iload_n 2, 1, 0),
  (15, 0, 0, 0, [], 11, .imul, 1, 0),
  (10, 0, 0, 0, [], 12, .isub, 1, 0),
  (0, 1, 0, 0, [], 13, .aload_n 1, 1, 0),
  (3, 4, 1, 0, [], 14, .getfield 19, 3, 120),
  (19, 14, 0, 0, [], 17, .if_icmp .eq 5, 3, 0),
  (2, 0, 0, 0, [], 20, .iconst 0, 1, 0),
  (5, 0, 1, 0, [], 21, .ireturn, 1, 0),
  (2, 0, 0, 0, [], 22, .iconst 0, 1, 0),
  (9, 3, 0, 0, [], 23, .istore_n 3, 1, 0),
  (1, 3, 0, 0, [], 24, .iload_n 3, 1, 0),
  (0, 1, 0, 0, [], 25, .aload_n 1, 1, 0),
  (3, 4, 1, 0, [], 26, .getfield 19, 3, 120),
  (13, 36, 0, 0, [], 29, .if_icmp .ge 31, 3, 0),
  (0, 0, 0, 0, [], 32, .aload_n 0, 1, 0),
  (1, 2, 0, 0, [], 33, .iload_n 2, 1, 0),
  (0, 1, 0, 0, [], 34, .aload_n 1, 1, 0),
  (1, 3, 0, 0, [], 35, .iload_n 3, 1, 0),
  (4, 36, 4, 3, [], 36, .invokevirtual 36, 3, 483),
  (12, 32, 0, 0, [], 39, .ifCond .ne 13, 3, 0),
  (0, 0, 0, 0, [], 42, .aload_n 0, 1, 0),
  (1, 2, 0, 0, [], 43, .iload_n 2, 1, 0),
  (0, 1, 0, 0, [], 44, .aload_n 1, 1, 0),
  (1, 3, 0, 0, [], 45, .iload_n 3, 1, 0),
  (4, 37, 4, 3, [], 46, .invokevirtual 40, 3, 487),
  (11, 34, 0, 0, [], 49, .ifCond .eq 5, 3, 0),
  (2, 0, 0, 1, [], 52, .iconst 1, 1, 0),
  (5, 0, 1, 0, [], 53, .ireturn, 1, 0),
  (16, 3, 0, 1, [], 54, .iinc 3 1, 3, 0),
  (6, 16, 0, 0, [], 57, .goto (-33), 3, 0),
  (2, 0, 0, 0, [], 60, .iconst 0, 1, 0),
  (5, 0, 1, 0, [], 61, .ireturn, 1, 0)]
def m_X4_isOneWith : am_M := (yX4_isOneWith, cX4_isOneWith, 4, some .boolean)
def t_X4_runsAlong : List ri_row := [(1, 3, 0, 0, [], 0, .iload_n 3, 1, 0),
  (9, 4, 0, 0, [], 1, .istore 4, 2, 0),
  (2, 0, 0, 0, [], 3, .iconst 0, 1, 0),
  (9, 5, 0, 0, [], 4, .istore 5, 2, 0),
  (1, 5, 0, 0, [], 6, .iload 5, 2, 0),
  (0, 2, 0, 0, [], 8, .aload_n 2, 1, 0),
  (3, 4, 1, 0, [], 9, .getfield 19, 3, 120),
  (13, 35, 0, 0, [], 12, .if_icmp .ge 51, 3, 0),
  (0, 0, 0, 0, [], 15, .aload_n 0, 1, 0),
  (3, 4, 0, 0, [], 16, .getfield 13, 3, 116),
  (1, 1, 0, 0, [], 19, .iload_n 1, 1, 0),
  (1, 5, 0, 0, [], 20, .iload 5, 2, 0),
  (7, 0, 0, 0, [], 22, .iadd, 1, 0),
  (8, 0, 0, 0, [], 23, .iaload, 1, 0),
  (0, 2, 0, 0, [], 24, .aload_n 2, 1, 0),
  (3, 4, 0, 0, [], 25, .getfield 13, 3, 116),
  (1, 4, 0, 0, [], 28, .iload 4, 2, 0),
  (8, 0, 0, 0, [], 30, .iaload, 1, 0),
  (19, 21, 0, 0, [], 31, .if_icmp .eq 5, 3, 0),
  (2, 0, 0, 0, [], 34, .iconst 0, 1, 0),
  (5, 0, 1, 0, [], 35, .ireturn, 1, 0),
  (1, 4, 0, 0, [], 36, .iload 4, 2, 0),
  (2, 0, 0, 1, [], 38, .iconst 1, 1, 0),
  (7, 0, 0, 0, [], 39, .iadd, 1, 0),
  (0, 2, 0, 0, [], 40, .aload_n 2, 1, 0),
  (3, 4, 1, 0, [], 41, .getfield 19, 3, 120),
  (18, 29, 0, 0, [], 44, .if_icmp .ne 7, 3, 0),
  (2, 0, 0, 0, [], 47, .iconst 0, 1, 0),
  (6, 32, 0, 0, [], 48, .goto 7, 3, 0),
  (1, 4, 0, 0, [], 51, .iload 4, 2, 0),
  (2, 0, 0, 1, [], 53, .iconst 1, 1, 0),
  (7, 0, 0, 0, [], 54, .iadd, 1, 0),
  (9, 4, 0, 0, [], 55, .istore 4, 2, 0),
  (16, 5, 0, 1, [], 57, .iinc 5 1, 3, 0),
  (6, 4, 0, 0, [], 60, .goto (-54), 3, 0),
  (2, 0, 0, 1, [], 63, .iconst 1, 1, 0),
  (5, 0, 1, 0, [], 64, .ireturn, 1, 0)]
def m_X4_runsAlong : am_M := (yX4_runsAlong, cX4_runsAlong, 6, some .boolean)
def t_X4_runsAgainst : List ri_row := [(1, 3, 0, 0, [], 0, .iload_n 3, 1, 0),
  (9, 4, 0, 0, [], 1, .istore 4, 2, 0),
  (2, 0, 0, 0, [], 3, .iconst 0, 1, 0),
  (9, 5, 0, 0, [], 4, .istore 5, 2, 0),
  (1, 5, 0, 0, [], 6, .iload 5, 2, 0),
  (0, 2, 0, 0, [], 8, .aload_n 2, 1, 0),
  (3, 4, 1, 0, [], 9, .getfield 19, 3, 120),
  (13, 35, 0, 0, [], 12, .if_icmp .ge 51, 3, 0),
  (0, 0, 0, 0, [], 15, .aload_n 0, 1, 0),
  (3, 4, 0, 0, [], 16, .getfield 13, 3, 116),
  (1, 1, 0, 0, [], 19, .iload_n 1, 1, 0),
  (1, 5, 0, 0, [], 20, .iload 5, 2, 0),
  (7, 0, 0, 0, [], 22, .iadd, 1, 0),
  (8, 0, 0, 0, [], 23, .iaload, 1, 0),
  (0, 2, 0, 0, [], 24, .aload_n 2, 1, 0),
  (3, 4, 0, 0, [], 25, .getfield 13, 3, 116),
  (1, 4, 0, 0, [], 28, .iload 4, 2, 0),
  (8, 0, 0, 0, [], 30, .iaload, 1, 0),
  (32, 0, 0, 0, [], 31, .ineg, 1, 0),
  (19, 22, 0, 0, [], 32, .if_icmp .eq 5, 3, 0),
  (2, 0, 0, 0, [], 35, .iconst 0, 1, 0),
  (5, 0, 1, 0, [], 36, .ireturn, 1, 0),
  (1, 4, 0, 0, [], 37, .iload 4, 2, 0),
  (12, 29, 0, 0, [], 39, .ifCond .ne 12, 3, 0),
  (0, 2, 0, 0, [], 42, .aload_n 2, 1, 0),
  (3, 4, 1, 0, [], 43, .getfield 19, 3, 120),
  (2, 0, 0, 1, [], 46, .iconst 1, 1, 0),
  (10, 0, 0, 0, [], 47, .isub, 1, 0),
  (6, 32, 0, 0, [], 48, .goto 7, 3, 0),
  (1, 4, 0, 0, [], 51, .iload 4, 2, 0),
  (2, 0, 0, 1, [], 53, .iconst 1, 1, 0),
  (10, 0, 0, 0, [], 54, .isub, 1, 0),
  (9, 4, 0, 0, [], 55, .istore 4, 2, 0),
  (16, 5, 0, 1, [], 57, .iinc 5 1, 3, 0),
  (6, 4, 0, 0, [], 60, .goto (-54), 3, 0),
  (2, 0, 0, 1, [], 63, .iconst 1, 1, 0),
  (5, 0, 1, 0, [], 64, .ireturn, 1, 0)]
def m_X4_runsAgainst : am_M := (yX4_runsAgainst, cX4_runsAgainst, 6, some .boolean)
def t_X4_isPower : List ri_row := [(2, 0, 0, 1, [], 0, .iconst 1, 1, 0),
  (9, 1, 0, 0, [], 1, .istore_n 1, 1, 0),
  (1, 1, 0, 0, [], 2, .iload_n 1, 1, 0),
  (0, 0, 0, 0, [], 3, .aload_n 0, 1, 0),
  (3, 4, 1, 0, [], 4, .getfield 19, 3, 120),
  (2, 0, 0, 2, [], 7, .iconst 2, 1, 0),
  (36, 0, 0, 0, [], 8, .idiv, 1, 0),
  (25, 21, 0, 0, [], 9, .if_icmp .gt 28, 3, 0),
  (0, 0, 0, 0, [], 12, .aload_n 0, 1, 0),
  (3, 4, 1, 0, [], 13, .getfield 19, 3, 120),
  (1, 1, 0, 0, [], 16, .iload_n 1, 1, 0),
  (34, 0, 0, 0, [], 17, .irem, 1, 0),
  (12, 19, 0, 0, [], 18, .ifCond .ne 13, 3, 0),
  (0, 0, 0, 0, [], 21, .aload_n 0, 1, 0),
  (1, 1, 0, 0, [], 22, .iload_n 1, 1, 0),
  (4, 39, 4, 1, [], 23, .invokevirtual 43, 3, 425),
  (11, 19, 0, 0, [], 26, .ifCond .eq 5, 3, 0),
  (2, 0, 0, 1, [], 29, .iconst 1, 1, 0),
  (5, 0, 1, 0, [], 30, .ireturn, 1, 0),
  (16, 1, 0, 1, [], 31, .iinc 1 1, 3, 0),
  (6, 2, 0, 0, [], 34, .goto (-32), 3, 0),
  (2, 0, 0, 0, [], 37, .iconst 0, 1, 0),
  (5, 0, 1, 0, [], 38, .ireturn, 1, 0)]
def m_X4_isPower : am_M := (yX4_isPower, cX4_isPower, 2, some .boolean)
def t_X4_repeats : List ri_row := [(1, 1, 0, 0, [], 0, .iload_n 1, 1, 0),
  (9, 2, 0, 0, [], 1, .istore_n 2, 1, 0),
  (1, 2, 0, 0, [], 2, .iload_n 2, 1, 0),
  (0, 0, 0, 0, [], 3, .aload_n 0, 1, 0),
  (3, 4, 1, 0, [], 4, .getfield 19, 3, 120),
  (13, 21, 0, 0, [], 7, .if_icmp .ge 28, 3, 0),
  (0, 0, 0, 0, [], 10, .aload_n 0, 1, 0),
  (3, 4, 0, 0, [], 11, .getfield 13, 3, 116),
  (1, 2, 0, 0, [], 14, .iload_n 2, 1, 0),
  (8, 0, 0, 0, [], 15, .iaload, 1, 0),
  (0, 0, 0, 0, [], 16, .aload_n 0, 1, 0),
  (3, 4, 0, 0, [], 17, .getfield 13, 3, 116),
  (1, 2, 0, 0, [], 20, .iload_n 2, 1, 0),
  (1, 1, 0, 0, [], 21, .iload_n 1, 1, 0),
  (10, 0, 0, 0, [], 22, .isub, 1, 0),
  (8, 0, 0, 0, [], 23, .iaload, 1, 0),
  (19, 19, 0, 0, [], 24, .if_icmp .eq 5, 3, 0),
  (2, 0, 0, 0, [], 27, .iconst 0, 1, 0),
  (5, 0, 1, 0, [], 28, .ireturn, 1, 0),
  (16, 2, 0, 1, [], 29, .iinc 2 1, 3, 0),
  (6, 2, 0, 0, [], 32, .goto (-30), 3, 0),
  (2, 0, 0, 1, [], 35, .iconst 1, 1, 0),
  (5, 0, 1, 0, [], 36, .ireturn, 1, 0)]
def m_X4_repeats : am_M := (yX4_repeats, cX4_repeats, 3, some .boolean)
def t_X4_balanceOf : List ri_row := [(2, 0, 0, 0, [], 0, .iconst 0, 1, 0),
  (9, 2, 0, 0, [], 1, .istore_n 2, 1, 0),
  (2, 0, 0, 0, [], 2, .iconst 0, 1, 0),
  (9, 3, 0, 0, [], 3, .istore_n 3, 1, 0),
  (1, 3, 0, 0, [], 4, .iload_n 3, 1, 0),
  (0, 0, 0, 0, [], 5, .aload_n 0, 1, 0),
  (3, 4, 1, 0, [], 6, .getfield 19, 3, 120),
  (13, 26, 0, 0, [], 9, .if_icmp .ge 39, 3, 0),
  (0, 0, 0, 0, [], 12, .aload_n 0, 1, 0),
  (3, 4, 0, 0, [], 13, .getfield 13, 3, 116),
  (1, 3, 0, 0, [], 16, .iload_n 3, 1, 0),
  (8, 0, 0, 0, [], 17, .iaload, 1, 0),
  (1, 1, 0, 0, [], 18, .iload_n 1, 1, 0),
  (18, 16, 0, 0, [], 19, .if_icmp .ne 9, 3, 0),
  (16, 2, 0, 1, [], 22, .iinc 2 1, 3, 0),
  (6, 24, 0, 0, [], 25, .goto 17, 3, 0),
  (0, 0, 0, 0, [], 28, .aload_n 0, 1, 0),
  (3, 4, 0, 0, [], 29, .getfield 13, 3, 116),
  (1, 3, 0, 0, [], 32, .iload_n 3, 1, 0),
  (8, 0, 0, 0, [], 33, .iaload, 1, 0),
  (1, 1, 0, 0, [], 34, .iload_n 1, 1, 0),
  (32, 0, 0, 0, [], 35, .ineg, 1, 0),
  (18, 24, 0, 0, [], 36, .if_icmp .ne 6, 3, 0),
  (16, 2, 0, 4294967295, [], 39, .iinc 2 (-1), 3, 0),
  (16, 3, 0, 1, [], 42, .iinc 3 1, 3, 0),
  (6, 4, 0, 0, [], 45, .goto (-41), 3, 0),
  (1, 2, 0, 0, [], 48, .iload_n 2, 1, 0),
  (5, 0, 0, 0, [], 49, .ireturn, 1, 0)]
def m_X4_balanceOf : am_M := (yX4_balanceOf, cX4_balanceOf, 4, some .int)
def t_X5_init : List ri_row := [(0, 0, 0, 0, [], 0, .aload_n 0, 1, 0),
  (59, 0, 1, 0, [], 1, .invokespecial 3, 3, 199),
  (0, 0, 0, 0, [], 4, .aload_n 0, 1, 0),
  (2, 0, 0, 4, [], 5, .iconst 4, 1, 0),
  (52, 2, 0, 0, [], 6, .anewarray 9, 3, 200),
  (14, 5, 2, 2, [], 9, .putfield 11, 3, 204),
  (0, 0, 0, 0, [], 12, .aload_n 0, 1, 0),
  (2, 0, 0, 16, [], 13, .bipush 16, 2, 0),
  (50, 0, 0, 0, [], 15, .newarray .int, 2, 0),
  (14, 5, 3, 2, [], 17, .putfield 17, 3, 205),
  (0, 0, 0, 0, [], 20, .aload_n 0, 1, 0),
  (49, 4, 0, 0, [], 21, .new 9, 3, 200),
  (23, 0, 0, 0, [], 24, .dup, 1, 0),
  (2, 0, 0, 60, [], 25, .bipush 60, 2, 0),
  (59, 26, 0, 1, [], 27, .invokespecial 21, 3, 201),
  (14, 5, 4, 2, [], 30, .putfield 24, 3, 206),
  (0, 0, 0, 0, [], 33, .aload_n 0, 1, 0),
  (0, 1, 0, 0, [], 34, .aload_n 1, 1, 0),
  (14, 5, 0, 2, [], 35, .putfield 28, 3, 202),
  (0, 0, 0, 0, [], 38, .aload_n 0, 1, 0),
  (0, 2, 0, 0, [], 39, .aload_n 2, 1, 0),
  (14, 5, 1, 2, [], 40, .putfield 32, 3, 203),
  (2, 0, 0, 0, [], 43, .iconst 0, 1, 0),
  (9, 3, 0, 0, [], 44, .istore_n 3, 1, 0),
  (1, 3, 0, 0, [], 45, .iload_n 3, 1, 0),
  (2, 0, 0, 3, [], 46, .iconst 3, 1, 0),
  (25, 37, 0, 0, [], 47, .if_icmp .gt 25, 3, 0),
  (0, 0, 0, 0, [], 50, .aload_n 0, 1, 0),
  (3, 5, 2, 0, [], 51, .getfield 11, 3, 204),
  (1, 3, 0, 0, [], 54, .iload_n 3, 1, 0),
  (49, 4, 0, 0, [], 55, .new 9, 3, 200),
  (23, 0, 0, 0, [], 58, .dup, 1, 0),
  (2, 0, 0, 400, [], 59, .sipush 400, 3, 0),
  (59, 26, 0, 1, [], 62, .invokespecial 21, 3, 201),
  (53, 0, 0, 0, [], 65, .aastore, 1, 0),
  (16, 3, 0, 1, [], 66, .iinc 3 1, 3, 0),
  (6, 24, 0, 0, [], 69, .goto (-24), 3, 0),
  (21, 0, 0, 0, [], 72, .return_, 1, 0)]
def m_X5_init : am_M := (yX5_init, cX5_init, 4, none)
def t_X5_forCarrying : List ri_row := [(0, 0, 0, 0, [], 0, .aload_n 0, 1, 0),
  (3, 5, 4, 0, [], 1, .getfield 24, 3, 206),
  (0, 2, 0, 0, [], 4, .aload_n 2, 1, 0),
  (4, 29, 4, 1, [], 5, .invokevirtual 36, 3, 737),
  (0, 0, 0, 0, [], 8, .aload_n 0, 1, 0),
  (4, 43, 5, 0, [], 9, .invokevirtual 40, 3, 738),
  (0, 0, 0, 0, [], 12, .aload_n 0, 1, 0),
  (3, 5, 2, 0, [], 13, .getfield 11, 3, 204),
  (2, 0, 0, 0, [], 16, .iconst 0, 1, 0),
  (20, 0, 0, 0, [], 17, .aaload, 1, 0),
  (0, 1, 0, 0, [], 18, .aload_n 1, 1, 0),
  (4, 29, 4, 1, [], 19, .invokevirtual 36, 3, 737),
  (0, 1, 0, 0, [], 22, .aload_n 1, 1, 0),
  (0, 2, 0, 0, [], 23, .aload_n 2, 1, 0),
  (4, 35, 4, 1, [], 24, .invokevirtual 43, 3, 747),
  (11, 21, 0, 0, [], 27, .ifCond .eq 11, 3, 0),
  (0, 4, 0, 0, [], 30, .aload 4, 2, 0),
  (2, 0, 0, 0, [], 32, .iconst 0, 1, 0),
  (14, 2, 1, 0, [], 33, .putfield 47, 3, 238),
  (2, 0, 0, 1, [], 36, .iconst 1, 1, 0),
  (5, 0, 1, 0, [], 37, .ireturn, 1, 0),
  (2, 0, 0, 1, [], 38, .iconst 1, 1, 0),
  (9, 5, 0, 0, [], 39, .istore 5, 2, 0),
  (1, 5, 0, 0, [], 41, .iload 5, 2, 0),
  (1, 3, 0, 0, [], 43, .iload_n 3, 1, 0),
  (25, 49, 0, 0, [], 44, .if_icmp .gt 45, 3, 0),
  (0, 0, 0, 0, [], 47, .aload_n 0, 1, 0),
  (2, 0, 0, 4294967295, [], 48, .iconst (-1), 1, 0),
  (14, 5, 5, 0, [], 49, .putfield 53, 3, 207),
  (0, 0, 0, 0, [], 52, .aload_n 0, 1, 0),
  (2, 0, 0, 0, [], 53, .iconst 0, 1, 0),
  (1, 5, 0, 0, [], 54, .iload 5, 2, 0),
  (2, 0, 0, 0, [], 56, .iconst 0, 1, 0),
  (2, 0, 0, 1, [], 57, .iconst 1, 1, 0),
  (4, 44, 5, 4, [], 58, .invokevirtual 56, 3, 748),
  (0, 0, 0, 0, [], 61, .aload_n 0, 1, 0),
  (3, 5, 5, 0, [], 62, .getfield 53, 3, 207),
  (2, 0, 0, 4294967295, [], 65, .iconst (-1), 1, 0),
  (19, 47, 0, 0, [], 66, .if_icmp .eq 17, 3, 0),
  (0, 0, 0, 0, [], 69, .aload_n 0, 1, 0),
  (0, 0, 0, 0, [], 70, .aload_n 0, 1, 0),
  (3, 5, 5, 0, [], 71, .getfield 53, 3, 207),
  (1, 5, 0, 0, [], 74, .iload 5, 2, 0),
  (0, 4, 0, 0, [], 76, .aload 4, 2, 0),
  (4, 45, 5, 3, [], 78, .invokevirtual 60, 3, 752),
  (2, 0, 0, 1, [], 81, .iconst 1, 1, 0),
  (5, 0, 1, 0, [], 82, .ireturn, 1, 0),
  (16, 5, 0, 1, [], 83, .iinc 5 1, 3, 0),
  (6, 23, 0, 0, [], 86, .goto (-45), 3, 0),
  (2, 0, 0, 0, [], 89, .iconst 0, 1, 0),
  (5, 0, 1, 0, [], 90, .ireturn, 1, 0)]
def m_X5_forCarrying : am_M := (yX5_forCarrying, cX5_forCarrying, 6, some .boolean)
def t_X5_measureAhead : List ri_row := [(2, 0, 0, 0, [], 0, .iconst 0, 1, 0),
  (9, 1, 0, 0, [], 1, .istore_n 1, 1, 0),
  (1, 1, 0, 0, [], 2, .iload_n 1, 1, 0),
  (2, 0, 0, 2, [], 3, .iconst 2, 1, 0),
  (0, 0, 0, 0, [], 4, .aload_n 0, 1, 0),
  (3, 5, 0, 0, [], 5, .getfield 28, 3, 202),
  (3, 7, 0, 0, [], 8, .getfield 64, 3, 140),
  (15, 0, 0, 0, [], 11, .imul, 1, 0),
  (13, 40, 0, 0, [], 12, .if_icmp .ge 60, 3, 0),
  (0, 0, 0, 0, [], 15, .aload_n 0, 1, 0),
  (3, 5, 2, 0, [], 16, .getfield 11, 3, 204),
  (2, 0, 0, 0, [], 19, .iconst 0, 1, 0),
  (20, 0, 0, 0, [], 20, .aaload, 1, 0),
  (0, 0, 0, 0, [], 21, .aload_n 0, 1, 0),
  (3, 5, 4, 0, [], 22, .getfield 24, 3, 206),
  (4, 29, 4, 1, [], 25, .invokevirtual 36, 3, 737),
  (0, 0, 0, 0, [], 28, .aload_n 0, 1, 0),
  (3, 5, 3, 0, [], 29, .getfield 17, 3, 205),
  (1, 1, 0, 0, [], 32, .iload_n 1, 1, 0),
  (0, 0, 0, 0, [], 33, .aload_n 0, 1, 0),
  (3, 5, 0, 0, [], 34, .getfield 28, 3, 202),
  (1, 1, 0, 0, [], 37, .iload_n 1, 1, 0),
  (2, 0, 0, 1, [], 38, .iconst 1, 1, 0),
  (45, 0, 0, 0, [], 39, .ixor, 1, 0),
  (0, 0, 0, 0, [], 40, .aload_n 0, 1, 0),
  (3, 5, 2, 0, [], 41, .getfield 11, 3, 204),
  (2, 0, 0, 0, [], 44, .iconst 0, 1, 0),
  (20, 0, 0, 0, [], 45, .aaload, 1, 0),
  (4, 65, 7, 2, [], 46, .invokevirtual 69, 3, 742),
  (11, 36, 0, 0, [], 49, .ifCond .eq 15, 3, 0),
  (0, 0, 0, 0, [], 52, .aload_n 0, 1, 0),
  (3, 5, 2, 0, [], 53, .getfield 11, 3, 204),
  (2, 0, 0, 0, [], 56, .iconst 0, 1, 0),
  (20, 0, 0, 0, [], 57, .aaload, 1, 0),
  (4, 32, 4, 0, [], 58, .invokevirtual 73, 3, 743),
  (6, 37, 0, 0, [], 61, .goto 4, 3, 0),
  (2, 0, 0, 4294967295, [], 64, .iconst (-1), 1, 0),
  (22, 0, 0, 0, [], 65, .iastore, 1, 0),
  (16, 1, 0, 1, [], 66, .iinc 1 1, 3, 0),
  (6, 2, 0, 0, [], 69, .goto (-67), 3, 0),
  (21, 0, 0, 0, [], 72, .return_, 1, 0)]
def m_X5_measureAhead : am_M := (yX5_measureAhead, cX5_measureAhead, 2, none)
def t_X5_tryTwists : List ri_row := [(1, 1, 0, 0, [], 0, .iload_n 1, 1, 0),
  (28, 10, 0, 0, [], 1, .ifCond .lt 17, 3, 0),
  (1, 1, 0, 0, [], 4, .iload_n 1, 1, 0),
  (1, 2, 0, 0, [], 5, .iload_n 2, 1, 0),
  (13, 10, 0, 0, [], 6, .if_icmp .ge 12, 3, 0),
  (1, 2, 0, 0, [], 9, .iload_n 2, 1, 0),
  (0, 0, 0, 0, [], 10, .aload_n 0, 1, 0),
  (3, 5, 2, 0, [], 11, .getfield 11, 3, 204),
  (37, 0, 0, 0, [], 14, .arraylength, 1, 0),
  (26, 11, 0, 0, [], 15, .if_icmp .lt 4, 3, 0),
  (21, 0, 0, 0, [], 18, .return_, 1, 0),
  (1, 1, 0, 0, [], 19, .iload_n 1, 1, 0),
  (2, 0, 0, 1, [], 20, .iconst 1, 1, 0),
  (7, 0, 0, 0, [], 21, .iadd, 1, 0),
  (1, 2, 0, 0, [], 22, .iload_n 2, 1, 0),
  (18, 18, 0, 0, [], 23, .if_icmp .ne 7, 3, 0),
  (2, 0, 0, 1, [], 26, .iconst 1, 1, 0),
  (6, 19, 0, 0, [], 27, .goto 4, 3, 0),
  (2, 0, 0, 0, [], 30, .iconst 0, 1, 0),
  (9, 5, 0, 0, [], 31, .istore 5, 2, 0),
  (0, 0, 0, 0, [], 33, .aload_n 0, 1, 0),
  (3, 5, 2, 0, [], 34, .getfield 11, 3, 204),
  (1, 1, 0, 0, [], 37, .iload_n 1, 1, 0),
  (20, 0, 0, 0, [], 38, .aaload, 1, 0),
  (4, 32, 4, 0, [], 39, .invokevirtual 73, 3, 743),
  (9, 6, 0, 0, [], 42, .istore 6, 2, 0),
  (2, 0, 0, 0, [], 44, .iconst 0, 1, 0),
  (9, 7, 0, 0, [], 45, .istore 7, 2, 0),
  (1, 7, 0, 0, [], 47, .iload 7, 2, 0),
  (2, 0, 0, 2, [], 49, .iconst 2, 1, 0),
  (0, 0, 0, 0, [], 50, .aload_n 0, 1, 0),
  (3, 5, 0, 0, [], 51, .getfield 28, 3, 202),
  (3, 7, 0, 0, [], 54, .getfield 64, 3, 140),
  (15, 0, 0, 0, [], 57, .imul, 1, 0),
  (13, 114, 0, 0, [], 58, .if_icmp .ge 158, 3, 0),
  (1, 3, 0, 0, [], 61, .iload_n 3, 1, 0),
  (1, 7, 0, 0, [], 62, .iload 7, 2, 0),
  (1, 4, 0, 0, [], 64, .iload 4, 2, 0),
  (15, 0, 0, 0, [], 66, .imul, 1, 0),
  (7, 0, 0, 0, [], 67, .iadd, 1, 0),
  (9, 8, 0, 0, [], 68, .istore 8, 2, 0),
  (1, 5, 0, 0, [], 70, .iload 5, 2, 0),
  (11, 52, 0, 0, [], 72, .ifCond .eq 21, 3, 0),
  (0, 0, 0, 0, [], 75, .aload_n 0, 1, 0),
  (3, 5, 5, 0, [], 76, .getfield 53, 3, 207),
  (2, 0, 0, 4294967295, [], 79, .iconst (-1), 1, 0),
  (19, 52, 0, 0, [], 80, .if_icmp .eq 13, 3, 0),
  (1, 8, 0, 0, [], 83, .iload 8, 2, 0),
  (0, 0, 0, 0, [], 85, .aload_n 0, 1, 0),
  (3, 5, 5, 0, [], 86, .getfield 53, 3, 207),
  (26, 52, 0, 0, [], 89, .if_icmp .lt 4, 3, 0),
  (21, 0, 0, 0, [], 92, .return_, 1, 0),
  (1, 5, 0, 0, [], 93, .iload 5, 2, 0),
  (11, 67, 0, 0, [], 95, .ifCond .eq 29, 3, 0),
  (0, 0, 0, 0, [], 98, .aload_n 0, 1, 0),
  (3, 5, 3, 0, [], 99, .getfield 17, 3, 205),
  (1, 7, 0, 0, [], 102, .iload 7, 2, 0),
  (8, 0, 0, 0, [], 104, .iaload, 1, 0),
  (2, 0, 0, 4294967295, [], 105, .iconst (-1), 1, 0),
  (19, 67, 0, 0, [], 106, .if_icmp .eq 18, 3, 0),
  (0, 0, 0, 0, [], 109, .aload_n 0, 1, 0),
  (3, 5, 3, 0, [], 110, .getfield 17, 3, 205),
  (1, 7, 0, 0, [], 113, .iload 7, 2, 0),
  (8, 0, 0, 0, [], 115, .iaload, 1, 0),
  (1, 6, 0, 0, [], 116, .iload 6, 2, 0),
  (19, 67, 0, 0, [], 118, .if_icmp .eq 6, 3, 0),
  (6, 112, 0, 0, [], 121, .goto 89, 3, 0),
  (0, 0, 0, 0, [], 124, .aload_n 0, 1, 0),
  (3, 5, 2, 0, [], 125, .getfield 11, 3, 204),
  (1, 1, 0, 0, [], 128, .iload_n 1, 1, 0),
  (2, 0, 0, 1, [], 129, .iconst 1, 1, 0),
  (7, 0, 0, 0, [], 130, .iadd, 1, 0),
  (20, 0, 0, 0, [], 131, .aaload, 1, 0),
  (41, 9, 0, 0, [], 132, .astore 9, 2, 0),
  (0, 9, 0, 0, [], 134, .aload 9, 2, 0),
  (0, 0, 0, 0, [], 136, .aload_n 0, 1, 0),
  (3, 5, 2, 0, [], 137, .getfield 11, 3, 204),
  (1, 1, 0, 0, [], 140, .iload_n 1, 1, 0),
  (20, 0, 0, 0, [], 141, .aaload, 1, 0),
  (4, 29, 4, 1, [], 142, .invokevirtual 36, 3, 737),
  (0, 0, 0, 0, [], 145, .aload_n 0, 1, 0),
  (3, 5, 0, 0, [], 146, .getfield 28, 3, 202),
  (1, 7, 0, 0, [], 149, .iload 7, 2, 0),
  (0, 9, 0, 0, [], 151, .aload 9, 2, 0),
  (4, 65, 7, 2, [], 153, .invokevirtual 69, 3, 742),
  (12, 87, 0, 0, [], 156, .ifCond .ne 6, 3, 0),
  (6, 112, 0, 0, [], 159, .goto 51, 3, 0),
  (1, 5, 0, 0, [], 162, .iload 5, 2, 0),
  (12, 104, 0, 0, [], 164, .ifCond .ne 28, 3, 0),
  (0, 0, 0, 0, [], 167, .aload_n 0, 1, 0),
  (1, 1, 0, 0, [], 168, .iload_n 1, 1, 0),
  (2, 0, 0, 1, [], 169, .iconst 1, 1, 0),
  (7, 0, 0, 0, [], 170, .iadd, 1, 0),
  (1, 2, 0, 0, [], 171, .iload_n 2, 1, 0),
  (1, 8, 0, 0, [], 172, .iload 8, 2, 0),
  (1, 4, 0, 0, [], 174, .iload 4, 2, 0),
  (2, 0, 0, 2, [], 176, .iconst 2, 1, 0),
  (15, 0, 0, 0, [], 177, .imul, 1, 0),
  (0, 0, 0, 0, [], 178, .aload_n 0, 1, 0),
  (3, 5, 0, 0, [], 179, .getfield 28, 3, 202),
  (3, 7, 0, 0, [], 182, .getfield 64, 3, 140),
  (15, 0, 0, 0, [], 185, .imul, 1, 0),
  (4, 44, 5, 4, [], 186, .invokevirtual 56, 3, 748),
  (6, 112, 0, 0, [], 189, .goto 21, 3, 0),
  (0, 9, 0, 0, [], 192, .aload 9, 2, 0),
  (0, 0, 0, 0, [], 194, .aload_n 0, 1, 0),
  (3, 5, 4, 0, [], 195, .getfield 24, 3, 206),
  (4, 35, 4, 1, [], 198, .invokevirtual 43, 3, 747),
  (11, 112, 0, 0, [], 201, .ifCond .eq 9, 3, 0),
  (0, 0, 0, 0, [], 204, .aload_n 0, 1, 0),
  (1, 8, 0, 0, [], 205, .iload 8, 2, 0),
  (14, 5, 5, 0, [], 207, .putfield 53, 3, 207),
  (16, 7, 0, 1, [], 210, .iinc 7 1, 3, 0),
  (6, 28, 0, 0, [], 213, .goto (-166), 3, 0),
  (21, 0, 0, 0, [], 216, .return_, 1, 0)]
def m_X5_tryTwists : am_M := (yX5_tryTwists, cX5_tryTwists, 10, none)
def t_X5_spell : List ri_row := [(2, 0, 0, 1, [], 0, .iconst 1, 1, 0),
  (2, 0, 0, 2, [], 1, .iconst 2, 1, 0),
  (0, 0, 0, 0, [], 2, .aload_n 0, 1, 0),
  (3, 5, 0, 0, [], 3, .getfield 28, 3, 202),
  (3, 7, 0, 0, [], 6, .getfield 64, 3, 140),
  (15, 0, 0, 0, [], 9, .imul, 1, 0),
  (17, 0, 3, 0, [], 10, .invokestatic 77, 3, 756),
  (9, 4, 0, 0, [], 13, .istore 4, 2, 0),
  (1, 1, 0, 0, [], 15, .iload_n 1, 1, 0),
  (9, 5, 0, 0, [], 16, .istore 5, 2, 0),
  (0, 3, 0, 0, [], 18, .aload_n 3, 1, 0),
  (1, 2, 0, 0, [], 19, .iload_n 2, 1, 0),
  (14, 2, 1, 0, [], 20, .putfield 47, 3, 238),
  (1, 2, 0, 0, [], 23, .iload_n 2, 1, 0),
  (2, 0, 0, 1, [], 24, .iconst 1, 1, 0),
  (10, 0, 0, 0, [], 25, .isub, 1, 0),
  (9, 6, 0, 0, [], 26, .istore 6, 2, 0),
  (1, 6, 0, 0, [], 28, .iload 6, 2, 0),
  (28, 32, 0, 0, [], 30, .ifCond .lt 28, 3, 0),
  (0, 3, 0, 0, [], 33, .aload_n 3, 1, 0),
  (3, 2, 0, 0, [], 34, .getfield 83, 3, 234),
  (1, 6, 0, 0, [], 37, .iload 6, 2, 0),
  (1, 5, 0, 0, [], 39, .iload 5, 2, 0),
  (1, 4, 0, 0, [], 41, .iload 4, 2, 0),
  (34, 0, 0, 0, [], 43, .irem, 1, 0),
  (22, 0, 0, 0, [], 44, .iastore, 1, 0),
  (1, 5, 0, 0, [], 45, .iload 5, 2, 0),
  (1, 4, 0, 0, [], 47, .iload 4, 2, 0),
  (36, 0, 0, 0, [], 49, .idiv, 1, 0),
  (9, 5, 0, 0, [], 50, .istore 5, 2, 0),
  (16, 6, 0, 4294967295, [], 52, .iinc 6 (-1), 3, 0),
  (6, 17, 0, 0, [], 55, .goto (-27), 3, 0),
  (21, 0, 0, 0, [], 58, .return_, 1, 0)]
def m_X5_spell : am_M := (yX5_spell, cX5_spell, 7, none)
def t_X5_forImages : List ri_row := [(2, 0, 0, 1, [], 0, .iconst 1, 1, 0),
  (9, 3, 0, 0, [], 1, .istore_n 3, 1, 0),
  (2, 0, 0, 0, [], 2, .iconst 0, 1, 0),
  (9, 4, 0, 0, [], 3, .istore 4, 2, 0),
  (1, 4, 0, 0, [], 5, .iload 4, 2, 0),
  (1, 1, 0, 0, [], 7, .iload_n 1, 1, 0),
  (25, 35, 0, 0, [], 8, .if_icmp .gt 55, 3, 0),
  (2, 0, 0, 0, [], 11, .iconst 0, 1, 0),
  (9, 5, 0, 0, [], 12, .istore 5, 2, 0),
  (1, 5, 0, 0, [], 14, .iload 5, 2, 0),
  (1, 3, 0, 0, [], 16, .iload_n 3, 1, 0),
  (13, 25, 0, 0, [], 17, .if_icmp .ge 28, 3, 0),
  (0, 0, 0, 0, [], 20, .aload_n 0, 1, 0),
  (1, 5, 0, 0, [], 21, .iload 5, 2, 0),
  (1, 4, 0, 0, [], 23, .iload 4, 2, 0),
  (0, 2, 0, 0, [], 25, .aload_n 2, 1, 0),
  (4, 45, 5, 3, [], 26, .invokevirtual 60, 3, 752),
  (0, 0, 0, 0, [], 29, .aload_n 0, 1, 0),
  (0, 2, 0, 0, [], 30, .aload_n 2, 1, 0),
  (4, 47, 5, 1, [], 31, .invokevirtual 86, 3, 765),
  (11, 23, 0, 0, [], 34, .ifCond .eq 5, 3, 0),
  (2, 0, 0, 1, [], 37, .iconst 1, 1, 0),
  (5, 0, 1, 0, [], 38, .ireturn, 1, 0),
  (16, 5, 0, 1, [], 39, .iinc 5 1, 3, 0),
  (6, 9, 0, 0, [], 42, .goto (-28), 3, 0),
  (1, 3, 0, 0, [], 45, .iload_n 3, 1, 0),
  (2, 0, 0, 2, [], 46, .iconst 2, 1, 0),
  (0, 0, 0, 0, [], 47, .aload_n 0, 1, 0),
  (3, 5, 0, 0, [], 48, .getfield 28, 3, 202),
  (3, 7, 0, 0, [], 51, .getfield 64, 3, 140),
  (15, 0, 0, 0, [], 54, .imul, 1, 0),
  (15, 0, 0, 0, [], 55, .imul, 1, 0),
  (9, 3, 0, 0, [], 56, .istore_n 3, 1, 0),
  (16, 4, 0, 1, [], 57, .iinc 4 1, 3, 0),
  (6, 4, 0, 0, [], 60, .goto (-55), 3, 0),
  (2, 0, 0, 0, [], 63, .iconst 0, 1, 0),
  (5, 0, 1, 0, [], 64, .ireturn, 1, 0)]
def m_X5_forImages : am_M := (yX5_forImages, cX5_forImages, 6, some .boolean)
def t_X5_doesAsImages : List ri_row := [(0, 0, 0, 0, [], 0, .aload_n 0, 1, 0),
  (3, 5, 2, 0, [], 1, .getfield 11, 3, 204),
  (2, 0, 0, 0, [], 4, .iconst 0, 1, 0),
  (20, 0, 0, 0, [], 5, .aaload, 1, 0),
  (41, 2, 0, 0, [], 6, .astore_n 2, 1, 0),
  (2, 0, 0, 1, [], 7, .iconst 1, 1, 0),
  (9, 3, 0, 0, [], 8, .istore_n 3, 1, 0),
  (1, 3, 0, 0, [], 9, .iload_n 3, 1, 0),
  (0, 0, 0, 0, [], 10, .aload_n 0, 1, 0),
  (3, 5, 1, 0, [], 11, .getfield 32, 3, 203),
  (3, 0, 1, 0, [], 14, .getfield 90, 3, 182),
  (25, 35, 0, 0, [], 17, .if_icmp .gt 46, 3, 0),
  (0, 2, 0, 0, [], 20, .aload_n 2, 1, 0),
  (1, 3, 0, 0, [], 21, .iload_n 3, 1, 0),
  (4, 28, 4, 1, [], 22, .invokevirtual 95, 3, 769),
  (0, 0, 0, 0, [], 25, .aload_n 0, 1, 0),
  (3, 5, 0, 0, [], 26, .getfield 28, 3, 202),
  (0, 1, 0, 0, [], 29, .aload_n 1, 1, 0),
  (0, 2, 0, 0, [], 30, .aload_n 2, 1, 0),
  (4, 66, 7, 2, [], 31, .invokevirtual 98, 3, 770),
  (11, 31, 0, 0, [], 34, .ifCond .eq 21, 3, 0),
  (0, 2, 0, 0, [], 37, .aload_n 2, 1, 0),
  (0, 0, 0, 0, [], 38, .aload_n 0, 1, 0),
  (3, 5, 1, 0, [], 39, .getfield 32, 3, 203),
  (3, 0, 0, 0, [], 42, .getfield 102, 3, 179),
  (1, 3, 0, 0, [], 45, .iload_n 3, 1, 0),
  (2, 0, 0, 1, [], 46, .iconst 1, 1, 0),
  (10, 0, 0, 0, [], 47, .isub, 1, 0),
  (20, 0, 0, 0, [], 48, .aaload, 1, 0),
  (4, 34, 4, 1, [], 49, .invokevirtual 105, 3, 771),
  (12, 33, 0, 0, [], 52, .ifCond .ne 5, 3, 0),
  (2, 0, 0, 0, [], 55, .iconst 0, 1, 0),
  (5, 0, 1, 0, [], 56, .ireturn, 1, 0),
  (16, 3, 0, 1, [], 57, .iinc 3 1, 3, 0),
  (6, 7, 0, 0, [], 60, .goto (-51), 3, 0),
  (2, 0, 0, 1, [], 63, .iconst 1, 1, 0),
  (5, 0, 1, 0, [], 64, .ireturn, 1, 0)]
def m_X5_doesAsImages : am_M := (yX5_doesAsImages, cX5_doesAsImages, 4, some .boolean)
def t_X6_init : List ri_row := [(0, 0, 0, 0, [], 0, .aload_n 0, 1, 0),
  (59, 0, 1, 0, [], 1, .invokespecial 3, 3, 226),
  (0, 0, 0, 0, [], 4, .aload_n 0, 1, 0),
  (2, 0, 0, 4294967295, [], 5, .iconst (-1), 1, 0),
  (14, 6, 1, 0, [], 6, .putfield 9, 3, 249),
  (0, 0, 0, 0, [], 9, .aload_n 0, 1, 0),
  (49, 2, 0, 0, [], 10, .new 15, 3, 227),
  (23, 0, 0, 0, [], 13, .dup, 1, 0),
  (59, 17, 0, 0, [], 14, .invokespecial 17, 3, 229),
  (14, 6, 2, 2, [], 17, .putfield 18, 3, 251),
  (0, 0, 0, 0, [], 20, .aload_n 0, 1, 0),
  (2, 0, 0, 120, [], 21, .bipush 120, 2, 0),
  (50, 0, 0, 0, [], 23, .newarray .int, 2, 0),
  (14, 6, 3, 2, [], 25, .putfield 22, 3, 253),
  (0, 0, 0, 0, [], 28, .aload_n 0, 1, 0),
  (2, 0, 0, 4, [], 29, .iconst 4, 1, 0),
  (50, 0, 0, 0, [], 30, .newarray .int, 2, 0),
  (14, 6, 4, 2, [], 32, .putfield 26, 3, 254),
  (21, 0, 0, 0, [], 35, .return_, 1, 0)]
def m_X6_init : am_M := (yX6_init, cX6_init, 1, none)
def t_X6_add : List ri_row := [(0, 0, 0, 0, [], 0, .aload_n 0, 1, 0),
  (3, 6, 0, 0, [], 1, .getfield 29, 3, 247),
  (0, 0, 0, 0, [], 4, .aload_n 0, 1, 0),
  (3, 6, 3, 0, [], 5, .getfield 22, 3, 253),
  (37, 0, 0, 0, [], 8, .arraylength, 1, 0),
  (13, 18, 0, 0, [], 9, .if_icmp .ge 23, 3, 0),
  (0, 0, 0, 0, [], 12, .aload_n 0, 1, 0),
  (3, 6, 3, 0, [], 13, .getfield 22, 3, 253),
  (0, 0, 0, 0, [], 16, .aload_n 0, 1, 0),
  (3, 6, 0, 0, [], 17, .getfield 29, 3, 247),
  (1, 1, 0, 0, [], 20, .iload_n 1, 1, 0),
  (22, 0, 0, 0, [], 21, .iastore, 1, 0),
  (0, 0, 0, 0, [], 22, .aload_n 0, 1, 0),
  (23, 0, 0, 0, [], 23, .dup, 1, 0),
  (3, 6, 0, 0, [], 24, .getfield 29, 3, 247),
  (2, 0, 0, 1, [], 27, .iconst 1, 1, 0),
  (7, 0, 0, 0, [], 28, .iadd, 1, 0),
  (14, 6, 0, 0, [], 29, .putfield 29, 3, 247),
  (21, 0, 0, 0, [], 32, .return_, 1, 0)]
def m_X6_add : am_M := (yX6_add, cX6_add, 2, none)
def t_X6_understand : List ri_row := [(0, 0, 0, 0, [], 0, .aload_n 0, 1, 0),
  (3, 6, 2, 0, [], 1, .getfield 18, 3, 251),
  (2, 0, 0, 0, [], 4, .iconst 0, 1, 0),
  (14, 2, 1, 0, [], 5, .putfield 32, 3, 239),
  (0, 0, 0, 0, [], 8, .aload_n 0, 1, 0),
  (1, 1, 0, 0, [], 9, .iload_n 1, 1, 0),
  (14, 6, 5, 0, [], 10, .putfield 33, 3, 255),
  (0, 0, 0, 0, [], 13, .aload_n 0, 1, 0),
  (2, 0, 0, 0, [], 14, .iconst 0, 1, 0),
  (14, 6, 6, 0, [], 15, .putfield 36, 3, 256),
  (0, 0, 0, 0, [], 18, .aload_n 0, 1, 0),
  (2, 0, 0, 0, [], 19, .iconst 0, 1, 0),
  (14, 6, 7, 0, [], 20, .putfield 39, 3, 257),
  (2, 0, 0, 0, [], 23, .iconst 0, 1, 0),
  (9, 2, 0, 0, [], 24, .istore_n 2, 1, 0),
  (1, 2, 0, 0, [], 25, .iload_n 2, 1, 0),
  (0, 0, 0, 0, [], 26, .aload_n 0, 1, 0),
  (3, 6, 0, 0, [], 27, .getfield 29, 3, 247),
  (13, 44, 0, 0, [], 30, .if_icmp .ge 47, 3, 0),
  (0, 0, 0, 0, [], 33, .aload_n 0, 1, 0),
  (1, 2, 0, 0, [], 34, .iload_n 2, 1, 0),
  (14, 6, 1, 0, [], 35, .putfield 9, 3, 249),
  (0, 0, 0, 0, [], 38, .aload_n 0, 1, 0),
  (3, 6, 3, 0, [], 39, .getfield 22, 3, 253),
  (1, 2, 0, 0, [], 42, .iload_n 2, 1, 0),
  (8, 0, 0, 0, [], 43, .iaload, 1, 0),
  (2, 0, 0, 32, [], 44, .bipush 32, 2, 0),
  (18, 30, 0, 0, [], 46, .if_icmp .ne 7, 3, 0),
  (2, 0, 0, 0, [], 49, .iconst 0, 1, 0),
  (6, 37, 0, 0, [], 50, .goto 14, 3, 0),
  (0, 0, 0, 0, [], 53, .aload_n 0, 1, 0),
  (0, 0, 0, 0, [], 54, .aload_n 0, 1, 0),
  (3, 6, 3, 0, [], 55, .getfield 22, 3, 253),
  (1, 2, 0, 0, [], 58, .iload_n 2, 1, 0),
  (8, 0, 0, 0, [], 59, .iaload, 1, 0),
  (1, 2, 0, 0, [], 60, .iload_n 2, 1, 0),
  (4, 51, 6, 2, [], 61, .invokevirtual 42, 3, 527),
  (9, 3, 0, 0, [], 64, .istore_n 3, 1, 0),
  (1, 3, 0, 0, [], 65, .iload_n 3, 1, 0),
  (11, 42, 0, 0, [], 66, .ifCond .eq 5, 3, 0),
  (1, 3, 0, 0, [], 69, .iload_n 3, 1, 0),
  (5, 0, 0, 0, [], 70, .ireturn, 1, 0),
  (16, 2, 0, 1, [], 71, .iinc 2 1, 3, 0),
  (6, 15, 0, 0, [], 74, .goto (-49), 3, 0),
  (0, 0, 0, 0, [], 77, .aload_n 0, 1, 0),
  (0, 0, 0, 0, [], 78, .aload_n 0, 1, 0),
  (3, 6, 0, 0, [], 79, .getfield 29, 3, 247),
  (14, 6, 1, 0, [], 82, .putfield 9, 3, 249),
  (0, 0, 0, 0, [], 85, .aload_n 0, 1, 0),
  (3, 6, 6, 0, [], 86, .getfield 36, 3, 256),
  (31, 59, 0, 0, [], 89, .ifCond .gt 19, 3, 0),
  (0, 0, 0, 0, [], 92, .aload_n 0, 1, 0),
  (3, 6, 7, 0, [], 93, .getfield 39, 3, 257),
  (2, 0, 0, 1, [], 96, .iconst 1, 1, 0),
  (19, 59, 0, 0, [], 97, .if_icmp .eq 11, 3, 0),
  (0, 0, 0, 0, [], 100, .aload_n 0, 1, 0),
  (3, 6, 7, 0, [], 101, .getfield 39, 3, 257),
  (2, 0, 0, 3, [], 104, .iconst 3, 1, 0),
  (18, 61, 0, 0, [], 105, .if_icmp .ne 5, 3, 0),
  (2, 0, 0, 1, [], 108, .iconst 1, 1, 0),
  (5, 0, 0, 0, [], 109, .ireturn, 1, 0),
  (0, 0, 0, 0, [], 110, .aload_n 0, 1, 0),
  (2, 0, 0, 4294967295, [], 111, .iconst (-1), 1, 0),
  (14, 6, 1, 0, [], 112, .putfield 9, 3, 249),
  (2, 0, 0, 0, [], 115, .iconst 0, 1, 0),
  (5, 0, 0, 0, [], 116, .ireturn, 1, 0)]
def m_X6_understand : am_M := (yX6_understand, cX6_understand, 4, some .int)
def t_X6_take : List ri_row := [(0, 0, 0, 0, [], 0, .aload_n 0, 1, 0),
  (3, 6, 7, 0, [], 1, .getfield 39, 3, 257),
  (99, 0, 0, 0, [], 4, .lookupswitch 40 #[(1, 28), (3, 34)], 28, 0),
  (0, 0, 0, 0, [], 32, .aload_n 0, 1, 0),
  (1, 1, 0, 0, [], 33, .iload_n 1, 1, 0),
  (4, 53, 6, 1, [], 34, .invokevirtual 46, 3, 531),
  (5, 0, 0, 0, [], 37, .ireturn, 1, 0),
  (0, 0, 0, 0, [], 38, .aload_n 0, 1, 0),
  (1, 1, 0, 0, [], 39, .iload_n 1, 1, 0),
  (4, 54, 6, 1, [], 40, .invokevirtual 50, 3, 542),
  (5, 0, 0, 0, [], 43, .ireturn, 1, 0),
  (0, 0, 0, 0, [], 44, .aload_n 0, 1, 0),
  (1, 1, 0, 0, [], 45, .iload_n 1, 1, 0),
  (1, 2, 0, 0, [], 46, .iload_n 2, 1, 0),
  (4, 55, 6, 2, [], 47, .invokevirtual 53, 3, 546),
  (5, 0, 0, 0, [], 50, .ireturn, 1, 0)]
def m_X6_take : am_M := (yX6_take, cX6_take, 3, some .int)
def t_X6_isFigure : List ri_row := [(1, 0, 0, 0, [], 0, .iload_n 0, 1, 0),
  (2, 0, 0, 48, [], 1, .bipush 48, 2, 0),
  (26, 8, 0, 0, [], 3, .if_icmp .lt 13, 3, 0),
  (1, 0, 0, 0, [], 6, .iload_n 0, 1, 0),
  (2, 0, 0, 57, [], 7, .bipush 57, 2, 0),
  (25, 8, 0, 0, [], 9, .if_icmp .gt 7, 3, 0),
  (2, 0, 0, 1, [], 12, .iconst 1, 1, 0),
  (6, 9, 0, 0, [], 13, .goto 4, 3, 0),
  (2, 0, 0, 0, [], 16, .iconst 0, 1, 0),
  (5, 0, 1, 0, [], 17, .ireturn, 1, 0)]
def m_X6_isFigure : am_M := (yX6_isFigure, cX6_isFigure, 1, some .boolean)
def t_X6_takeHandle : List ri_row := [(1, 1, 0, 0, [], 0, .iload_n 1, 1, 0),
  (17, 52, 0, 1, [], 1, .invokestatic 56, 3, 535),
  (12, 5, 0, 0, [], 4, .ifCond .ne 5, 3, 0),
  (2, 0, 0, 1, [], 7, .iconst 1, 1, 0),
  (5, 0, 0, 0, [], 8, .ireturn, 1, 0),
  (1, 1, 0, 0, [], 9, .iload_n 1, 1, 0),
  (2, 0, 0, 48, [], 10, .bipush 48, 2, 0),
  (10, 0, 0, 0, [], 12, .isub, 1, 0),
  (9, 2, 0, 0, [], 13, .istore_n 2, 1, 0),
  (1, 2, 0, 0, [], 14, .iload_n 2, 1, 0),
  (2, 0, 0, 1, [], 15, .iconst 1, 1, 0),
  (26, 25, 0, 0, [], 16, .if_icmp .lt 28, 3, 0),
  (1, 2, 0, 0, [], 19, .iload_n 2, 1, 0),
  (0, 0, 0, 0, [], 20, .aload_n 0, 1, 0),
  (3, 6, 8, 0, [], 21, .getfield 60, 3, 258),
  (2, 0, 0, 2, [], 24, .iconst 2, 1, 0),
  (18, 22, 0, 0, [], 25, .if_icmp .ne 12, 3, 0),
  (0, 0, 0, 0, [], 28, .aload_n 0, 1, 0),
  (3, 6, 5, 0, [], 29, .getfield 33, 3, 255),
  (2, 0, 0, 1, [], 32, .iconst 1, 1, 0),
  (10, 0, 0, 0, [], 33, .isub, 1, 0),
  (6, 24, 0, 0, [], 34, .goto 7, 3, 0),
  (0, 0, 0, 0, [], 37, .aload_n 0, 1, 0),
  (3, 6, 5, 0, [], 38, .getfield 33, 3, 255),
  (27, 27, 0, 0, [], 41, .if_icmp .le 5, 3, 0),
  (2, 0, 0, 2, [], 44, .iconst 2, 1, 0),
  (5, 0, 0, 0, [], 45, .ireturn, 1, 0),
  (0, 0, 0, 0, [], 46, .aload_n 0, 1, 0),
  (3, 6, 2, 0, [], 47, .getfield 18, 3, 251),
  (3, 2, 1, 0, [], 50, .getfield 32, 3, 239),
  (2, 0, 0, 60, [], 53, .bipush 60, 2, 0),
  (26, 38, 0, 0, [], 55, .if_icmp .lt 13, 3, 0),
  (0, 0, 0, 0, [], 58, .aload_n 0, 1, 0),
  (0, 0, 0, 0, [], 59, .aload_n 0, 1, 0),
  (3, 6, 9, 0, [], 60, .getfield 63, 3, 259),
  (14, 6, 1, 0, [], 63, .putfield 9, 3, 249),
  (2, 0, 0, 3, [], 66, .iconst 3, 1, 0),
  (5, 0, 0, 0, [], 67, .ireturn, 1, 0),
  (0, 0, 0, 0, [], 68, .aload_n 0, 1, 0),
  (3, 6, 2, 0, [], 69, .getfield 18, 3, 251),
  (2, 0, 0, 2, [], 72, .iconst 2, 1, 0),
  (0, 0, 0, 0, [], 73, .aload_n 0, 1, 0),
  (3, 6, 8, 0, [], 74, .getfield 60, 3, 258),
  (0, 0, 0, 0, [], 77, .aload_n 0, 1, 0),
  (3, 6, 5, 0, [], 78, .getfield 33, 3, 255),
  (15, 0, 0, 0, [], 81, .imul, 1, 0),
  (1, 2, 0, 0, [], 82, .iload_n 2, 1, 0),
  (7, 0, 0, 0, [], 83, .iadd, 1, 0),
  (2, 0, 0, 1, [], 84, .iconst 1, 1, 0),
  (10, 0, 0, 0, [], 85, .isub, 1, 0),
  (15, 0, 0, 0, [], 86, .imul, 1, 0),
  (4, 18, 2, 1, [], 87, .invokevirtual 66, 3, 538),
  (0, 0, 0, 0, [], 90, .aload_n 0, 1, 0),
  (2, 0, 0, 2, [], 91, .iconst 2, 1, 0),
  (14, 6, 7, 0, [], 92, .putfield 39, 3, 257),
  (2, 0, 0, 0, [], 95, .iconst 0, 1, 0),
  (5, 0, 0, 0, [], 96, .ireturn, 1, 0)]
def m_X6_takeHandle : am_M := (yX6_takeHandle, cX6_takeHandle, 3, some .int)
def t_X6_takeTimes : List ri_row := [(1, 1, 0, 0, [], 0, .iload_n 1, 1, 0),
  (17, 52, 0, 1, [], 1, .invokestatic 56, 3, 535),
  (12, 5, 0, 0, [], 4, .ifCond .ne 5, 3, 0),
  (2, 0, 0, 1, [], 7, .iconst 1, 1, 0),
  (5, 0, 0, 0, [], 8, .ireturn, 1, 0),
  (1, 1, 0, 0, [], 9, .iload_n 1, 1, 0),
  (2, 0, 0, 48, [], 10, .bipush 48, 2, 0),
  (10, 0, 0, 0, [], 12, .isub, 1, 0),
  (9, 2, 0, 0, [], 13, .istore_n 2, 1, 0),
  (1, 2, 0, 0, [], 14, .iload_n 2, 1, 0),
  (2, 0, 0, 1, [], 15, .iconst 1, 1, 0),
  (13, 14, 0, 0, [], 16, .if_icmp .ge 5, 3, 0),
  (2, 0, 0, 2, [], 19, .iconst 2, 1, 0),
  (5, 0, 0, 0, [], 20, .ireturn, 1, 0),
  (0, 0, 0, 0, [], 21, .aload_n 0, 1, 0),
  (3, 6, 6, 0, [], 22, .getfield 36, 3, 256),
  (28, 21, 0, 0, [], 25, .ifCond .lt 11, 3, 0),
  (0, 0, 0, 0, [], 28, .aload_n 0, 1, 0),
  (3, 6, 6, 0, [], 29, .getfield 36, 3, 256),
  (2, 0, 0, 4, [], 32, .iconst 4, 1, 0),
  (26, 23, 0, 0, [], 33, .if_icmp .lt 5, 3, 0),
  (2, 0, 0, 1, [], 36, .iconst 1, 1, 0),
  (5, 0, 0, 0, [], 37, .ireturn, 1, 0),
  (0, 0, 0, 0, [], 38, .aload_n 0, 1, 0),
  (3, 6, 4, 0, [], 39, .getfield 26, 3, 254),
  (0, 0, 0, 0, [], 42, .aload_n 0, 1, 0),
  (3, 6, 6, 0, [], 43, .getfield 36, 3, 256),
  (8, 0, 0, 0, [], 46, .iaload, 1, 0),
  (9, 3, 0, 0, [], 47, .istore_n 3, 1, 0),
  (0, 0, 0, 0, [], 48, .aload_n 0, 1, 0),
  (3, 6, 2, 0, [], 49, .getfield 18, 3, 251),
  (3, 2, 1, 0, [], 52, .getfield 32, 3, 239),
  (1, 3, 0, 0, [], 55, .iload_n 3, 1, 0),
  (10, 0, 0, 0, [], 56, .isub, 1, 0),
  (9, 4, 0, 0, [], 57, .istore 4, 2, 0),
  (1, 3, 0, 0, [], 59, .iload_n 3, 1, 0),
  (1, 4, 0, 0, [], 60, .iload 4, 2, 0),
  (1, 2, 0, 0, [], 62, .iload_n 2, 1, 0),
  (15, 0, 0, 0, [], 63, .imul, 1, 0),
  (7, 0, 0, 0, [], 64, .iadd, 1, 0),
  (2, 0, 0, 60, [], 65, .bipush 60, 2, 0),
  (27, 44, 0, 0, [], 67, .if_icmp .le 5, 3, 0),
  (2, 0, 0, 3, [], 70, .iconst 3, 1, 0),
  (5, 0, 0, 0, [], 71, .ireturn, 1, 0),
  (2, 0, 0, 0, [], 72, .iconst 0, 1, 0),
  (9, 5, 0, 0, [], 73, .istore 5, 2, 0),
  (1, 5, 0, 0, [], 75, .iload 5, 2, 0),
  (1, 4, 0, 0, [], 77, .iload 4, 2, 0),
  (1, 2, 0, 0, [], 79, .iload_n 2, 1, 0),
  (2, 0, 0, 1, [], 80, .iconst 1, 1, 0),
  (10, 0, 0, 0, [], 81, .isub, 1, 0),
  (15, 0, 0, 0, [], 82, .imul, 1, 0),
  (13, 65, 0, 0, [], 83, .if_icmp .ge 28, 3, 0),
  (0, 0, 0, 0, [], 86, .aload_n 0, 1, 0),
  (3, 6, 2, 0, [], 87, .getfield 18, 3, 251),
  (0, 0, 0, 0, [], 90, .aload_n 0, 1, 0),
  (3, 6, 2, 0, [], 91, .getfield 18, 3, 251),
  (3, 2, 0, 0, [], 94, .getfield 70, 3, 235),
  (1, 3, 0, 0, [], 97, .iload_n 3, 1, 0),
  (1, 5, 0, 0, [], 98, .iload 5, 2, 0),
  (7, 0, 0, 0, [], 100, .iadd, 1, 0),
  (8, 0, 0, 0, [], 101, .iaload, 1, 0),
  (4, 18, 2, 1, [], 102, .invokevirtual 66, 3, 538),
  (16, 5, 0, 1, [], 105, .iinc 5 1, 3, 0),
  (6, 46, 0, 0, [], 108, .goto (-33), 3, 0),
  (0, 0, 0, 0, [], 111, .aload_n 0, 1, 0),
  (2, 0, 0, 0, [], 112, .iconst 0, 1, 0),
  (14, 6, 7, 0, [], 113, .putfield 39, 3, 257),
  (2, 0, 0, 0, [], 116, .iconst 0, 1, 0),
  (5, 0, 0, 0, [], 117, .ireturn, 1, 0)]
def m_X6_takeTimes : am_M := (yX6_takeTimes, cX6_takeTimes, 6, some .int)
def t_X6_takeItem : List ri_row := [(0, 0, 0, 0, [], 0, .aload_n 0, 1, 0),
  (3, 6, 7, 0, [], 1, .getfield 39, 3, 257),
  (2, 0, 0, 2, [], 4, .iconst 2, 1, 0),
  (18, 6, 0, 0, [], 5, .if_icmp .ne 7, 3, 0),
  (2, 0, 0, 1, [], 8, .iconst 1, 1, 0),
  (6, 7, 0, 0, [], 9, .goto 4, 3, 0),
  (2, 0, 0, 0, [], 12, .iconst 0, 1, 0),
  (9, 3, 0, 0, [], 13, .istore_n 3, 1, 0),
  (0, 0, 0, 0, [], 14, .aload_n 0, 1, 0),
  (2, 0, 0, 0, [], 15, .iconst 0, 1, 0),
  (14, 6, 7, 0, [], 16, .putfield 39, 3, 257),
  (1, 1, 0, 0, [], 19, .iload_n 1, 1, 0),
  (2, 0, 0, 45, [], 20, .bipush 45, 2, 0),
  (18, 35, 0, 0, [], 22, .if_icmp .ne 40, 3, 0),
  (1, 3, 0, 0, [], 25, .iload_n 3, 1, 0),
  (11, 35, 0, 0, [], 26, .ifCond .eq 36, 3, 0),
  (0, 0, 0, 0, [], 29, .aload_n 0, 1, 0),
  (3, 6, 2, 0, [], 30, .getfield 18, 3, 251),
  (3, 2, 1, 0, [], 33, .getfield 32, 3, 239),
  (29, 35, 0, 0, [], 36, .ifCond .le 26, 3, 0),
  (0, 0, 0, 0, [], 39, .aload_n 0, 1, 0),
  (3, 6, 2, 0, [], 40, .getfield 18, 3, 251),
  (3, 2, 0, 0, [], 43, .getfield 70, 3, 235),
  (0, 0, 0, 0, [], 46, .aload_n 0, 1, 0),
  (3, 6, 2, 0, [], 47, .getfield 18, 3, 251),
  (3, 2, 1, 0, [], 50, .getfield 32, 3, 239),
  (2, 0, 0, 1, [], 53, .iconst 1, 1, 0),
  (10, 0, 0, 0, [], 54, .isub, 1, 0),
  (56, 0, 0, 0, [], 55, .dup2, 1, 0),
  (8, 0, 0, 0, [], 56, .iaload, 1, 0),
  (2, 0, 0, 1, [], 57, .iconst 1, 1, 0),
  (45, 0, 0, 0, [], 58, .ixor, 1, 0),
  (22, 0, 0, 0, [], 59, .iastore, 1, 0),
  (2, 0, 0, 0, [], 60, .iconst 0, 1, 0),
  (5, 0, 0, 0, [], 61, .ireturn, 1, 0),
  (1, 1, 0, 0, [], 62, .iload_n 1, 1, 0),
  (2, 0, 0, 97, [], 63, .bipush 97, 2, 0),
  (26, 54, 0, 0, [], 65, .if_icmp .lt 29, 3, 0),
  (1, 1, 0, 0, [], 68, .iload_n 1, 1, 0),
  (2, 0, 0, 99, [], 69, .bipush 99, 2, 0),
  (25, 54, 0, 0, [], 71, .if_icmp .gt 23, 3, 0),
  (0, 0, 0, 0, [], 74, .aload_n 0, 1, 0),
  (1, 1, 0, 0, [], 75, .iload_n 1, 1, 0),
  (2, 0, 0, 97, [], 76, .bipush 97, 2, 0),
  (10, 0, 0, 0, [], 78, .isub, 1, 0),
  (14, 6, 8, 0, [], 79, .putfield 60, 3, 258),
  (0, 0, 0, 0, [], 82, .aload_n 0, 1, 0),
  (1, 2, 0, 0, [], 83, .iload_n 2, 1, 0),
  (14, 6, 9, 0, [], 84, .putfield 63, 3, 259),
  (0, 0, 0, 0, [], 87, .aload_n 0, 1, 0),
  (2, 0, 0, 1, [], 88, .iconst 1, 1, 0),
  (14, 6, 7, 0, [], 89, .putfield 39, 3, 257),
  (2, 0, 0, 0, [], 92, .iconst 0, 1, 0),
  (5, 0, 0, 0, [], 93, .ireturn, 1, 0),
  (1, 1, 0, 0, [], 94, .iload_n 1, 1, 0),
  (2, 0, 0, 40, [], 95, .bipush 40, 2, 0),
  (18, 79, 0, 0, [], 97, .if_icmp .ne 41, 3, 0),
  (0, 0, 0, 0, [], 100, .aload_n 0, 1, 0),
  (3, 6, 6, 0, [], 101, .getfield 36, 3, 256),
  (2, 0, 0, 4, [], 104, .iconst 4, 1, 0),
  (26, 63, 0, 0, [], 105, .if_icmp .lt 5, 3, 0),
  (2, 0, 0, 4, [], 108, .iconst 4, 1, 0),
  (5, 0, 0, 0, [], 109, .ireturn, 1, 0),
  (0, 0, 0, 0, [], 110, .aload_n 0, 1, 0),
  (3, 6, 4, 0, [], 111, .getfield 26, 3, 254),
  (0, 0, 0, 0, [], 114, .aload_n 0, 1, 0),
  (3, 6, 6, 0, [], 115, .getfield 36, 3, 256),
  (0, 0, 0, 0, [], 118, .aload_n 0, 1, 0),
  (3, 6, 2, 0, [], 119, .getfield 18, 3, 251),
  (3, 2, 1, 0, [], 122, .getfield 32, 3, 239),
  (22, 0, 0, 0, [], 125, .iastore, 1, 0),
  (0, 0, 0, 0, [], 126, .aload_n 0, 1, 0),
  (23, 0, 0, 0, [], 127, .dup, 1, 0),
  (3, 6, 6, 0, [], 128, .getfield 36, 3, 256),
  (2, 0, 0, 1, [], 131, .iconst 1, 1, 0),
  (7, 0, 0, 0, [], 132, .iadd, 1, 0),
  (14, 6, 6, 0, [], 133, .putfield 36, 3, 256),
  (2, 0, 0, 0, [], 136, .iconst 0, 1, 0),
  (5, 0, 0, 0, [], 137, .ireturn, 1, 0),
  (1, 1, 0, 0, [], 138, .iload_n 1, 1, 0),
  (2, 0, 0, 41, [], 139, .bipush 41, 2, 0),
  (18, 96, 0, 0, [], 141, .if_icmp .ne 27, 3, 0),
  (0, 0, 0, 0, [], 144, .aload_n 0, 1, 0),
  (3, 6, 6, 0, [], 145, .getfield 36, 3, 256),
  (29, 96, 0, 0, [], 148, .ifCond .le 20, 3, 0),
  (0, 0, 0, 0, [], 151, .aload_n 0, 1, 0),
  (23, 0, 0, 0, [], 152, .dup, 1, 0),
  (3, 6, 6, 0, [], 153, .getfield 36, 3, 256),
  (2, 0, 0, 1, [], 156, .iconst 1, 1, 0),
  (10, 0, 0, 0, [], 157, .isub, 1, 0),
  (14, 6, 6, 0, [], 158, .putfield 36, 3, 256),
  (0, 0, 0, 0, [], 161, .aload_n 0, 1, 0),
  (2, 0, 0, 3, [], 162, .iconst 3, 1, 0),
  (14, 6, 7, 0, [], 163, .putfield 39, 3, 257),
  (2, 0, 0, 0, [], 166, .iconst 0, 1, 0),
  (5, 0, 0, 0, [], 167, .ireturn, 1, 0),
  (2, 0, 0, 1, [], 168, .iconst 1, 1, 0),
  (5, 0, 0, 0, [], 169, .ireturn, 1, 0)]
def m_X6_takeItem : am_M := (yX6_takeItem, cX6_takeItem, 4, some .int)
def t_X7_init : List ri_row := [(0, 0, 0, 0, [], 0, .aload_n 0, 1, 0),
  (59, 0, 1, 0, [], 1, .invokespecial 5, 3, 136),
  (0, 0, 0, 0, [], 4, .aload_n 0, 1, 0),
  (2, 0, 0, 2080, [], 5, .sipush 2080, 3, 0),
  (50, 0, 0, 0, [], 8, .newarray .int, 2, 0),
  (14, 7, 1, 2, [], 10, .putfield 11, 3, 142),
  (0, 0, 0, 0, [], 13, .aload_n 0, 1, 0),
  (2, 0, 0, 3600, [], 14, .sipush 3600, 3, 0),
  (50, 0, 0, 0, [], 17, .newarray .int, 2, 0),
  (14, 7, 2, 2, [], 19, .putfield 15, 3, 143),
  (0, 0, 0, 0, [], 22, .aload_n 0, 1, 0),
  (49, 4, 0, 0, [], 23, .new 18, 3, 137),
  (23, 0, 0, 0, [], 26, .dup, 1, 0),
  (2, 0, 0, 9, [], 27, .bipush 9, 2, 0),
  (59, 26, 0, 1, [], 29, .invokespecial 20, 3, 138),
  (14, 7, 3, 2, [], 32, .putfield 23, 3, 144),
  (0, 0, 0, 0, [], 35, .aload_n 0, 1, 0),
  (49, 4, 0, 0, [], 36, .new 18, 3, 137),
  (23, 0, 0, 0, [], 39, .dup, 1, 0),
  (2, 0, 0, 9, [], 40, .bipush 9, 2, 0),
  (59, 26, 0, 1, [], 42, .invokespecial 20, 3, 138),
  (14, 7, 4, 2, [], 45, .putfield 27, 3, 145),
  (21, 0, 0, 0, [], 48, .return_, 1, 0)]
def m_X7_init : am_M := (yX7_init, cX7_init, 1, none)
def t_X7_layOut : List ri_row := [(0, 0, 0, 0, [], 0, .aload_n 0, 1, 0),
  (2, 0, 0, 3, [], 1, .iconst 3, 1, 0),
  (1, 1, 0, 0, [], 2, .iload_n 1, 1, 0),
  (15, 0, 0, 0, [], 3, .imul, 1, 0),
  (2, 0, 0, 1, [], 4, .iconst 1, 1, 0),
  (10, 0, 0, 0, [], 5, .isub, 1, 0),
  (14, 7, 0, 0, [], 6, .putfield 30, 3, 139),
  (2, 0, 0, 0, [], 9, .iconst 0, 1, 0),
  (9, 2, 0, 0, [], 10, .istore_n 2, 1, 0),
  (1, 2, 0, 0, [], 11, .iload_n 2, 1, 0),
  (0, 0, 0, 0, [], 12, .aload_n 0, 1, 0),
  (3, 7, 0, 0, [], 13, .getfield 30, 3, 139),
  (13, 40, 0, 0, [], 16, .if_icmp .ge 44, 3, 0),
  (2, 0, 0, 1, [], 19, .iconst 1, 1, 0),
  (9, 3, 0, 0, [], 20, .istore_n 3, 1, 0),
  (1, 3, 0, 0, [], 21, .iload_n 3, 1, 0),
  (2, 0, 0, 2, [], 22, .iconst 2, 1, 0),
  (1, 1, 0, 0, [], 23, .iload_n 1, 1, 0),
  (15, 0, 0, 0, [], 24, .imul, 1, 0),
  (25, 38, 0, 0, [], 25, .if_icmp .gt 29, 3, 0),
  (0, 0, 0, 0, [], 28, .aload_n 0, 1, 0),
  (2, 0, 0, 2, [], 29, .iconst 2, 1, 0),
  (1, 2, 0, 0, [], 30, .iload_n 2, 1, 0),
  (15, 0, 0, 0, [], 31, .imul, 1, 0),
  (1, 3, 0, 0, [], 32, .iload_n 3, 1, 0),
  (1, 1, 0, 0, [], 33, .iload_n 1, 1, 0),
  (4, 58, 7, 3, [], 34, .invokevirtual 34, 3, 310),
  (0, 0, 0, 0, [], 37, .aload_n 0, 1, 0),
  (2, 0, 0, 2, [], 38, .iconst 2, 1, 0),
  (1, 2, 0, 0, [], 39, .iload_n 2, 1, 0),
  (15, 0, 0, 0, [], 40, .imul, 1, 0),
  (2, 0, 0, 1, [], 41, .iconst 1, 1, 0),
  (7, 0, 0, 0, [], 42, .iadd, 1, 0),
  (1, 3, 0, 0, [], 43, .iload_n 3, 1, 0),
  (1, 1, 0, 0, [], 44, .iload_n 1, 1, 0),
  (4, 58, 7, 3, [], 45, .invokevirtual 34, 3, 310),
  (16, 3, 0, 1, [], 48, .iinc 3 1, 3, 0),
  (6, 15, 0, 0, [], 51, .goto (-30), 3, 0),
  (16, 2, 0, 1, [], 54, .iinc 2 1, 3, 0),
  (6, 9, 0, 0, [], 57, .goto (-46), 3, 0),
  (21, 0, 0, 0, [], 60, .return_, 1, 0)]
def m_X7_layOut : am_M := (yX7_layOut, cX7_layOut, 4, none)
def t_X7_layWord : List ri_row := [(1, 1, 0, 0, [], 0, .iload_n 1, 1, 0),
  (2, 0, 0, 2, [], 1, .iconst 2, 1, 0),
  (36, 0, 0, 0, [], 2, .idiv, 1, 0),
  (9, 4, 0, 0, [], 3, .istore 4, 2, 0),
  (1, 1, 0, 0, [], 5, .iload_n 1, 1, 0),
  (2, 0, 0, 2, [], 6, .iconst 2, 1, 0),
  (34, 0, 0, 0, [], 7, .irem, 1, 0),
  (12, 10, 0, 0, [], 8, .ifCond .ne 7, 3, 0),
  (2, 0, 0, 1, [], 11, .iconst 1, 1, 0),
  (6, 11, 0, 0, [], 12, .goto 4, 3, 0),
  (2, 0, 0, 4294967295, [], 15, .iconst (-1), 1, 0),
  (9, 5, 0, 0, [], 16, .istore 5, 2, 0),
  (0, 0, 0, 0, [], 18, .aload_n 0, 1, 0),
  (3, 7, 3, 0, [], 19, .getfield 23, 3, 144),
  (2, 0, 0, 0, [], 22, .iconst 0, 1, 0),
  (14, 4, 1, 0, [], 23, .putfield 38, 3, 122),
  (1, 4, 0, 0, [], 26, .iload 4, 2, 0),
  (1, 3, 0, 0, [], 28, .iload_n 3, 1, 0),
  (13, 25, 0, 0, [], 29, .if_icmp .ge 15, 3, 0),
  (0, 0, 0, 0, [], 32, .aload_n 0, 1, 0),
  (1, 4, 0, 0, [], 33, .iload 4, 2, 0),
  (1, 5, 0, 0, [], 35, .iload 5, 2, 0),
  (1, 2, 0, 0, [], 37, .iload_n 2, 1, 0),
  (4, 59, 7, 3, [], 38, .invokevirtual 41, 3, 314),
  (6, 47, 0, 0, [], 41, .goto 38, 3, 0),
  (1, 4, 0, 0, [], 44, .iload 4, 2, 0),
  (2, 0, 0, 2, [], 46, .iconst 2, 1, 0),
  (1, 3, 0, 0, [], 47, .iload_n 3, 1, 0),
  (15, 0, 0, 0, [], 48, .imul, 1, 0),
  (13, 38, 0, 0, [], 49, .if_icmp .ge 17, 3, 0),
  (0, 0, 0, 0, [], 52, .aload_n 0, 1, 0),
  (1, 4, 0, 0, [], 53, .iload 4, 2, 0),
  (1, 3, 0, 0, [], 55, .iload_n 3, 1, 0),
  (10, 0, 0, 0, [], 56, .isub, 1, 0),
  (1, 5, 0, 0, [], 57, .iload 5, 2, 0),
  (1, 2, 0, 0, [], 59, .iload_n 2, 1, 0),
  (4, 60, 7, 3, [], 60, .invokevirtual 44, 3, 322),
  (6, 47, 0, 0, [], 63, .goto 16, 3, 0),
  (0, 0, 0, 0, [], 66, .aload_n 0, 1, 0),
  (1, 4, 0, 0, [], 67, .iload 4, 2, 0),
  (2, 0, 0, 2, [], 69, .iconst 2, 1, 0),
  (1, 3, 0, 0, [], 70, .iload_n 3, 1, 0),
  (15, 0, 0, 0, [], 71, .imul, 1, 0),
  (10, 0, 0, 0, [], 72, .isub, 1, 0),
  (1, 5, 0, 0, [], 73, .iload 5, 2, 0),
  (1, 2, 0, 0, [], 75, .iload_n 2, 1, 0),
  (4, 61, 7, 3, [], 76, .invokevirtual 47, 3, 326),
  (0, 0, 0, 0, [], 79, .aload_n 0, 1, 0),
  (3, 7, 4, 0, [], 80, .getfield 27, 3, 145),
  (0, 0, 0, 0, [], 83, .aload_n 0, 1, 0),
  (3, 7, 3, 0, [], 84, .getfield 23, 3, 144),
  (4, 30, 4, 1, [], 87, .invokevirtual 50, 3, 334),
  (0, 0, 0, 0, [], 90, .aload_n 0, 1, 0),
  (1, 1, 0, 0, [], 91, .iload_n 1, 1, 0),
  (1, 2, 0, 0, [], 92, .iload_n 2, 1, 0),
  (0, 0, 0, 0, [], 93, .aload_n 0, 1, 0),
  (3, 7, 3, 0, [], 94, .getfield 23, 3, 144),
  (4, 64, 7, 3, [], 97, .invokevirtual 54, 3, 341),
  (0, 0, 0, 0, [], 100, .aload_n 0, 1, 0),
  (1, 1, 0, 0, [], 101, .iload_n 1, 1, 0),
  (1, 2, 0, 0, [], 102, .iload_n 2, 1, 0),
  (32, 0, 0, 0, [], 103, .ineg, 1, 0),
  (0, 0, 0, 0, [], 104, .aload_n 0, 1, 0),
  (3, 7, 4, 0, [], 105, .getfield 27, 3, 145),
  (4, 64, 7, 3, [], 108, .invokevirtual 54, 3, 341),
  (21, 0, 0, 0, [], 111, .return_, 1, 0)]
def m_X7_layWord : am_M := (yX7_layWord, cX7_layWord, 6, none)
def t_X7_spellFirst : List ri_row := [(0, 0, 0, 0, [], 0, .aload_n 0, 1, 0),
  (3, 7, 3, 0, [], 1, .getfield 23, 3, 144),
  (1, 3, 0, 0, [], 4, .iload_n 3, 1, 0),
  (4, 27, 4, 1, [], 5, .invokevirtual 58, 3, 318),
  (1, 3, 0, 0, [], 8, .iload_n 3, 1, 0),
  (2, 0, 0, 2, [], 9, .iconst 2, 1, 0),
  (1, 1, 0, 0, [], 10, .iload_n 1, 1, 0),
  (15, 0, 0, 0, [], 11, .imul, 1, 0),
  (2, 0, 0, 2, [], 12, .iconst 2, 1, 0),
  (7, 0, 0, 0, [], 13, .iadd, 1, 0),
  (18, 21, 0, 0, [], 14, .if_icmp .ne 17, 3, 0),
  (0, 0, 0, 0, [], 17, .aload_n 0, 1, 0),
  (3, 7, 3, 0, [], 18, .getfield 23, 3, 144),
  (1, 2, 0, 0, [], 21, .iload_n 2, 1, 0),
  (2, 0, 0, 2, [], 22, .iconst 2, 1, 0),
  (1, 1, 0, 0, [], 23, .iload_n 1, 1, 0),
  (15, 0, 0, 0, [], 24, .imul, 1, 0),
  (2, 0, 0, 1, [], 25, .iconst 1, 1, 0),
  (7, 0, 0, 0, [], 26, .iadd, 1, 0),
  (15, 0, 0, 0, [], 27, .imul, 1, 0),
  (4, 27, 4, 1, [], 28, .invokevirtual 58, 3, 318),
  (21, 0, 0, 0, [], 31, .return_, 1, 0)]
def m_X7_spellFirst : am_M := (yX7_spellFirst, cX7_spellFirst, 4, none)
def t_X7_spellSecond : List ri_row := [(0, 0, 0, 0, [], 0, .aload_n 0, 1, 0),
  (3, 7, 3, 0, [], 1, .getfield 23, 3, 144),
  (1, 3, 0, 0, [], 4, .iload_n 3, 1, 0),
  (4, 27, 4, 1, [], 5, .invokevirtual 58, 3, 318),
  (1, 3, 0, 0, [], 8, .iload_n 3, 1, 0),
  (2, 0, 0, 2, [], 9, .iconst 2, 1, 0),
  (1, 1, 0, 0, [], 10, .iload_n 1, 1, 0),
  (15, 0, 0, 0, [], 11, .imul, 1, 0),
  (2, 0, 0, 1, [], 12, .iconst 1, 1, 0),
  (7, 0, 0, 0, [], 13, .iadd, 1, 0),
  (18, 22, 0, 0, [], 14, .if_icmp .ne 18, 3, 0),
  (0, 0, 0, 0, [], 17, .aload_n 0, 1, 0),
  (3, 7, 3, 0, [], 18, .getfield 23, 3, 144),
  (1, 2, 0, 0, [], 21, .iload_n 2, 1, 0),
  (32, 0, 0, 0, [], 22, .ineg, 1, 0),
  (2, 0, 0, 2, [], 23, .iconst 2, 1, 0),
  (1, 1, 0, 0, [], 24, .iload_n 1, 1, 0),
  (15, 0, 0, 0, [], 25, .imul, 1, 0),
  (2, 0, 0, 2, [], 26, .iconst 2, 1, 0),
  (7, 0, 0, 0, [], 27, .iadd, 1, 0),
  (15, 0, 0, 0, [], 28, .imul, 1, 0),
  (4, 27, 4, 1, [], 29, .invokevirtual 58, 3, 318),
  (21, 0, 0, 0, [], 32, .return_, 1, 0)]
def m_X7_spellSecond : am_M := (yX7_spellSecond, cX7_spellSecond, 4, none)
def t_X7_spellThird : List ri_row := [(1, 3, 0, 0, [], 0, .iload_n 3, 1, 0),
  (2, 0, 0, 2, [], 1, .iconst 2, 1, 0),
  (1, 1, 0, 0, [], 2, .iload_n 1, 1, 0),
  (15, 0, 0, 0, [], 3, .imul, 1, 0),
  (2, 0, 0, 2, [], 4, .iconst 2, 1, 0),
  (7, 0, 0, 0, [], 5, .iadd, 1, 0),
  (19, 14, 0, 0, [], 6, .if_icmp .eq 12, 3, 0),
  (1, 3, 0, 0, [], 9, .iload_n 3, 1, 0),
  (2, 0, 0, 2, [], 10, .iconst 2, 1, 0),
  (1, 1, 0, 0, [], 11, .iload_n 1, 1, 0),
  (15, 0, 0, 0, [], 12, .imul, 1, 0),
  (2, 0, 0, 3, [], 13, .iconst 3, 1, 0),
  (7, 0, 0, 0, [], 14, .iadd, 1, 0),
  (18, 19, 0, 0, [], 15, .if_icmp .ne 10, 3, 0),
  (0, 0, 0, 0, [], 18, .aload_n 0, 1, 0),
  (1, 1, 0, 0, [], 19, .iload_n 1, 1, 0),
  (1, 2, 0, 0, [], 20, .iload_n 2, 1, 0),
  (32, 0, 0, 0, [], 21, .ineg, 1, 0),
  (4, 62, 7, 2, [], 22, .invokevirtual 61, 3, 330),
  (0, 0, 0, 0, [], 25, .aload_n 0, 1, 0),
  (3, 7, 3, 0, [], 26, .getfield 23, 3, 144),
  (1, 3, 0, 0, [], 29, .iload_n 3, 1, 0),
  (4, 27, 4, 1, [], 30, .invokevirtual 58, 3, 318),
  (1, 3, 0, 0, [], 33, .iload_n 3, 1, 0),
  (2, 0, 0, 2, [], 34, .iconst 2, 1, 0),
  (1, 1, 0, 0, [], 35, .iload_n 1, 1, 0),
  (15, 0, 0, 0, [], 36, .imul, 1, 0),
  (2, 0, 0, 3, [], 37, .iconst 3, 1, 0),
  (7, 0, 0, 0, [], 38, .iadd, 1, 0),
  (19, 37, 0, 0, [], 39, .if_icmp .eq 12, 3, 0),
  (1, 3, 0, 0, [], 42, .iload_n 3, 1, 0),
  (2, 0, 0, 2, [], 43, .iconst 2, 1, 0),
  (1, 1, 0, 0, [], 44, .iload_n 1, 1, 0),
  (15, 0, 0, 0, [], 45, .imul, 1, 0),
  (2, 0, 0, 4, [], 46, .iconst 4, 1, 0),
  (7, 0, 0, 0, [], 47, .iadd, 1, 0),
  (18, 41, 0, 0, [], 48, .if_icmp .ne 9, 3, 0),
  (0, 0, 0, 0, [], 51, .aload_n 0, 1, 0),
  (1, 1, 0, 0, [], 52, .iload_n 1, 1, 0),
  (1, 2, 0, 0, [], 53, .iload_n 2, 1, 0),
  (4, 62, 7, 2, [], 54, .invokevirtual 61, 3, 330),
  (21, 0, 0, 0, [], 57, .return_, 1, 0)]
def m_X7_spellThird : am_M := (yX7_spellThird, cX7_spellThird, 4, none)
def t_X7_spellBetween : List ri_row := [(2, 0, 0, 2, [], 0, .iconst 2, 1, 0),
  (1, 1, 0, 0, [], 1, .iload_n 1, 1, 0),
  (15, 0, 0, 0, [], 2, .imul, 1, 0),
  (2, 0, 0, 1, [], 3, .iconst 1, 1, 0),
  (7, 0, 0, 0, [], 4, .iadd, 1, 0),
  (9, 3, 0, 0, [], 5, .istore_n 3, 1, 0),
  (2, 0, 0, 2, [], 6, .iconst 2, 1, 0),
  (1, 1, 0, 0, [], 7, .iload_n 1, 1, 0),
  (15, 0, 0, 0, [], 8, .imul, 1, 0),
  (2, 0, 0, 2, [], 9, .iconst 2, 1, 0),
  (7, 0, 0, 0, [], 10, .iadd, 1, 0),
  (9, 4, 0, 0, [], 11, .istore 4, 2, 0),
  (2, 0, 0, 2, [], 13, .iconst 2, 1, 0),
  (1, 1, 0, 0, [], 14, .iload_n 1, 1, 0),
  (15, 0, 0, 0, [], 15, .imul, 1, 0),
  (2, 0, 0, 3, [], 16, .iconst 3, 1, 0),
  (7, 0, 0, 0, [], 17, .iadd, 1, 0),
  (9, 5, 0, 0, [], 18, .istore 5, 2, 0),
  (0, 0, 0, 0, [], 20, .aload_n 0, 1, 0),
  (3, 7, 3, 0, [], 21, .getfield 23, 3, 144),
  (1, 2, 0, 0, [], 24, .iload_n 2, 1, 0),
  (29, 24, 0, 0, [], 25, .ifCond .le 8, 3, 0),
  (1, 4, 0, 0, [], 28, .iload 4, 2, 0),
  (6, 26, 0, 0, [], 30, .goto 6, 3, 0),
  (1, 5, 0, 0, [], 33, .iload 5, 2, 0),
  (32, 0, 0, 0, [], 35, .ineg, 1, 0),
  (4, 27, 4, 1, [], 36, .invokevirtual 58, 3, 318),
  (0, 0, 0, 0, [], 39, .aload_n 0, 1, 0),
  (3, 7, 3, 0, [], 40, .getfield 23, 3, 144),
  (1, 2, 0, 0, [], 43, .iload_n 2, 1, 0),
  (29, 34, 0, 0, [], 44, .ifCond .le 8, 3, 0),
  (1, 3, 0, 0, [], 47, .iload_n 3, 1, 0),
  (32, 0, 0, 0, [], 48, .ineg, 1, 0),
  (6, 35, 0, 0, [], 49, .goto 5, 3, 0),
  (1, 4, 0, 0, [], 52, .iload 4, 2, 0),
  (4, 27, 4, 1, [], 54, .invokevirtual 58, 3, 318),
  (0, 0, 0, 0, [], 57, .aload_n 0, 1, 0),
  (3, 7, 3, 0, [], 58, .getfield 23, 3, 144),
  (1, 2, 0, 0, [], 61, .iload_n 2, 1, 0),
  (29, 43, 0, 0, [], 62, .ifCond .le 9, 3, 0),
  (1, 4, 0, 0, [], 65, .iload 4, 2, 0),
  (32, 0, 0, 0, [], 67, .ineg, 1, 0),
  (6, 44, 0, 0, [], 68, .goto 4, 3, 0),
  (1, 3, 0, 0, [], 71, .iload_n 3, 1, 0),
  (4, 27, 4, 1, [], 72, .invokevirtual 58, 3, 318),
  (0, 0, 0, 0, [], 75, .aload_n 0, 1, 0),
  (3, 7, 3, 0, [], 76, .getfield 23, 3, 144),
  (1, 2, 0, 0, [], 79, .iload_n 2, 1, 0),
  (29, 51, 0, 0, [], 80, .ifCond .le 8, 3, 0),
  (1, 5, 0, 0, [], 83, .iload 5, 2, 0),
  (6, 53, 0, 0, [], 85, .goto 6, 3, 0),
  (1, 4, 0, 0, [], 88, .iload 4, 2, 0),
  (32, 0, 0, 0, [], 90, .ineg, 1, 0),
  (4, 27, 4, 1, [], 91, .invokevirtual 58, 3, 318),
  (21, 0, 0, 0, [], 94, .return_, 1, 0)]
def m_X7_spellBetween : am_M := (yX7_spellBetween, cX7_spellBetween, 6, none)
def t_X7_slotOf : List ri_row := [(1, 0, 0, 0, [], 0, .iload_n 0, 1, 0),
  (2, 0, 0, 13, [], 1, .bipush 13, 2, 0),
  (15, 0, 0, 0, [], 3, .imul, 1, 0),
  (1, 1, 0, 0, [], 4, .iload_n 1, 1, 0),
  (7, 0, 0, 0, [], 5, .iadd, 1, 0),
  (2, 0, 0, 6, [], 6, .bipush 6, 2, 0),
  (7, 0, 0, 0, [], 8, .iadd, 1, 0),
  (2, 0, 0, 10, [], 9, .bipush 10, 2, 0),
  (15, 0, 0, 0, [], 11, .imul, 1, 0),
  (5, 0, 0, 0, [], 12, .ireturn, 1, 0)]
def m_X7_slotOf : am_M := (yX7_slotOf, cX7_slotOf, 2, some .int)
def t_X7_keepWord : List ri_row := [(1, 1, 0, 0, [], 0, .iload_n 1, 1, 0),
  (1, 2, 0, 0, [], 1, .iload_n 2, 1, 0),
  (17, 63, 0, 2, [], 2, .invokestatic 65, 3, 345),
  (9, 4, 0, 0, [], 5, .istore 4, 2, 0),
  (0, 0, 0, 0, [], 7, .aload_n 0, 1, 0),
  (3, 7, 1, 0, [], 8, .getfield 11, 3, 142),
  (1, 4, 0, 0, [], 11, .iload 4, 2, 0),
  (0, 3, 0, 0, [], 13, .aload_n 3, 1, 0),
  (3, 4, 1, 0, [], 14, .getfield 38, 3, 122),
  (22, 0, 0, 0, [], 17, .iastore, 1, 0),
  (0, 3, 0, 0, [], 18, .aload_n 3, 1, 0),
  (3, 4, 0, 0, [], 19, .getfield 69, 3, 119),
  (2, 0, 0, 0, [], 22, .iconst 0, 1, 0),
  (0, 0, 0, 0, [], 23, .aload_n 0, 1, 0),
  (3, 7, 1, 0, [], 24, .getfield 11, 3, 142),
  (1, 4, 0, 0, [], 27, .iload 4, 2, 0),
  (2, 0, 0, 1, [], 29, .iconst 1, 1, 0),
  (7, 0, 0, 0, [], 30, .iadd, 1, 0),
  (0, 3, 0, 0, [], 31, .aload_n 3, 1, 0),
  (3, 4, 1, 0, [], 32, .getfield 38, 3, 122),
  (17, 0, 2, 0, [], 35, .invokestatic 72, 3, 348),
  (21, 0, 0, 0, [], 38, .return_, 1, 0)]
def m_X7_keepWord : am_M := (yX7_keepWord, cX7_keepWord, 5, none)
def t_X7_doTwist : List ri_row := [(1, 1, 0, 0, [], 0, .iload_n 1, 1, 0),
  (28, 9, 0, 0, [], 1, .ifCond .lt 19, 3, 0),
  (1, 1, 0, 0, [], 4, .iload_n 1, 1, 0),
  (2, 0, 0, 16, [], 5, .bipush 16, 2, 0),
  (13, 9, 0, 0, [], 7, .if_icmp .ge 13, 3, 0),
  (0, 2, 0, 0, [], 10, .aload_n 2, 1, 0),
  (3, 4, 1, 0, [], 11, .getfield 38, 3, 122),
  (2, 0, 0, 400, [], 14, .sipush 400, 3, 0),
  (27, 11, 0, 0, [], 17, .if_icmp .le 5, 3, 0),
  (2, 0, 0, 0, [], 20, .iconst 0, 1, 0),
  (5, 0, 1, 0, [], 21, .ireturn, 1, 0),
  (1, 1, 0, 0, [], 22, .iload_n 1, 1, 0),
  (2, 0, 0, 0, [], 23, .iconst 0, 1, 0),
  (17, 63, 0, 2, [], 24, .invokestatic 65, 3, 345),
  (9, 3, 0, 0, [], 27, .istore_n 3, 1, 0),
  (2, 0, 0, 0, [], 28, .iconst 0, 1, 0),
  (9, 4, 0, 0, [], 29, .istore 4, 2, 0),
  (2, 0, 0, 0, [], 31, .iconst 0, 1, 0),
  (9, 5, 0, 0, [], 32, .istore 5, 2, 0),
  (1, 5, 0, 0, [], 34, .iload 5, 2, 0),
  (0, 2, 0, 0, [], 36, .aload_n 2, 1, 0),
  (3, 4, 1, 0, [], 37, .getfield 38, 3, 122),
  (13, 96, 0, 0, [], 40, .if_icmp .ge 143, 3, 0),
  (1, 3, 0, 0, [], 43, .iload_n 3, 1, 0),
  (0, 2, 0, 0, [], 44, .aload_n 2, 1, 0),
  (3, 4, 0, 0, [], 45, .getfield 69, 3, 119),
  (1, 5, 0, 0, [], 48, .iload 5, 2, 0),
  (8, 0, 0, 0, [], 50, .iaload, 1, 0),
  (2, 0, 0, 10, [], 51, .bipush 10, 2, 0),
  (15, 0, 0, 0, [], 53, .imul, 1, 0),
  (7, 0, 0, 0, [], 54, .iadd, 1, 0),
  (9, 6, 0, 0, [], 55, .istore 6, 2, 0),
  (1, 6, 0, 0, [], 57, .iload 6, 2, 0),
  (28, 47, 0, 0, [], 59, .ifCond .lt 28, 3, 0),
  (1, 6, 0, 0, [], 62, .iload 6, 2, 0),
  (2, 0, 0, 10, [], 64, .bipush 10, 2, 0),
  (7, 0, 0, 0, [], 66, .iadd, 1, 0),
  (0, 0, 0, 0, [], 67, .aload_n 0, 1, 0),
  (3, 7, 1, 0, [], 68, .getfield 11, 3, 142),
  (37, 0, 0, 0, [], 71, .arraylength, 1, 0),
  (25, 47, 0, 0, [], 72, .if_icmp .gt 15, 3, 0),
  (0, 0, 0, 0, [], 75, .aload_n 0, 1, 0),
  (3, 7, 1, 0, [], 76, .getfield 11, 3, 142),
  (1, 6, 0, 0, [], 79, .iload 6, 2, 0),
  (8, 0, 0, 0, [], 81, .iaload, 1, 0),
  (2, 0, 0, 10, [], 82, .bipush 10, 2, 0),
  (26, 49, 0, 0, [], 84, .if_icmp .lt 5, 3, 0),
  (2, 0, 0, 0, [], 87, .iconst 0, 1, 0),
  (5, 0, 1, 0, [], 88, .ireturn, 1, 0),
  (1, 6, 0, 0, [], 89, .iload 6, 2, 0),
  (0, 0, 0, 0, [], 91, .aload_n 0, 1, 0),
  (3, 7, 1, 0, [], 92, .getfield 11, 3, 142),
  (1, 6, 0, 0, [], 95, .iload 6, 2, 0),
  (8, 0, 0, 0, [], 97, .iaload, 1, 0),
  (7, 0, 0, 0, [], 98, .iadd, 1, 0),
  (9, 7, 0, 0, [], 99, .istore 7, 2, 0),
  (1, 6, 0, 0, [], 101, .iload 6, 2, 0),
  (2, 0, 0, 1, [], 103, .iconst 1, 1, 0),
  (7, 0, 0, 0, [], 104, .iadd, 1, 0),
  (9, 8, 0, 0, [], 105, .istore 8, 2, 0),
  (1, 8, 0, 0, [], 107, .iload 8, 2, 0),
  (1, 7, 0, 0, [], 109, .iload 7, 2, 0),
  (25, 94, 0, 0, [], 111, .if_icmp .gt 66, 3, 0),
  (0, 0, 0, 0, [], 114, .aload_n 0, 1, 0),
  (3, 7, 1, 0, [], 115, .getfield 11, 3, 142),
  (1, 8, 0, 0, [], 118, .iload 8, 2, 0),
  (8, 0, 0, 0, [], 120, .iaload, 1, 0),
  (9, 9, 0, 0, [], 121, .istore 9, 2, 0),
  (1, 4, 0, 0, [], 123, .iload 4, 2, 0),
  (29, 81, 0, 0, [], 125, .ifCond .le 24, 3, 0),
  (0, 0, 0, 0, [], 128, .aload_n 0, 1, 0),
  (3, 7, 2, 0, [], 129, .getfield 15, 3, 143),
  (1, 4, 0, 0, [], 132, .iload 4, 2, 0),
  (2, 0, 0, 1, [], 134, .iconst 1, 1, 0),
  (10, 0, 0, 0, [], 135, .isub, 1, 0),
  (8, 0, 0, 0, [], 136, .iaload, 1, 0),
  (1, 9, 0, 0, [], 137, .iload 9, 2, 0),
  (32, 0, 0, 0, [], 139, .ineg, 1, 0),
  (18, 81, 0, 0, [], 140, .if_icmp .ne 9, 3, 0),
  (16, 4, 0, 4294967295, [], 143, .iinc 4 (-1), 3, 0),
  (6, 92, 0, 0, [], 146, .goto 25, 3, 0),
  (1, 4, 0, 0, [], 149, .iload 4, 2, 0),
  (0, 0, 0, 0, [], 151, .aload_n 0, 1, 0),
  (3, 7, 2, 0, [], 152, .getfield 15, 3, 143),
  (37, 0, 0, 0, [], 155, .arraylength, 1, 0),
  (13, 92, 0, 0, [], 156, .if_icmp .ge 15, 3, 0),
  (0, 0, 0, 0, [], 159, .aload_n 0, 1, 0),
  (3, 7, 2, 0, [], 160, .getfield 15, 3, 143),
  (1, 4, 0, 0, [], 163, .iload 4, 2, 0),
  (1, 9, 0, 0, [], 165, .iload 9, 2, 0),
  (22, 0, 0, 0, [], 167, .iastore, 1, 0),
  (16, 4, 0, 1, [], 168, .iinc 4 1, 3, 0),
  (16, 8, 0, 1, [], 171, .iinc 8 1, 3, 0),
  (6, 60, 0, 0, [], 174, .goto (-67), 3, 0),
  (16, 5, 0, 1, [], 177, .iinc 5 1, 3, 0),
  (6, 19, 0, 0, [], 180, .goto (-146), 3, 0),
  (1, 4, 0, 0, [], 183, .iload 4, 2, 0),
  (2, 0, 0, 400, [], 185, .sipush 400, 3, 0),
  (25, 104, 0, 0, [], 188, .if_icmp .gt 13, 3, 0),
  (1, 4, 0, 0, [], 191, .iload 4, 2, 0),
  (0, 2, 0, 0, [], 193, .aload_n 2, 1, 0),
  (3, 4, 0, 0, [], 194, .getfield 69, 3, 119),
  (37, 0, 0, 0, [], 197, .arraylength, 1, 0),
  (27, 106, 0, 0, [], 198, .if_icmp .le 5, 3, 0),
  (2, 0, 0, 0, [], 201, .iconst 0, 1, 0),
  (5, 0, 1, 0, [], 202, .ireturn, 1, 0),
  (0, 0, 0, 0, [], 203, .aload_n 0, 1, 0),
  (3, 7, 2, 0, [], 204, .getfield 15, 3, 143),
  (2, 0, 0, 0, [], 207, .iconst 0, 1, 0),
  (0, 2, 0, 0, [], 208, .aload_n 2, 1, 0),
  (3, 4, 0, 0, [], 209, .getfield 69, 3, 119),
  (2, 0, 0, 0, [], 212, .iconst 0, 1, 0),
  (1, 4, 0, 0, [], 213, .iload 4, 2, 0),
  (17, 0, 2, 0, [], 215, .invokestatic 72, 3, 348),
  (0, 2, 0, 0, [], 218, .aload_n 2, 1, 0),
  (1, 4, 0, 0, [], 219, .iload 4, 2, 0),
  (14, 4, 1, 0, [], 221, .putfield 38, 3, 122),
  (2, 0, 0, 1, [], 224, .iconst 1, 1, 0),
  (5, 0, 1, 0, [], 225, .ireturn, 1, 0)]
def m_X7_doTwist : am_M := (yX7_doTwist, cX7_doTwist, 10, some .boolean)
def t_X7_doPlan : List ri_row := [(0, 1, 0, 0, [], 0, .aload_n 1, 1, 0),
  (3, 2, 1, 0, [], 1, .getfield 78, 3, 240),
  (2, 0, 0, 1, [], 4, .iconst 1, 1, 0),
  (10, 0, 0, 0, [], 5, .isub, 1, 0),
  (9, 3, 0, 0, [], 6, .istore_n 3, 1, 0),
  (1, 3, 0, 0, [], 7, .iload_n 3, 1, 0),
  (28, 19, 0, 0, [], 8, .ifCond .lt 25, 3, 0),
  (0, 0, 0, 0, [], 11, .aload_n 0, 1, 0),
  (0, 1, 0, 0, [], 12, .aload_n 1, 1, 0),
  (3, 2, 0, 0, [], 13, .getfield 81, 3, 236),
  (1, 3, 0, 0, [], 16, .iload_n 3, 1, 0),
  (8, 0, 0, 0, [], 17, .iaload, 1, 0),
  (0, 2, 0, 0, [], 18, .aload_n 2, 1, 0),
  (4, 65, 7, 2, [], 19, .invokevirtual 84, 3, 600),
  (12, 17, 0, 0, [], 22, .ifCond .ne 5, 3, 0),
  (2, 0, 0, 0, [], 25, .iconst 0, 1, 0),
  (5, 0, 1, 0, [], 26, .ireturn, 1, 0),
  (16, 3, 0, 4294967295, [], 27, .iinc 3 (-1), 3, 0),
  (6, 5, 0, 0, [], 30, .goto (-23), 3, 0),
  (2, 0, 0, 1, [], 33, .iconst 1, 1, 0),
  (5, 0, 1, 0, [], 34, .ireturn, 1, 0)]
def m_X7_doPlan : am_M := (yX7_doPlan, cX7_doPlan, 4, some .boolean)
def t_X8_init : List ri_row := [(0, 0, 0, 0, [], 0, .aload_n 0, 1, 0),
  (59, 0, 1, 0, [], 1, .invokespecial 3, 3, 100),
  (0, 0, 0, 0, [], 4, .aload_n 0, 1, 0),
  (2, 0, 0, 12, [], 5, .bipush 12, 2, 0),
  (52, 3, 0, 0, [], 7, .anewarray 9, 3, 103),
  (14, 8, 0, 2, [], 10, .putfield 11, 3, 351),
  (0, 0, 0, 0, [], 13, .aload_n 0, 1, 0),
  (2, 0, 0, 8, [], 14, .bipush 8, 2, 0),
  (52, 4, 0, 0, [], 16, .anewarray 15, 3, 105),
  (14, 8, 1, 2, [], 19, .putfield 17, 3, 352),
  (0, 0, 0, 0, [], 22, .aload_n 0, 1, 0),
  (49, 4, 0, 0, [], 23, .new 21, 3, 107),
  (23, 0, 0, 0, [], 26, .dup, 1, 0),
  (2, 0, 0, 60, [], 27, .bipush 60, 2, 0),
  (59, 26, 0, 1, [], 29, .invokespecial 23, 3, 109),
  (14, 8, 2, 2, [], 32, .putfield 26, 3, 353),
  (0, 0, 0, 0, [], 35, .aload_n 0, 1, 0),
  (49, 7, 0, 0, [], 36, .new 30, 3, 131),
  (23, 0, 0, 0, [], 39, .dup, 1, 0),
  (59, 56, 0, 0, [], 40, .invokespecial 32, 3, 133),
  (14, 8, 3, 2, [], 43, .putfield 33, 3, 354),
  (0, 0, 0, 0, [], 46, .aload_n 0, 1, 0),
  (49, 1, 0, 0, [], 47, .new 37, 3, 157),
  (23, 0, 0, 0, [], 50, .dup, 1, 0),
  (59, 10, 0, 0, [], 51, .invokespecial 39, 3, 159),
  (14, 8, 4, 2, [], 54, .putfield 40, 3, 355),
  (0, 0, 0, 0, [], 57, .aload_n 0, 1, 0),
  (49, 0, 0, 0, [], 58, .new 44, 3, 169),
  (23, 0, 0, 0, [], 61, .dup, 1, 0),
  (0, 0, 0, 0, [], 62, .aload_n 0, 1, 0),
  (3, 8, 3, 0, [], 63, .getfield 33, 3, 354),
  (59, 0, 0, 1, [], 66, .invokespecial 46, 3, 171),
  (14, 8, 5, 2, [], 69, .putfield 49, 3, 356),
  (0, 0, 0, 0, [], 72, .aload_n 0, 1, 0),
  (49, 5, 0, 0, [], 73, .new 53, 3, 194),
  (23, 0, 0, 0, [], 76, .dup, 1, 0),
  (0, 0, 0, 0, [], 77, .aload_n 0, 1, 0),
  (3, 8, 3, 0, [], 78, .getfield 33, 3, 354),
  (0, 0, 0, 0, [], 81, .aload_n 0, 1, 0),
  (3, 8, 5, 0, [], 82, .getfield 49, 3, 356),
  (59, 41, 0, 2, [], 85, .invokespecial 55, 3, 196),
  (14, 8, 6, 2, [], 88, .putfield 58, 3, 357),
  (0, 0, 0, 0, [], 91, .aload_n 0, 1, 0),
  (49, 6, 0, 0, [], 92, .new 62, 3, 221),
  (23, 0, 0, 0, [], 95, .dup, 1, 0),
  (59, 48, 0, 0, [], 96, .invokespecial 64, 3, 223),
  (14, 8, 7, 2, [], 99, .putfield 65, 3, 358),
  (0, 0, 0, 0, [], 102, .aload_n 0, 1, 0),
  (49, 4, 0, 0, [], 103, .new 21, 3, 107),
  (23, 0, 0, 0, [], 106, .dup, 1, 0),
  (2, 0, 0, 400, [], 107, .sipush 400, 3, 0),
  (59, 26, 0, 1, [], 110, .invokespecial 23, 3, 109),
  (14, 8, 8, 2, [], 113, .putfield 69, 3, 359),
  (0, 0, 0, 0, [], 116, .aload_n 0, 1, 0),
  (49, 2, 0, 0, [], 117, .new 15, 3, 105),
  (23, 0, 0, 0, [], 120, .dup, 1, 0),
  (59, 17, 0, 0, [], 121, .invokespecial 72, 3, 281),
  (14, 8, 9, 2, [], 124, .putfield 73, 3, 360),
  (0, 0, 0, 0, [], 127, .aload_n 0, 1, 0),
  (49, 2, 0, 0, [], 128, .new 15, 3, 105),
  (23, 0, 0, 0, [], 131, .dup, 1, 0),
  (59, 17, 0, 0, [], 132, .invokespecial 72, 3, 281),
  (14, 8, 10, 2, [], 135, .putfield 77, 3, 361),
  (2, 0, 0, 0, [], 138, .iconst 0, 1, 0),
  (9, 1, 0, 0, [], 139, .istore_n 1, 1, 0),
  (1, 1, 0, 0, [], 140, .iload_n 1, 1, 0),
  (2, 0, 0, 12, [], 141, .bipush 12, 2, 0),
  (13, 77, 0, 0, [], 143, .if_icmp .ge 22, 3, 0),
  (0, 0, 0, 0, [], 146, .aload_n 0, 1, 0),
  (3, 8, 0, 0, [], 147, .getfield 11, 3, 351),
  (1, 1, 0, 0, [], 150, .iload_n 1, 1, 0),
  (49, 3, 0, 0, [], 151, .new 9, 3, 103),
  (23, 0, 0, 0, [], 154, .dup, 1, 0),
  (59, 23, 0, 0, [], 155, .invokespecial 80, 3, 283),
  (53, 0, 0, 0, [], 158, .aastore, 1, 0),
  (16, 1, 0, 1, [], 159, .iinc 1 1, 3, 0),
  (6, 65, 0, 0, [], 162, .goto (-22), 3, 0),
  (2, 0, 0, 0, [], 165, .iconst 0, 1, 0),
  (9, 1, 0, 0, [], 166, .istore_n 1, 1, 0),
  (1, 1, 0, 0, [], 167, .iload_n 1, 1, 0),
  (2, 0, 0, 8, [], 168, .bipush 8, 2, 0),
  (13, 91, 0, 0, [], 170, .if_icmp .ge 22, 3, 0),
  (0, 0, 0, 0, [], 173, .aload_n 0, 1, 0),
  (3, 8, 1, 0, [], 174, .getfield 17, 3, 352),
  (1, 1, 0, 0, [], 177, .iload_n 1, 1, 0),
  (49, 2, 0, 0, [], 178, .new 15, 3, 105),
  (23, 0, 0, 0, [], 181, .dup, 1, 0),
  (59, 17, 0, 0, [], 182, .invokespecial 72, 3, 281),
  (53, 0, 0, 0, [], 185, .aastore, 1, 0),
  (16, 1, 0, 1, [], 186, .iinc 1 1, 3, 0),
  (6, 79, 0, 0, [], 189, .goto (-22), 3, 0),
  (0, 0, 0, 0, [], 192, .aload_n 0, 1, 0),
  (2, 0, 0, 2, [], 193, .iconst 2, 1, 0),
  (4, 97, 8, 1, [], 194, .invokevirtual 81, 3, 302),
  (21, 0, 0, 0, [], 197, .return_, 1, 0)]
def m_X8_init : am_M := (yX8_init, cX8_init, 2, none)
def t_X8_skin : List ri_row := [(1, 1, 0, 0, [], 0, .iload_n 1, 1, 0),
  (2, 0, 0, 1, [], 1, .iconst 1, 1, 0),
  (26, 6, 0, 0, [], 2, .if_icmp .lt 8, 3, 0),
  (1, 1, 0, 0, [], 5, .iload_n 1, 1, 0),
  (2, 0, 0, 3, [], 6, .iconst 3, 1, 0),
  (27, 8, 0, 0, [], 7, .if_icmp .le 7, 3, 0),
  (2, 0, 0, 4294966294, [], 10, .sipush (-1002), 3, 0),
  (5, 0, 0, 0, [], 13, .ireturn, 1, 0),
  (0, 0, 0, 0, [], 14, .aload_n 0, 1, 0),
  (1, 1, 0, 0, [], 15, .iload_n 1, 1, 0),
  (4, 97, 8, 1, [], 16, .invokevirtual 81, 3, 302),
  (2, 0, 0, 2, [], 19, .iconst 2, 1, 0),
  (1, 1, 0, 0, [], 20, .iload_n 1, 1, 0),
  (15, 0, 0, 0, [], 21, .imul, 1, 0),
  (5, 0, 0, 0, [], 22, .ireturn, 1, 0)]
def m_X8_skin : am_M := (yX8_skin, cX8_skin, 2, some .int)
def t_X8_letter : List ri_row := [(1, 1, 0, 0, [], 0, .iload_n 1, 1, 0),
  (11, 14, 0, 0, [], 1, .ifCond .eq 24, 3, 0),
  (1, 1, 0, 0, [], 4, .iload_n 1, 1, 0),
  (2, 0, 0, 4294967294, [], 5, .bipush (-2), 2, 0),
  (0, 0, 0, 0, [], 7, .aload_n 0, 1, 0),
  (3, 8, 11, 0, [], 8, .getfield 84, 3, 362),
  (15, 0, 0, 0, [], 11, .imul, 1, 0),
  (26, 14, 0, 0, [], 12, .if_icmp .lt 13, 3, 0),
  (1, 1, 0, 0, [], 15, .iload_n 1, 1, 0),
  (2, 0, 0, 2, [], 16, .iconst 2, 1, 0),
  (0, 0, 0, 0, [], 17, .aload_n 0, 1, 0),
  (3, 8, 11, 0, [], 18, .getfield 84, 3, 362),
  (15, 0, 0, 0, [], 21, .imul, 1, 0),
  (27, 16, 0, 0, [], 22, .if_icmp .le 7, 3, 0),
  (2, 0, 0, 4294966294, [], 25, .sipush (-1002), 3, 0),
  (5, 0, 0, 0, [], 28, .ireturn, 1, 0),
  (0, 0, 0, 0, [], 29, .aload_n 0, 1, 0),
  (3, 8, 2, 0, [], 30, .getfield 26, 3, 353),
  (3, 4, 1, 0, [], 33, .getfield 88, 3, 123),
  (2, 0, 0, 60, [], 36, .bipush 60, 2, 0),
  (26, 23, 0, 0, [], 38, .if_icmp .lt 7, 3, 0),
  (2, 0, 0, 4294966292, [], 41, .sipush (-1004), 3, 0),
  (5, 0, 0, 0, [], 44, .ireturn, 1, 0),
  (0, 0, 0, 0, [], 45, .aload_n 0, 1, 0),
  (3, 8, 2, 0, [], 46, .getfield 26, 3, 353),
  (1, 1, 0, 0, [], 49, .iload_n 1, 1, 0),
  (4, 27, 4, 1, [], 50, .invokevirtual 91, 3, 399),
  (0, 0, 0, 0, [], 53, .aload_n 0, 1, 0),
  (3, 8, 2, 0, [], 54, .getfield 26, 3, 353),
  (3, 4, 1, 0, [], 57, .getfield 88, 3, 123),
  (5, 0, 0, 0, [], 60, .ireturn, 1, 0)]
def m_X8_letter : am_M := (yX8_letter, cX8_letter, 2, some .int)
def t_X8_ring : List ri_row := [(0, 0, 0, 0, [], 0, .aload_n 0, 1, 0),
  (3, 8, 2, 0, [], 1, .getfield 26, 3, 353),
  (3, 4, 1, 0, [], 4, .getfield 88, 3, 123),
  (12, 6, 0, 0, [], 7, .ifCond .ne 7, 3, 0),
  (2, 0, 0, 4294966293, [], 10, .sipush (-1003), 3, 0),
  (5, 0, 0, 0, [], 13, .ireturn, 1, 0),
  (0, 0, 0, 0, [], 14, .aload_n 0, 1, 0),
  (3, 8, 12, 0, [], 15, .getfield 94, 3, 363),
  (2, 0, 0, 12, [], 18, .bipush 12, 2, 0),
  (26, 12, 0, 0, [], 20, .if_icmp .lt 7, 3, 0),
  (2, 0, 0, 4294966292, [], 23, .sipush (-1004), 3, 0),
  (5, 0, 0, 0, [], 26, .ireturn, 1, 0),
  (0, 0, 0, 0, [], 27, .aload_n 0, 1, 0),
  (3, 8, 0, 0, [], 28, .getfield 11, 3, 351),
  (0, 0, 0, 0, [], 31, .aload_n 0, 1, 0),
  (3, 8, 12, 0, [], 32, .getfield 94, 3, 363),
  (20, 0, 0, 0, [], 35, .aaload, 1, 0),
  (0, 0, 0, 0, [], 36, .aload_n 0, 1, 0),
  (3, 8, 2, 0, [], 37, .getfield 26, 3, 353),
  (0, 0, 0, 0, [], 40, .aload_n 0, 1, 0),
  (3, 8, 4, 0, [], 41, .getfield 40, 3, 355),
  (4, 24, 3, 2, [], 44, .invokevirtual 97, 3, 404),
  (0, 0, 0, 0, [], 47, .aload_n 0, 1, 0),
  (3, 8, 2, 0, [], 48, .getfield 26, 3, 353),
  (2, 0, 0, 0, [], 51, .iconst 0, 1, 0),
  (14, 4, 1, 0, [], 52, .putfield 88, 3, 123),
  (0, 0, 0, 0, [], 55, .aload_n 0, 1, 0),
  (23, 0, 0, 0, [], 56, .dup, 1, 0),
  (3, 8, 12, 0, [], 57, .getfield 94, 3, 363),
  (2, 0, 0, 1, [], 60, .iconst 1, 1, 0),
  (7, 0, 0, 0, [], 61, .iadd, 1, 0),
  (14, 8, 12, 0, [], 62, .putfield 94, 3, 363),
  (0, 0, 0, 0, [], 65, .aload_n 0, 1, 0),
  (3, 8, 12, 0, [], 66, .getfield 94, 3, 363),
  (2, 0, 0, 1, [], 69, .iconst 1, 1, 0),
  (10, 0, 0, 0, [], 70, .isub, 1, 0),
  (5, 0, 0, 0, [], 71, .ireturn, 1, 0)]
def m_X8_ring : am_M := (yX8_ring, cX8_ring, 1, some .int)
def t_X8_told : List ri_row := [(0, 0, 0, 0, [], 0, .aload_n 0, 1, 0),
  (1, 1, 0, 0, [], 1, .iload_n 1, 1, 0),
  (4, 98, 8, 1, [], 2, .invokevirtual 101, 3, 455),
  (12, 6, 0, 0, [], 5, .ifCond .ne 7, 3, 0),
  (2, 0, 0, 4294966295, [], 8, .sipush (-1001), 3, 0),
  (5, 0, 0, 0, [], 11, .ireturn, 1, 0),
  (1, 2, 0, 0, [], 12, .iload_n 2, 1, 0),
  (57, 35, 0, 0, [8, 15, 22, 28], 13, .tableswitch 80 0 3 #[31, 44, 57, 67], 31, 0),
  (0, 0, 0, 0, [], 44, .aload_n 0, 1, 0),
  (3, 8, 0, 0, [], 45, .getfield 11, 3, 351),
  (1, 1, 0, 0, [], 48, .iload_n 1, 1, 0),
  (20, 0, 0, 0, [], 49, .aaload, 1, 0),
  (3, 3, 0, 0, [], 50, .getfield 105, 3, 290),
  (3, 4, 1, 0, [], 53, .getfield 88, 3, 123),
  (5, 0, 0, 0, [], 56, .ireturn, 1, 0),
  (0, 0, 0, 0, [], 57, .aload_n 0, 1, 0),
  (3, 8, 0, 0, [], 58, .getfield 11, 3, 351),
  (1, 1, 0, 0, [], 61, .iload_n 1, 1, 0),
  (20, 0, 0, 0, [], 62, .aaload, 1, 0),
  (3, 3, 1, 0, [], 63, .getfield 108, 3, 292),
  (17, 103, 0, 1, [], 66, .invokestatic 112, 3, 459),
  (5, 0, 0, 0, [], 69, .ireturn, 1, 0),
  (0, 0, 0, 0, [], 70, .aload_n 0, 1, 0),
  (3, 8, 0, 0, [], 71, .getfield 11, 3, 351),
  (1, 1, 0, 0, [], 74, .iload_n 1, 1, 0),
  (20, 0, 0, 0, [], 75, .aaload, 1, 0),
  (3, 3, 2, 0, [], 76, .getfield 116, 3, 294),
  (5, 0, 0, 0, [], 79, .ireturn, 1, 0),
  (0, 0, 0, 0, [], 80, .aload_n 0, 1, 0),
  (3, 8, 0, 0, [], 81, .getfield 11, 3, 351),
  (1, 1, 0, 0, [], 84, .iload_n 1, 1, 0),
  (20, 0, 0, 0, [], 85, .aaload, 1, 0),
  (4, 25, 3, 0, [], 86, .invokevirtual 119, 3, 462),
  (17, 103, 0, 1, [], 89, .invokestatic 112, 3, 459),
  (5, 0, 0, 0, [], 92, .ireturn, 1, 0),
  (2, 0, 0, 4294966294, [], 93, .sipush (-1002), 3, 0),
  (5, 0, 0, 0, [], 96, .ireturn, 1, 0)]
def m_X8_told : am_M := (yX8_told, cX8_told, 3, some .int)
def t_X8_at : List ri_row := [(0, 0, 0, 0, [], 0, .aload_n 0, 1, 0),
  (1, 1, 0, 0, [], 1, .iload_n 1, 1, 0),
  (4, 98, 8, 1, [], 2, .invokevirtual 101, 3, 455),
  (12, 6, 0, 0, [], 5, .ifCond .ne 7, 3, 0),
  (2, 0, 0, 4294966295, [], 8, .sipush (-1001), 3, 0),
  (5, 0, 0, 0, [], 11, .ireturn, 1, 0),
  (0, 0, 0, 0, [], 12, .aload_n 0, 1, 0),
  (3, 8, 0, 0, [], 13, .getfield 11, 3, 351),
  (1, 1, 0, 0, [], 16, .iload_n 1, 1, 0),
  (20, 0, 0, 0, [], 17, .aaload, 1, 0),
  (3, 3, 0, 0, [], 18, .getfield 105, 3, 290),
  (41, 3, 0, 0, [], 21, .astore_n 3, 1, 0),
  (1, 2, 0, 0, [], 22, .iload_n 2, 1, 0),
  (28, 23, 0, 0, [], 23, .ifCond .lt 20, 3, 0),
  (1, 2, 0, 0, [], 26, .iload_n 2, 1, 0),
  (0, 3, 0, 0, [], 27, .aload_n 3, 1, 0),
  (3, 4, 1, 0, [], 28, .getfield 88, 3, 123),
  (13, 23, 0, 0, [], 31, .if_icmp .ge 12, 3, 0),
  (0, 3, 0, 0, [], 34, .aload_n 3, 1, 0),
  (3, 4, 0, 0, [], 35, .getfield 123, 3, 118),
  (1, 2, 0, 0, [], 38, .iload_n 2, 1, 0),
  (8, 0, 0, 0, [], 39, .iaload, 1, 0),
  (6, 24, 0, 0, [], 40, .goto 4, 3, 0),
  (2, 0, 0, 4294967295, [], 43, .iconst (-1), 1, 0),
  (5, 0, 0, 0, [], 44, .ireturn, 1, 0)]
def m_X8_at : am_M := (yX8_at, cX8_at, 4, some .int)
def t_X8_meets : List ri_row := [(0, 0, 0, 0, [], 0, .aload_n 0, 1, 0),
  (1, 1, 0, 0, [], 1, .iload_n 1, 1, 0),
  (4, 98, 8, 1, [], 2, .invokevirtual 101, 3, 455),
  (11, 8, 0, 0, [], 5, .ifCond .eq 11, 3, 0),
  (0, 0, 0, 0, [], 8, .aload_n 0, 1, 0),
  (1, 2, 0, 0, [], 9, .iload_n 2, 1, 0),
  (4, 98, 8, 1, [], 10, .invokevirtual 101, 3, 455),
  (12, 10, 0, 0, [], 13, .ifCond .ne 7, 3, 0),
  (2, 0, 0, 4294966295, [], 16, .sipush (-1001), 3, 0),
  (5, 0, 0, 0, [], 19, .ireturn, 1, 0),
  (0, 0, 0, 0, [], 20, .aload_n 0, 1, 0),
  (3, 8, 0, 0, [], 21, .getfield 11, 3, 351),
  (1, 1, 0, 0, [], 24, .iload_n 1, 1, 0),
  (20, 0, 0, 0, [], 25, .aaload, 1, 0),
  (3, 3, 1, 0, [], 26, .getfield 108, 3, 292),
  (12, 22, 0, 0, [], 29, .ifCond .ne 15, 3, 0),
  (0, 0, 0, 0, [], 32, .aload_n 0, 1, 0),
  (3, 8, 0, 0, [], 33, .getfield 11, 3, 351),
  (1, 2, 0, 0, [], 36, .iload_n 2, 1, 0),
  (20, 0, 0, 0, [], 37, .aaload, 1, 0),
  (3, 3, 1, 0, [], 38, .getfield 108, 3, 292),
  (11, 24, 0, 0, [], 41, .ifCond .eq 7, 3, 0),
  (2, 0, 0, 4294966293, [], 44, .sipush (-1003), 3, 0),
  (5, 0, 0, 0, [], 47, .ireturn, 1, 0),
  (0, 0, 0, 0, [], 48, .aload_n 0, 1, 0),
  (3, 8, 4, 0, [], 49, .getfield 40, 3, 355),
  (0, 0, 0, 0, [], 52, .aload_n 0, 1, 0),
  (3, 8, 0, 0, [], 53, .getfield 11, 3, 351),
  (1, 1, 0, 0, [], 56, .iload_n 1, 1, 0),
  (20, 0, 0, 0, [], 57, .aaload, 1, 0),
  (3, 3, 0, 0, [], 58, .getfield 105, 3, 290),
  (0, 0, 0, 0, [], 61, .aload_n 0, 1, 0),
  (3, 8, 0, 0, [], 62, .getfield 11, 3, 351),
  (1, 2, 0, 0, [], 65, .iload_n 2, 1, 0),
  (20, 0, 0, 0, [], 66, .aaload, 1, 0),
  (3, 3, 0, 0, [], 67, .getfield 105, 3, 290),
  (4, 11, 1, 2, [], 70, .invokevirtual 127, 3, 474),
  (5, 0, 0, 0, [], 73, .ireturn, 1, 0)]
def m_X8_meets : am_M := (yX8_meets, cX8_meets, 3, some .int)
def t_X8_one : List ri_row := [(0, 0, 0, 0, [], 0, .aload_n 0, 1, 0),
  (1, 1, 0, 0, [], 1, .iload_n 1, 1, 0),
  (4, 98, 8, 1, [], 2, .invokevirtual 101, 3, 455),
  (11, 8, 0, 0, [], 5, .ifCond .eq 11, 3, 0),
  (0, 0, 0, 0, [], 8, .aload_n 0, 1, 0),
  (1, 2, 0, 0, [], 9, .iload_n 2, 1, 0),
  (4, 98, 8, 1, [], 10, .invokevirtual 101, 3, 455),
  (12, 10, 0, 0, [], 13, .ifCond .ne 7, 3, 0),
  (2, 0, 0, 4294966295, [], 16, .sipush (-1001), 3, 0),
  (5, 0, 0, 0, [], 19, .ireturn, 1, 0),
  (0, 0, 0, 0, [], 20, .aload_n 0, 1, 0),
  (3, 8, 0, 0, [], 21, .getfield 11, 3, 351),
  (1, 1, 0, 0, [], 24, .iload_n 1, 1, 0),
  (20, 0, 0, 0, [], 25, .aaload, 1, 0),
  (3, 3, 0, 0, [], 26, .getfield 105, 3, 290),
  (0, 0, 0, 0, [], 29, .aload_n 0, 1, 0),
  (3, 8, 0, 0, [], 30, .getfield 11, 3, 351),
  (1, 2, 0, 0, [], 33, .iload_n 2, 1, 0),
  (20, 0, 0, 0, [], 34, .aaload, 1, 0),
  (3, 3, 0, 0, [], 35, .getfield 105, 3, 290),
  (4, 35, 4, 1, [], 38, .invokevirtual 131, 3, 479),
  (17, 103, 0, 1, [], 41, .invokestatic 112, 3, 459),
  (5, 0, 0, 0, [], 44, .ireturn, 1, 0)]
def m_X8_one : am_M := (yX8_one, cX8_one, 3, some .int)
def t_X8_heap : List ri_row := [(1, 1, 0, 0, [], 0, .iload_n 1, 1, 0),
  (28, 7, 0, 0, [], 1, .ifCond .lt 12, 3, 0),
  (1, 1, 0, 0, [], 4, .iload_n 1, 1, 0),
  (0, 0, 0, 0, [], 5, .aload_n 0, 1, 0),
  (3, 8, 12, 0, [], 6, .getfield 94, 3, 363),
  (35, 0, 0, 0, [], 9, .ishr, 1, 0),
  (11, 9, 0, 0, [], 10, .ifCond .eq 7, 3, 0),
  (2, 0, 0, 4294966295, [], 13, .sipush (-1001), 3, 0),
  (5, 0, 0, 0, [], 16, .ireturn, 1, 0),
  (2, 0, 0, 0, [], 17, .iconst 0, 1, 0),
  (9, 2, 0, 0, [], 18, .istore_n 2, 1, 0),
  (1, 2, 0, 0, [], 19, .iload_n 2, 1, 0),
  (0, 0, 0, 0, [], 20, .aload_n 0, 1, 0),
  (3, 8, 12, 0, [], 21, .getfield 94, 3, 363),
  (13, 37, 0, 0, [], 24, .if_icmp .ge 36, 3, 0),
  (1, 1, 0, 0, [], 27, .iload_n 1, 1, 0),
  (1, 2, 0, 0, [], 28, .iload_n 2, 1, 0),
  (35, 0, 0, 0, [], 29, .ishr, 1, 0),
  (2, 0, 0, 1, [], 30, .iconst 1, 1, 0),
  (33, 0, 0, 0, [], 31, .iand, 1, 0),
  (11, 35, 0, 0, [], 32, .ifCond .eq 22, 3, 0),
  (0, 0, 0, 0, [], 35, .aload_n 0, 1, 0),
  (1, 1, 0, 0, [], 36, .iload_n 1, 1, 0),
  (1, 2, 0, 0, [], 37, .iload_n 2, 1, 0),
  (4, 104, 8, 2, [], 38, .invokevirtual 135, 3, 495),
  (9, 3, 0, 0, [], 41, .istore_n 3, 1, 0),
  (1, 3, 0, 0, [], 42, .iload_n 3, 1, 0),
  (2, 0, 0, 4294967295, [], 43, .iconst (-1), 1, 0),
  (19, 35, 0, 0, [], 44, .if_icmp .eq 10, 3, 0),
  (2, 0, 0, 13, [], 47, .bipush 13, 2, 0),
  (1, 2, 0, 0, [], 49, .iload_n 2, 1, 0),
  (15, 0, 0, 0, [], 50, .imul, 1, 0),
  (1, 3, 0, 0, [], 51, .iload_n 3, 1, 0),
  (7, 0, 0, 0, [], 52, .iadd, 1, 0),
  (5, 0, 0, 0, [], 53, .ireturn, 1, 0),
  (16, 2, 0, 1, [], 54, .iinc 2 1, 3, 0),
  (6, 11, 0, 0, [], 57, .goto (-38), 3, 0),
  (2, 0, 0, 4294967295, [], 60, .iconst (-1), 1, 0),
  (5, 0, 0, 0, [], 61, .ireturn, 1, 0)]
def m_X8_heap : am_M := (yX8_heap, cX8_heap, 4, some .int)
def t_X8_drop : List ri_row := [(0, 0, 0, 0, [], 0, .aload_n 0, 1, 0),
  (3, 8, 12, 0, [], 1, .getfield 94, 3, 363),
  (12, 5, 0, 0, [], 4, .ifCond .ne 7, 3, 0),
  (2, 0, 0, 4294966293, [], 7, .sipush (-1003), 3, 0),
  (5, 0, 0, 0, [], 10, .ireturn, 1, 0),
  (0, 0, 0, 0, [], 11, .aload_n 0, 1, 0),
  (23, 0, 0, 0, [], 12, .dup, 1, 0),
  (3, 8, 12, 0, [], 13, .getfield 94, 3, 363),
  (2, 0, 0, 1, [], 16, .iconst 1, 1, 0),
  (10, 0, 0, 0, [], 17, .isub, 1, 0),
  (14, 8, 12, 0, [], 18, .putfield 94, 3, 363),
  (0, 0, 0, 0, [], 21, .aload_n 0, 1, 0),
  (3, 8, 12, 0, [], 22, .getfield 94, 3, 363),
  (5, 0, 0, 0, [], 25, .ireturn, 1, 0)]
def m_X8_drop : am_M := (yX8_drop, cX8_drop, 1, some .int)
def t_X8_count : List ri_row := [(1, 1, 0, 0, [], 0, .iload_n 1, 1, 0),
  (57, 20, 0, 0, [2, 5, 8, 12, 16], 1, .tableswitch 69 0 4 #[35, 40, 45, 53, 61], 35, 0),
  (0, 0, 0, 0, [], 36, .aload_n 0, 1, 0),
  (3, 8, 11, 0, [], 37, .getfield 84, 3, 362),
  (5, 0, 0, 0, [], 40, .ireturn, 1, 0),
  (0, 0, 0, 0, [], 41, .aload_n 0, 1, 0),
  (3, 8, 12, 0, [], 42, .getfield 94, 3, 363),
  (5, 0, 0, 0, [], 45, .ireturn, 1, 0),
  (0, 0, 0, 0, [], 46, .aload_n 0, 1, 0),
  (3, 8, 2, 0, [], 47, .getfield 26, 3, 353),
  (3, 4, 1, 0, [], 50, .getfield 88, 3, 123),
  (5, 0, 0, 0, [], 53, .ireturn, 1, 0),
  (0, 0, 0, 0, [], 54, .aload_n 0, 1, 0),
  (3, 8, 3, 0, [], 55, .getfield 33, 3, 354),
  (3, 7, 0, 0, [], 58, .getfield 139, 3, 141),
  (5, 0, 0, 0, [], 61, .ireturn, 1, 0),
  (0, 0, 0, 0, [], 62, .aload_n 0, 1, 0),
  (3, 8, 7, 0, [], 63, .getfield 65, 3, 358),
  (3, 6, 0, 0, [], 66, .getfield 142, 3, 248),
  (5, 0, 0, 0, [], 69, .ireturn, 1, 0),
  (2, 0, 0, 4294966294, [], 70, .sipush (-1002), 3, 0),
  (5, 0, 0, 0, [], 73, .ireturn, 1, 0)]
def m_X8_count : am_M := (yX8_count, cX8_count, 2, some .int)
def t_X8_feed : List ri_row := [(1, 1, 0, 0, [], 0, .iload_n 1, 1, 0),
  (2, 0, 0, 1, [], 1, .iconst 1, 1, 0),
  (26, 6, 0, 0, [], 2, .if_icmp .lt 9, 3, 0),
  (1, 1, 0, 0, [], 5, .iload_n 1, 1, 0),
  (2, 0, 0, 8, [], 6, .bipush 8, 2, 0),
  (27, 8, 0, 0, [], 8, .if_icmp .le 7, 3, 0),
  (2, 0, 0, 4294966294, [], 11, .sipush (-1002), 3, 0),
  (5, 0, 0, 0, [], 14, .ireturn, 1, 0),
  (0, 0, 0, 0, [], 15, .aload_n 0, 1, 0),
  (3, 8, 7, 0, [], 16, .getfield 65, 3, 358),
  (3, 6, 0, 0, [], 19, .getfield 142, 3, 248),
  (1, 1, 0, 0, [], 22, .iload_n 1, 1, 0),
  (7, 0, 0, 0, [], 23, .iadd, 1, 0),
  (2, 0, 0, 120, [], 24, .bipush 120, 2, 0),
  (27, 17, 0, 0, [], 26, .if_icmp .le 7, 3, 0),
  (2, 0, 0, 4294966292, [], 29, .sipush (-1004), 3, 0),
  (5, 0, 0, 0, [], 32, .ireturn, 1, 0),
  (1, 1, 0, 0, [], 33, .iload_n 1, 1, 0),
  (2, 0, 0, 1, [], 34, .iconst 1, 1, 0),
  (10, 0, 0, 0, [], 35, .isub, 1, 0),
  (9, 4, 0, 0, [], 36, .istore 4, 2, 0),
  (1, 4, 0, 0, [], 38, .iload 4, 2, 0),
  (28, 36, 0, 0, [], 40, .ifCond .lt 28, 3, 0),
  (0, 0, 0, 0, [], 43, .aload_n 0, 1, 0),
  (3, 8, 7, 0, [], 44, .getfield 65, 3, 358),
  (39, 2, 0, 0, [], 47, .lload_n 2, 1, 0),
  (2, 0, 0, 8, [], 48, .bipush 8, 2, 0),
  (1, 4, 0, 0, [], 50, .iload 4, 2, 0),
  (15, 0, 0, 0, [], 52, .imul, 1, 0),
  (99, 0, 0, 0, [], 53, .lshr, 1, 0),
  (38, 0, 0, 255, [], 54, .ldc2_w 143, 3, 511),
  (99, 0, 0, 0, [], 57, .land, 1, 0),
  (99, 0, 0, 0, [], 58, .l2i, 1, 0),
  (4, 49, 6, 1, [], 59, .invokevirtual 145, 3, 512),
  (16, 4, 0, 4294967295, [], 62, .iinc 4 (-1), 3, 0),
  (6, 21, 0, 0, [], 65, .goto (-27), 3, 0),
  (0, 0, 0, 0, [], 68, .aload_n 0, 1, 0),
  (3, 8, 7, 0, [], 69, .getfield 65, 3, 358),
  (3, 6, 0, 0, [], 72, .getfield 142, 3, 248),
  (5, 0, 0, 0, [], 75, .ireturn, 1, 0)]
def m_X8_feed : am_M := (yX8_feed, cX8_feed, 5, some .int)
def t_X8_read : List ri_row := [(1, 1, 0, 0, [], 0, .iload_n 1, 1, 0),
  (17, 99, 0, 1, [], 1, .invokestatic 148, 3, 520),
  (12, 5, 0, 0, [], 4, .ifCond .ne 7, 3, 0),
  (2, 0, 0, 4294966295, [], 7, .sipush (-1001), 3, 0),
  (5, 0, 0, 0, [], 10, .ireturn, 1, 0),
  (0, 0, 0, 0, [], 11, .aload_n 0, 1, 0),
  (3, 8, 7, 0, [], 12, .getfield 65, 3, 358),
  (0, 0, 0, 0, [], 15, .aload_n 0, 1, 0),
  (3, 8, 11, 0, [], 16, .getfield 84, 3, 362),
  (4, 50, 6, 1, [], 19, .invokevirtual 151, 3, 523),
  (9, 2, 0, 0, [], 22, .istore_n 2, 1, 0),
  (0, 0, 0, 0, [], 23, .aload_n 0, 1, 0),
  (3, 8, 7, 0, [], 24, .getfield 65, 3, 358),
  (2, 0, 0, 0, [], 27, .iconst 0, 1, 0),
  (14, 6, 0, 0, [], 28, .putfield 142, 3, 248),
  (1, 2, 0, 0, [], 31, .iload_n 2, 1, 0),
  (11, 21, 0, 0, [], 32, .ifCond .eq 8, 3, 0),
  (2, 0, 0, 4294967286, [], 35, .bipush (-10), 2, 0),
  (1, 2, 0, 0, [], 37, .iload_n 2, 1, 0),
  (10, 0, 0, 0, [], 38, .isub, 1, 0),
  (5, 0, 0, 0, [], 39, .ireturn, 1, 0),
  (0, 0, 0, 0, [], 40, .aload_n 0, 1, 0),
  (3, 8, 1, 0, [], 41, .getfield 17, 3, 352),
  (1, 1, 0, 0, [], 44, .iload_n 1, 1, 0),
  (20, 0, 0, 0, [], 45, .aaload, 1, 0),
  (0, 0, 0, 0, [], 46, .aload_n 0, 1, 0),
  (3, 8, 7, 0, [], 47, .getfield 65, 3, 358),
  (3, 6, 2, 0, [], 50, .getfield 155, 3, 252),
  (4, 20, 2, 1, [], 53, .invokevirtual 158, 3, 550),
  (0, 0, 0, 0, [], 56, .aload_n 0, 1, 0),
  (3, 8, 1, 0, [], 57, .getfield 17, 3, 352),
  (1, 1, 0, 0, [], 60, .iload_n 1, 1, 0),
  (20, 0, 0, 0, [], 61, .aaload, 1, 0),
  (3, 2, 1, 0, [], 62, .getfield 162, 3, 241),
  (5, 0, 0, 0, [], 65, .ireturn, 1, 0)]
def m_X8_read : am_M := (yX8_read, cX8_read, 3, some .int)
def t_X8_fault : List ri_row := [(0, 0, 0, 0, [], 0, .aload_n 0, 1, 0),
  (3, 8, 7, 0, [], 1, .getfield 65, 3, 358),
  (3, 6, 1, 0, [], 4, .getfield 163, 3, 250),
  (5, 0, 0, 0, [], 7, .ireturn, 1, 0)]
def m_X8_fault : am_M := (yX8_fault, cX8_fault, 1, some .int)
def t_X8_twist : List ri_row := [(1, 1, 0, 0, [], 0, .iload_n 1, 1, 0),
  (17, 99, 0, 1, [], 1, .invokestatic 148, 3, 520),
  (11, 10, 0, 0, [], 4, .ifCond .eq 16, 3, 0),
  (0, 0, 0, 0, [], 7, .aload_n 0, 1, 0),
  (3, 8, 1, 0, [], 8, .getfield 17, 3, 352),
  (1, 1, 0, 0, [], 11, .iload_n 1, 1, 0),
  (20, 0, 0, 0, [], 12, .aaload, 1, 0),
  (1, 2, 0, 0, [], 13, .iload_n 2, 1, 0),
  (4, 22, 2, 1, [], 14, .invokevirtual 166, 3, 563),
  (6, 11, 0, 0, [], 17, .goto 6, 3, 0),
  (2, 0, 0, 4294966295, [], 20, .sipush (-1001), 3, 0),
  (5, 0, 0, 0, [], 23, .ireturn, 1, 0)]
def m_X8_twist : am_M := (yX8_twist, cX8_twist, 3, some .int)
def t_X8_chain : List ri_row := [(1, 1, 0, 0, [], 0, .iload_n 1, 1, 0),
  (17, 99, 0, 1, [], 1, .invokestatic 148, 3, 520),
  (11, 9, 0, 0, [], 4, .ifCond .eq 17, 3, 0),
  (1, 2, 0, 0, [], 7, .iload_n 2, 1, 0),
  (17, 99, 0, 1, [], 8, .invokestatic 148, 3, 520),
  (11, 9, 0, 0, [], 11, .ifCond .eq 10, 3, 0),
  (1, 3, 0, 0, [], 14, .iload_n 3, 1, 0),
  (17, 99, 0, 1, [], 15, .invokestatic 148, 3, 520),
  (12, 11, 0, 0, [], 18, .ifCond .ne 7, 3, 0),
  (2, 0, 0, 4294966295, [], 21, .sipush (-1001), 3, 0),
  (5, 0, 0, 0, [], 24, .ireturn, 1, 0),
  (0, 0, 0, 0, [], 25, .aload_n 0, 1, 0),
  (3, 8, 1, 0, [], 26, .getfield 17, 3, 352),
  (1, 2, 0, 0, [], 29, .iload_n 2, 1, 0),
  (20, 0, 0, 0, [], 30, .aaload, 1, 0),
  (3, 2, 1, 0, [], 31, .getfield 162, 3, 241),
  (0, 0, 0, 0, [], 34, .aload_n 0, 1, 0),
  (3, 8, 1, 0, [], 35, .getfield 17, 3, 352),
  (1, 3, 0, 0, [], 38, .iload_n 3, 1, 0),
  (20, 0, 0, 0, [], 39, .aaload, 1, 0),
  (3, 2, 1, 0, [], 40, .getfield 162, 3, 241),
  (7, 0, 0, 0, [], 43, .iadd, 1, 0),
  (2, 0, 0, 60, [], 44, .bipush 60, 2, 0),
  (27, 26, 0, 0, [], 46, .if_icmp .le 7, 3, 0),
  (2, 0, 0, 4294966292, [], 49, .sipush (-1004), 3, 0),
  (5, 0, 0, 0, [], 52, .ireturn, 1, 0),
  (0, 0, 0, 0, [], 53, .aload_n 0, 1, 0),
  (3, 8, 9, 0, [], 54, .getfield 73, 3, 360),
  (0, 0, 0, 0, [], 57, .aload_n 0, 1, 0),
  (3, 8, 1, 0, [], 58, .getfield 17, 3, 352),
  (1, 2, 0, 0, [], 61, .iload_n 2, 1, 0),
  (20, 0, 0, 0, [], 62, .aaload, 1, 0),
  (4, 20, 2, 1, [], 63, .invokevirtual 158, 3, 550),
  (0, 0, 0, 0, [], 66, .aload_n 0, 1, 0),
  (3, 8, 9, 0, [], 67, .getfield 73, 3, 360),
  (0, 0, 0, 0, [], 70, .aload_n 0, 1, 0),
  (3, 8, 1, 0, [], 71, .getfield 17, 3, 352),
  (1, 3, 0, 0, [], 74, .iload_n 3, 1, 0),
  (20, 0, 0, 0, [], 75, .aaload, 1, 0),
  (4, 19, 2, 1, [], 76, .invokevirtual 169, 3, 571),
  (0, 0, 0, 0, [], 79, .aload_n 0, 1, 0),
  (3, 8, 1, 0, [], 80, .getfield 17, 3, 352),
  (1, 1, 0, 0, [], 83, .iload_n 1, 1, 0),
  (20, 0, 0, 0, [], 84, .aaload, 1, 0),
  (0, 0, 0, 0, [], 85, .aload_n 0, 1, 0),
  (3, 8, 9, 0, [], 86, .getfield 73, 3, 360),
  (4, 20, 2, 1, [], 89, .invokevirtual 158, 3, 550),
  (0, 0, 0, 0, [], 92, .aload_n 0, 1, 0),
  (3, 8, 1, 0, [], 93, .getfield 17, 3, 352),
  (1, 1, 0, 0, [], 96, .iload_n 1, 1, 0),
  (20, 0, 0, 0, [], 97, .aaload, 1, 0),
  (3, 2, 1, 0, [], 98, .getfield 162, 3, 241),
  (5, 0, 0, 0, [], 101, .ireturn, 1, 0)]
def m_X8_chain : am_M := (yX8_chain, cX8_chain, 4, some .int)
def t_X8_turn : List ri_row := [(1, 1, 0, 0, [], 0, .iload_n 1, 1, 0),
  (17, 99, 0, 1, [], 1, .invokestatic 148, 3, 520),
  (11, 6, 0, 0, [], 4, .ifCond .eq 10, 3, 0),
  (1, 2, 0, 0, [], 7, .iload_n 2, 1, 0),
  (17, 99, 0, 1, [], 8, .invokestatic 148, 3, 520),
  (12, 8, 0, 0, [], 11, .ifCond .ne 7, 3, 0),
  (2, 0, 0, 4294966295, [], 14, .sipush (-1001), 3, 0),
  (5, 0, 0, 0, [], 17, .ireturn, 1, 0),
  (0, 0, 0, 0, [], 18, .aload_n 0, 1, 0),
  (3, 8, 9, 0, [], 19, .getfield 73, 3, 360),
  (0, 0, 0, 0, [], 22, .aload_n 0, 1, 0),
  (3, 8, 1, 0, [], 23, .getfield 17, 3, 352),
  (1, 2, 0, 0, [], 26, .iload_n 2, 1, 0),
  (20, 0, 0, 0, [], 27, .aaload, 1, 0),
  (4, 21, 2, 1, [], 28, .invokevirtual 172, 3, 580),
  (0, 0, 0, 0, [], 31, .aload_n 0, 1, 0),
  (3, 8, 1, 0, [], 32, .getfield 17, 3, 352),
  (1, 1, 0, 0, [], 35, .iload_n 1, 1, 0),
  (20, 0, 0, 0, [], 36, .aaload, 1, 0),
  (0, 0, 0, 0, [], 37, .aload_n 0, 1, 0),
  (3, 8, 9, 0, [], 38, .getfield 73, 3, 360),
  (4, 20, 2, 1, [], 41, .invokevirtual 158, 3, 550),
  (0, 0, 0, 0, [], 44, .aload_n 0, 1, 0),
  (3, 8, 1, 0, [], 45, .getfield 17, 3, 352),
  (1, 1, 0, 0, [], 48, .iload_n 1, 1, 0),
  (20, 0, 0, 0, [], 49, .aaload, 1, 0),
  (3, 2, 1, 0, [], 50, .getfield 162, 3, 241),
  (5, 0, 0, 0, [], 53, .ireturn, 1, 0)]
def m_X8_turn : am_M := (yX8_turn, cX8_turn, 3, some .int)
def t_X8_image : List ri_row := [(1, 1, 0, 0, [], 0, .iload_n 1, 1, 0),
  (17, 99, 0, 1, [], 1, .invokestatic 148, 3, 520),
  (12, 5, 0, 0, [], 4, .ifCond .ne 7, 3, 0),
  (2, 0, 0, 4294966295, [], 7, .sipush (-1001), 3, 0),
  (5, 0, 0, 0, [], 10, .ireturn, 1, 0),
  (0, 0, 0, 0, [], 11, .aload_n 0, 1, 0),
  (1, 2, 0, 0, [], 12, .iload_n 2, 1, 0),
  (4, 101, 8, 1, [], 13, .invokevirtual 175, 3, 588),
  (12, 11, 0, 0, [], 16, .ifCond .ne 7, 3, 0),
  (2, 0, 0, 4294966294, [], 19, .sipush (-1002), 3, 0),
  (5, 0, 0, 0, [], 22, .ireturn, 1, 0),
  (0, 0, 0, 0, [], 23, .aload_n 0, 1, 0),
  (3, 8, 8, 0, [], 24, .getfield 69, 3, 359),
  (1, 2, 0, 0, [], 27, .iload_n 2, 1, 0),
  (4, 28, 4, 1, [], 28, .invokevirtual 178, 3, 592),
  (0, 0, 0, 0, [], 31, .aload_n 0, 1, 0),
  (3, 8, 3, 0, [], 32, .getfield 33, 3, 354),
  (0, 0, 0, 0, [], 35, .aload_n 0, 1, 0),
  (3, 8, 1, 0, [], 36, .getfield 17, 3, 352),
  (1, 1, 0, 0, [], 39, .iload_n 1, 1, 0),
  (20, 0, 0, 0, [], 40, .aaload, 1, 0),
  (0, 0, 0, 0, [], 41, .aload_n 0, 1, 0),
  (3, 8, 8, 0, [], 42, .getfield 69, 3, 359),
  (4, 66, 7, 2, [], 45, .invokevirtual 181, 3, 596),
  (12, 27, 0, 0, [], 48, .ifCond .ne 7, 3, 0),
  (2, 0, 0, 4294966291, [], 51, .sipush (-1005), 3, 0),
  (5, 0, 0, 0, [], 54, .ireturn, 1, 0),
  (1, 3, 0, 0, [], 55, .iload_n 3, 1, 0),
  (2, 0, 0, 4294967295, [], 56, .iconst (-1), 1, 0),
  (18, 34, 0, 0, [], 57, .if_icmp .ne 11, 3, 0),
  (0, 0, 0, 0, [], 60, .aload_n 0, 1, 0),
  (3, 8, 8, 0, [], 61, .getfield 69, 3, 359),
  (3, 4, 1, 0, [], 64, .getfield 88, 3, 123),
  (5, 0, 0, 0, [], 67, .ireturn, 1, 0),
  (1, 3, 0, 0, [], 68, .iload_n 3, 1, 0),
  (28, 47, 0, 0, [], 69, .ifCond .lt 26, 3, 0),
  (1, 3, 0, 0, [], 72, .iload_n 3, 1, 0),
  (0, 0, 0, 0, [], 73, .aload_n 0, 1, 0),
  (3, 8, 8, 0, [], 74, .getfield 69, 3, 359),
  (3, 4, 1, 0, [], 77, .getfield 88, 3, 123),
  (13, 47, 0, 0, [], 80, .if_icmp .ge 15, 3, 0),
  (0, 0, 0, 0, [], 83, .aload_n 0, 1, 0),
  (3, 8, 8, 0, [], 84, .getfield 69, 3, 359),
  (3, 4, 0, 0, [], 87, .getfield 123, 3, 118),
  (1, 3, 0, 0, [], 90, .iload_n 3, 1, 0),
  (8, 0, 0, 0, [], 91, .iaload, 1, 0),
  (6, 48, 0, 0, [], 92, .goto 4, 3, 0),
  (2, 0, 0, 0, [], 95, .iconst 0, 1, 0),
  (5, 0, 0, 0, [], 96, .ireturn, 1, 0)]
def m_X8_image : am_M := (yX8_image, cX8_image, 4, some .int)
def t_X8_carried : List ri_row := [(1, 1, 0, 0, [], 0, .iload_n 1, 1, 0),
  (17, 99, 0, 1, [], 1, .invokestatic 148, 3, 520),
  (11, 14, 0, 0, [], 4, .ifCond .eq 24, 3, 0),
  (0, 0, 0, 0, [], 7, .aload_n 0, 1, 0),
  (1, 2, 0, 0, [], 8, .iload_n 2, 1, 0),
  (4, 98, 8, 1, [], 9, .invokevirtual 101, 3, 455),
  (11, 14, 0, 0, [], 12, .ifCond .eq 16, 3, 0),
  (1, 3, 0, 0, [], 15, .iload_n 3, 1, 0),
  (2, 0, 0, 4294967295, [], 16, .iconst (-1), 1, 0),
  (19, 16, 0, 0, [], 17, .if_icmp .eq 15, 3, 0),
  (0, 0, 0, 0, [], 20, .aload_n 0, 1, 0),
  (1, 3, 0, 0, [], 21, .iload_n 3, 1, 0),
  (4, 98, 8, 1, [], 22, .invokevirtual 101, 3, 455),
  (12, 16, 0, 0, [], 25, .ifCond .ne 7, 3, 0),
  (2, 0, 0, 4294966295, [], 28, .sipush (-1001), 3, 0),
  (5, 0, 0, 0, [], 31, .ireturn, 1, 0),
  (0, 0, 0, 0, [], 32, .aload_n 0, 1, 0),
  (1, 1, 0, 0, [], 33, .iload_n 1, 1, 0),
  (1, 2, 0, 0, [], 34, .iload_n 2, 1, 0),
  (4, 105, 8, 2, [], 35, .invokevirtual 185, 3, 608),
  (12, 23, 0, 0, [], 38, .ifCond .ne 7, 3, 0),
  (2, 0, 0, 4294966291, [], 41, .sipush (-1005), 3, 0),
  (5, 0, 0, 0, [], 44, .ireturn, 1, 0),
  (1, 3, 0, 0, [], 45, .iload_n 3, 1, 0),
  (2, 0, 0, 4294967295, [], 46, .iconst (-1), 1, 0),
  (18, 30, 0, 0, [], 47, .if_icmp .ne 13, 3, 0),
  (0, 0, 0, 0, [], 50, .aload_n 0, 1, 0),
  (3, 8, 8, 0, [], 51, .getfield 69, 3, 359),
  (3, 4, 1, 0, [], 54, .getfield 88, 3, 123),
  (6, 39, 0, 0, [], 57, .goto 22, 3, 0),
  (0, 0, 0, 0, [], 60, .aload_n 0, 1, 0),
  (3, 8, 8, 0, [], 61, .getfield 69, 3, 359),
  (0, 0, 0, 0, [], 64, .aload_n 0, 1, 0),
  (3, 8, 0, 0, [], 65, .getfield 11, 3, 351),
  (1, 3, 0, 0, [], 68, .iload_n 3, 1, 0),
  (20, 0, 0, 0, [], 69, .aaload, 1, 0),
  (3, 3, 0, 0, [], 70, .getfield 105, 3, 290),
  (4, 35, 4, 1, [], 73, .invokevirtual 131, 3, 479),
  (17, 103, 0, 1, [], 76, .invokestatic 112, 3, 459),
  (5, 0, 0, 0, [], 79, .ireturn, 1, 0)]
def m_X8_carried : am_M := (yX8_carried, cX8_carried, 4, some .int)
def t_X8_meetsThen : List ri_row := [(1, 1, 0, 0, [], 0, .iload_n 1, 1, 0),
  (17, 99, 0, 1, [], 1, .invokestatic 148, 3, 520),
  (11, 11, 0, 0, [], 4, .ifCond .eq 19, 3, 0),
  (0, 0, 0, 0, [], 7, .aload_n 0, 1, 0),
  (1, 2, 0, 0, [], 8, .iload_n 2, 1, 0),
  (4, 98, 8, 1, [], 9, .invokevirtual 101, 3, 455),
  (11, 11, 0, 0, [], 12, .ifCond .eq 11, 3, 0),
  (0, 0, 0, 0, [], 15, .aload_n 0, 1, 0),
  (1, 3, 0, 0, [], 16, .iload_n 3, 1, 0),
  (4, 98, 8, 1, [], 17, .invokevirtual 101, 3, 455),
  (12, 13, 0, 0, [], 20, .ifCond .ne 7, 3, 0),
  (2, 0, 0, 4294966295, [], 23, .sipush (-1001), 3, 0),
  (5, 0, 0, 0, [], 26, .ireturn, 1, 0),
  (0, 0, 0, 0, [], 27, .aload_n 0, 1, 0),
  (3, 8, 0, 0, [], 28, .getfield 11, 3, 351),
  (1, 2, 0, 0, [], 31, .iload_n 2, 1, 0),
  (20, 0, 0, 0, [], 32, .aaload, 1, 0),
  (3, 3, 1, 0, [], 33, .getfield 108, 3, 292),
  (12, 25, 0, 0, [], 36, .ifCond .ne 15, 3, 0),
  (0, 0, 0, 0, [], 39, .aload_n 0, 1, 0),
  (3, 8, 0, 0, [], 40, .getfield 11, 3, 351),
  (1, 3, 0, 0, [], 43, .iload_n 3, 1, 0),
  (20, 0, 0, 0, [], 44, .aaload, 1, 0),
  (3, 3, 1, 0, [], 45, .getfield 108, 3, 292),
  (11, 27, 0, 0, [], 48, .ifCond .eq 7, 3, 0),
  (2, 0, 0, 4294966293, [], 51, .sipush (-1003), 3, 0),
  (5, 0, 0, 0, [], 54, .ireturn, 1, 0),
  (0, 0, 0, 0, [], 55, .aload_n 0, 1, 0),
  (1, 1, 0, 0, [], 56, .iload_n 1, 1, 0),
  (1, 2, 0, 0, [], 57, .iload_n 2, 1, 0),
  (4, 105, 8, 2, [], 58, .invokevirtual 185, 3, 608),
  (12, 34, 0, 0, [], 61, .ifCond .ne 7, 3, 0),
  (2, 0, 0, 4294966291, [], 64, .sipush (-1005), 3, 0),
  (5, 0, 0, 0, [], 67, .ireturn, 1, 0),
  (0, 0, 0, 0, [], 68, .aload_n 0, 1, 0),
  (3, 8, 4, 0, [], 69, .getfield 40, 3, 355),
  (0, 0, 0, 0, [], 72, .aload_n 0, 1, 0),
  (3, 8, 8, 0, [], 73, .getfield 69, 3, 359),
  (0, 0, 0, 0, [], 76, .aload_n 0, 1, 0),
  (3, 8, 0, 0, [], 77, .getfield 11, 3, 351),
  (1, 3, 0, 0, [], 80, .iload_n 3, 1, 0),
  (20, 0, 0, 0, [], 81, .aaload, 1, 0),
  (3, 3, 0, 0, [], 82, .getfield 105, 3, 290),
  (4, 11, 1, 2, [], 85, .invokevirtual 127, 3, 474),
  (5, 0, 0, 0, [], 88, .ireturn, 1, 0)]
def m_X8_meetsThen : am_M := (yX8_meetsThen, cX8_meetsThen, 4, some .int)
def t_X8_same : List ri_row := [(1, 1, 0, 0, [], 0, .iload_n 1, 1, 0),
  (17, 99, 0, 1, [], 1, .invokestatic 148, 3, 520),
  (11, 6, 0, 0, [], 4, .ifCond .eq 10, 3, 0),
  (1, 2, 0, 0, [], 7, .iload_n 2, 1, 0),
  (17, 99, 0, 1, [], 8, .invokestatic 148, 3, 520),
  (12, 8, 0, 0, [], 11, .ifCond .ne 7, 3, 0),
  (2, 0, 0, 4294966295, [], 14, .sipush (-1001), 3, 0),
  (5, 0, 0, 0, [], 17, .ireturn, 1, 0),
  (0, 0, 0, 0, [], 18, .aload_n 0, 1, 0),
  (0, 0, 0, 0, [], 19, .aload_n 0, 1, 0),
  (3, 8, 1, 0, [], 20, .getfield 17, 3, 352),
  (1, 1, 0, 0, [], 23, .iload_n 1, 1, 0),
  (20, 0, 0, 0, [], 24, .aaload, 1, 0),
  (0, 0, 0, 0, [], 25, .aload_n 0, 1, 0),
  (3, 8, 1, 0, [], 26, .getfield 17, 3, 352),
  (1, 2, 0, 0, [], 29, .iload_n 2, 1, 0),
  (20, 0, 0, 0, [], 30, .aaload, 1, 0),
  (4, 106, 8, 2, [], 31, .invokevirtual 189, 3, 622),
  (5, 0, 0, 0, [], 34, .ireturn, 1, 0)]
def m_X8_same : am_M := (yX8_same, cX8_same, 3, some .int)
def t_X8_turns : List ri_row := [(1, 1, 0, 0, [], 0, .iload_n 1, 1, 0),
  (17, 99, 0, 1, [], 1, .invokestatic 148, 3, 520),
  (12, 5, 0, 0, [], 4, .ifCond .ne 7, 3, 0),
  (2, 0, 0, 4294966295, [], 7, .sipush (-1001), 3, 0),
  (5, 0, 0, 0, [], 10, .ireturn, 1, 0),
  (0, 0, 0, 0, [], 11, .aload_n 0, 1, 0),
  (3, 8, 5, 0, [], 12, .getfield 49, 3, 356),
  (0, 0, 0, 0, [], 15, .aload_n 0, 1, 0),
  (3, 8, 11, 0, [], 16, .getfield 84, 3, 362),
  (4, 1, 0, 1, [], 19, .invokevirtual 193, 3, 626),
  (0, 0, 0, 0, [], 22, .aload_n 0, 1, 0),
  (3, 8, 5, 0, [], 23, .getfield 49, 3, 356),
  (0, 0, 0, 0, [], 26, .aload_n 0, 1, 0),
  (3, 8, 1, 0, [], 27, .getfield 17, 3, 352),
  (1, 1, 0, 0, [], 30, .iload_n 1, 1, 0),
  (20, 0, 0, 0, [], 31, .aaload, 1, 0),
  (4, 2, 0, 1, [], 32, .invokevirtual 196, 3, 631),
  (11, 24, 0, 0, [], 35, .ifCond .eq 17, 3, 0),
  (0, 0, 0, 0, [], 38, .aload_n 0, 1, 0),
  (3, 8, 5, 0, [], 39, .getfield 49, 3, 356),
  (0, 0, 0, 0, [], 42, .aload_n 0, 1, 0),
  (3, 8, 8, 0, [], 43, .getfield 69, 3, 359),
  (4, 4, 0, 1, [], 46, .invokevirtual 199, 3, 644),
  (6, 25, 0, 0, [], 49, .goto 6, 3, 0),
  (2, 0, 0, 4294966291, [], 52, .sipush (-1005), 3, 0),
  (5, 0, 0, 0, [], 55, .ireturn, 1, 0)]
def m_X8_turns : am_M := (yX8_turns, cX8_turns, 2, some .int)
def t_X8_order : List ri_row := [(1, 1, 0, 0, [], 0, .iload_n 1, 1, 0),
  (17, 99, 0, 1, [], 1, .invokestatic 148, 3, 520),
  (12, 5, 0, 0, [], 4, .ifCond .ne 7, 3, 0),
  (2, 0, 0, 4294966295, [], 7, .sipush (-1001), 3, 0),
  (5, 0, 0, 0, [], 10, .ireturn, 1, 0),
  (1, 2, 0, 0, [], 11, .iload_n 2, 1, 0),
  (2, 0, 0, 1, [], 12, .iconst 1, 1, 0),
  (26, 11, 0, 0, [], 13, .if_icmp .lt 9, 3, 0),
  (1, 2, 0, 0, [], 16, .iload_n 2, 1, 0),
  (2, 0, 0, 24, [], 17, .bipush 24, 2, 0),
  (27, 13, 0, 0, [], 19, .if_icmp .le 7, 3, 0),
  (2, 0, 0, 4294966294, [], 22, .sipush (-1002), 3, 0),
  (5, 0, 0, 0, [], 25, .ireturn, 1, 0),
  (0, 0, 0, 0, [], 26, .aload_n 0, 1, 0),
  (3, 8, 5, 0, [], 27, .getfield 49, 3, 356),
  (0, 0, 0, 0, [], 30, .aload_n 0, 1, 0),
  (3, 8, 11, 0, [], 31, .getfield 84, 3, 362),
  (4, 1, 0, 1, [], 34, .invokevirtual 193, 3, 626),
  (2, 0, 0, 1, [], 37, .iconst 1, 1, 0),
  (9, 3, 0, 0, [], 38, .istore_n 3, 1, 0),
  (1, 3, 0, 0, [], 39, .iload_n 3, 1, 0),
  (1, 2, 0, 0, [], 40, .iload_n 2, 1, 0),
  (25, 44, 0, 0, [], 41, .if_icmp .gt 47, 3, 0),
  (0, 0, 0, 0, [], 44, .aload_n 0, 1, 0),
  (3, 8, 5, 0, [], 45, .getfield 49, 3, 356),
  (0, 0, 0, 0, [], 48, .aload_n 0, 1, 0),
  (3, 8, 1, 0, [], 49, .getfield 17, 3, 352),
  (1, 1, 0, 0, [], 52, .iload_n 1, 1, 0),
  (20, 0, 0, 0, [], 53, .aaload, 1, 0),
  (4, 2, 0, 1, [], 54, .invokevirtual 196, 3, 631),
  (12, 33, 0, 0, [], 57, .ifCond .ne 7, 3, 0),
  (2, 0, 0, 4294966291, [], 60, .sipush (-1005), 3, 0),
  (5, 0, 0, 0, [], 63, .ireturn, 1, 0),
  (0, 0, 0, 0, [], 64, .aload_n 0, 1, 0),
  (3, 8, 5, 0, [], 65, .getfield 49, 3, 356),
  (0, 0, 0, 0, [], 68, .aload_n 0, 1, 0),
  (3, 8, 8, 0, [], 69, .getfield 69, 3, 359),
  (4, 4, 0, 1, [], 72, .invokevirtual 199, 3, 644),
  (2, 0, 0, 99, [], 75, .bipush 99, 2, 0),
  (19, 42, 0, 0, [], 77, .if_icmp .eq 5, 3, 0),
  (1, 3, 0, 0, [], 80, .iload_n 3, 1, 0),
  (5, 0, 0, 0, [], 81, .ireturn, 1, 0),
  (16, 3, 0, 1, [], 82, .iinc 3 1, 3, 0),
  (6, 20, 0, 0, [], 85, .goto (-46), 3, 0),
  (2, 0, 0, 4294967295, [], 88, .iconst (-1), 1, 0),
  (5, 0, 0, 0, [], 89, .ireturn, 1, 0)]
def m_X8_order : am_M := (yX8_order, cX8_order, 4, some .int)
def t_X8_table : List ri_row := [(1, 1, 0, 0, [], 0, .iload_n 1, 1, 0),
  (17, 99, 0, 1, [], 1, .invokestatic 148, 3, 520),
  (12, 5, 0, 0, [], 4, .ifCond .ne 7, 3, 0),
  (2, 0, 0, 4294966295, [], 7, .sipush (-1001), 3, 0),
  (5, 0, 0, 0, [], 10, .ireturn, 1, 0),
  (0, 0, 0, 0, [], 11, .aload_n 0, 1, 0),
  (1, 2, 0, 0, [], 12, .iload_n 2, 1, 0),
  (4, 101, 8, 1, [], 13, .invokevirtual 175, 3, 588),
  (11, 13, 0, 0, [], 16, .ifCond .eq 11, 3, 0),
  (0, 0, 0, 0, [], 19, .aload_n 0, 1, 0),
  (1, 3, 0, 0, [], 20, .iload_n 3, 1, 0),
  (4, 101, 8, 1, [], 21, .invokevirtual 175, 3, 588),
  (12, 15, 0, 0, [], 24, .ifCond .ne 7, 3, 0),
  (2, 0, 0, 4294966294, [], 27, .sipush (-1002), 3, 0),
  (5, 0, 0, 0, [], 30, .ireturn, 1, 0),
  (0, 0, 0, 0, [], 31, .aload_n 0, 1, 0),
  (3, 8, 8, 0, [], 32, .getfield 69, 3, 359),
  (1, 2, 0, 0, [], 35, .iload_n 2, 1, 0),
  (4, 28, 4, 1, [], 36, .invokevirtual 178, 3, 592),
  (0, 0, 0, 0, [], 39, .aload_n 0, 1, 0),
  (3, 8, 3, 0, [], 40, .getfield 33, 3, 354),
  (0, 0, 0, 0, [], 43, .aload_n 0, 1, 0),
  (3, 8, 1, 0, [], 44, .getfield 17, 3, 352),
  (1, 1, 0, 0, [], 47, .iload_n 1, 1, 0),
  (20, 0, 0, 0, [], 48, .aaload, 1, 0),
  (0, 0, 0, 0, [], 49, .aload_n 0, 1, 0),
  (3, 8, 8, 0, [], 50, .getfield 69, 3, 359),
  (4, 66, 7, 2, [], 53, .invokevirtual 181, 3, 596),
  (11, 34, 0, 0, [], 56, .ifCond .eq 14, 3, 0),
  (0, 0, 0, 0, [], 59, .aload_n 0, 1, 0),
  (3, 8, 8, 0, [], 60, .getfield 69, 3, 359),
  (1, 3, 0, 0, [], 63, .iload_n 3, 1, 0),
  (4, 40, 4, 1, [], 64, .invokevirtual 203, 3, 672),
  (6, 35, 0, 0, [], 67, .goto 6, 3, 0),
  (2, 0, 0, 4294966291, [], 70, .sipush (-1005), 3, 0),
  (5, 0, 0, 0, [], 73, .ireturn, 1, 0)]
def m_X8_table : am_M := (yX8_table, cX8_table, 4, some .int)
def t_X8_character : List ri_row := [(1, 1, 0, 0, [], 0, .iload_n 1, 1, 0),
  (17, 99, 0, 1, [], 1, .invokestatic 148, 3, 520),
  (12, 5, 0, 0, [], 4, .ifCond .ne 7, 3, 0),
  (38, 0, 0, 18446744073709550615, [], 7, .ldc2_w 206, 3, 680),
  (58, 0, 0, 0, [], 10, .lreturn, 1, 0),
  (1, 2, 0, 0, [], 11, .iload_n 2, 1, 0),
  (28, 13, 0, 0, [], 12, .ifCond .lt 13, 3, 0),
  (1, 2, 0, 0, [], 15, .iload_n 2, 1, 0),
  (2, 0, 0, 2, [], 16, .iconst 2, 1, 0),
  (0, 0, 0, 0, [], 17, .aload_n 0, 1, 0),
  (3, 8, 11, 0, [], 18, .getfield 84, 3, 362),
  (15, 0, 0, 0, [], 21, .imul, 1, 0),
  (27, 15, 0, 0, [], 22, .if_icmp .le 7, 3, 0),
  (38, 0, 0, 18446744073709550614, [], 25, .ldc2_w 208, 3, 681),
  (58, 0, 0, 0, [], 28, .lreturn, 1, 0),
  (0, 0, 0, 0, [], 29, .aload_n 0, 1, 0),
  (3, 8, 5, 0, [], 30, .getfield 49, 3, 356),
  (0, 0, 0, 0, [], 33, .aload_n 0, 1, 0),
  (3, 8, 11, 0, [], 34, .getfield 84, 3, 362),
  (4, 1, 0, 1, [], 37, .invokevirtual 193, 3, 626),
  (0, 0, 0, 0, [], 40, .aload_n 0, 1, 0),
  (3, 8, 5, 0, [], 41, .getfield 49, 3, 356),
  (0, 0, 0, 0, [], 44, .aload_n 0, 1, 0),
  (3, 8, 1, 0, [], 45, .getfield 17, 3, 352),
  (1, 1, 0, 0, [], 48, .iload_n 1, 1, 0),
  (20, 0, 0, 0, [], 49, .aaload, 1, 0),
  (4, 2, 0, 1, [], 50, .invokevirtual 196, 3, 631),
  (11, 33, 0, 0, [], 53, .ifCond .eq 14, 3, 0),
  (0, 0, 0, 0, [], 56, .aload_n 0, 1, 0),
  (3, 8, 5, 0, [], 57, .getfield 49, 3, 356),
  (1, 2, 0, 0, [], 60, .iload_n 2, 1, 0),
  (4, 8, 0, 1, [], 61, .invokevirtual 210, 3, 682),
  (6, 34, 0, 0, [], 64, .goto 6, 3, 0),
  (38, 0, 0, 18446744073709550611, [], 67, .ldc2_w 214, 3, 696),
  (58, 0, 0, 0, [], 70, .lreturn, 1, 0)]
def m_X8_character : am_M := (yX8_character, cX8_character, 3, some .long)
def t_X8_length : List ri_row := [(1, 1, 0, 0, [], 0, .iload_n 1, 1, 0),
  (17, 99, 0, 1, [], 1, .invokestatic 148, 3, 520),
  (12, 5, 0, 0, [], 4, .ifCond .ne 7, 3, 0),
  (2, 0, 0, 4294966295, [], 7, .sipush (-1001), 3, 0),
  (5, 0, 0, 0, [], 10, .ireturn, 1, 0),
  (1, 2, 0, 0, [], 11, .iload_n 2, 1, 0),
  (28, 10, 0, 0, [], 12, .ifCond .lt 9, 3, 0),
  (1, 2, 0, 0, [], 15, .iload_n 2, 1, 0),
  (2, 0, 0, 24, [], 16, .bipush 24, 2, 0),
  (27, 12, 0, 0, [], 18, .if_icmp .le 7, 3, 0),
  (2, 0, 0, 4294966294, [], 21, .sipush (-1002), 3, 0),
  (5, 0, 0, 0, [], 24, .ireturn, 1, 0),
  (0, 0, 0, 0, [], 25, .aload_n 0, 1, 0),
  (3, 8, 5, 0, [], 26, .getfield 49, 3, 356),
  (0, 0, 0, 0, [], 29, .aload_n 0, 1, 0),
  (3, 8, 11, 0, [], 30, .getfield 84, 3, 362),
  (4, 1, 0, 1, [], 33, .invokevirtual 193, 3, 626),
  (2, 0, 0, 0, [], 36, .iconst 0, 1, 0),
  (9, 3, 0, 0, [], 37, .istore_n 3, 1, 0),
  (1, 3, 0, 0, [], 38, .iload_n 3, 1, 0),
  (1, 2, 0, 0, [], 39, .iload_n 2, 1, 0),
  (13, 34, 0, 0, [], 40, .if_icmp .ge 29, 3, 0),
  (0, 0, 0, 0, [], 43, .aload_n 0, 1, 0),
  (3, 8, 5, 0, [], 44, .getfield 49, 3, 356),
  (0, 0, 0, 0, [], 47, .aload_n 0, 1, 0),
  (3, 8, 1, 0, [], 48, .getfield 17, 3, 352),
  (1, 1, 0, 0, [], 51, .iload_n 1, 1, 0),
  (20, 0, 0, 0, [], 52, .aaload, 1, 0),
  (4, 2, 0, 1, [], 53, .invokevirtual 196, 3, 631),
  (12, 32, 0, 0, [], 56, .ifCond .ne 7, 3, 0),
  (2, 0, 0, 4294966291, [], 59, .sipush (-1005), 3, 0),
  (5, 0, 0, 0, [], 62, .ireturn, 1, 0),
  (16, 3, 0, 1, [], 63, .iinc 3 1, 3, 0),
  (6, 19, 0, 0, [], 66, .goto (-28), 3, 0),
  (0, 0, 0, 0, [], 69, .aload_n 0, 1, 0),
  (3, 8, 5, 0, [], 70, .getfield 49, 3, 356),
  (4, 3, 0, 0, [], 73, .invokevirtual 216, 3, 701),
  (5, 0, 0, 0, [], 76, .ireturn, 1, 0)]
def m_X8_length : am_M := (yX8_length, cX8_length, 4, some .int)
def t_X8_sort : List ri_row := [(1, 1, 0, 0, [], 0, .iload_n 1, 1, 0),
  (17, 99, 0, 1, [], 1, .invokestatic 148, 3, 520),
  (12, 5, 0, 0, [], 4, .ifCond .ne 7, 3, 0),
  (2, 0, 0, 4294966295, [], 7, .sipush (-1001), 3, 0),
  (5, 0, 0, 0, [], 10, .ireturn, 1, 0),
  (1, 2, 0, 0, [], 11, .iload_n 2, 1, 0),
  (2, 0, 0, 1, [], 12, .iconst 1, 1, 0),
  (26, 11, 0, 0, [], 13, .if_icmp .lt 9, 3, 0),
  (1, 2, 0, 0, [], 16, .iload_n 2, 1, 0),
  (2, 0, 0, 12, [], 17, .bipush 12, 2, 0),
  (27, 13, 0, 0, [], 19, .if_icmp .le 7, 3, 0),
  (2, 0, 0, 4294966294, [], 22, .sipush (-1002), 3, 0),
  (5, 0, 0, 0, [], 25, .ireturn, 1, 0),
  (2, 0, 0, 1, [], 26, .iconst 1, 1, 0),
  (9, 3, 0, 0, [], 27, .istore_n 3, 1, 0),
  (2, 0, 0, 0, [], 28, .iconst 0, 1, 0),
  (9, 4, 0, 0, [], 29, .istore 4, 2, 0),
  (0, 0, 0, 0, [], 31, .aload_n 0, 1, 0),
  (3, 8, 5, 0, [], 32, .getfield 49, 3, 356),
  (0, 0, 0, 0, [], 35, .aload_n 0, 1, 0),
  (3, 8, 11, 0, [], 36, .getfield 84, 3, 362),
  (4, 1, 0, 1, [], 39, .invokevirtual 193, 3, 626),
  (2, 0, 0, 1, [], 42, .iconst 1, 1, 0),
  (9, 5, 0, 0, [], 43, .istore 5, 2, 0),
  (1, 5, 0, 0, [], 45, .iload 5, 2, 0),
  (1, 2, 0, 0, [], 47, .iload_n 2, 1, 0),
  (25, 63, 0, 0, [], 48, .if_icmp .gt 77, 3, 0),
  (0, 0, 0, 0, [], 51, .aload_n 0, 1, 0),
  (3, 8, 5, 0, [], 52, .getfield 49, 3, 356),
  (0, 0, 0, 0, [], 55, .aload_n 0, 1, 0),
  (3, 8, 1, 0, [], 56, .getfield 17, 3, 352),
  (1, 1, 0, 0, [], 59, .iload_n 1, 1, 0),
  (20, 0, 0, 0, [], 60, .aaload, 1, 0),
  (4, 2, 0, 1, [], 61, .invokevirtual 196, 3, 631),
  (12, 37, 0, 0, [], 64, .ifCond .ne 7, 3, 0),
  (2, 0, 0, 4294966291, [], 67, .sipush (-1005), 3, 0),
  (5, 0, 0, 0, [], 70, .ireturn, 1, 0),
  (0, 0, 0, 0, [], 71, .aload_n 0, 1, 0),
  (3, 8, 5, 0, [], 72, .getfield 49, 3, 356),
  (0, 0, 0, 0, [], 75, .aload_n 0, 1, 0),
  (3, 8, 8, 0, [], 76, .getfield 69, 3, 359),
  (4, 4, 0, 1, [], 79, .invokevirtual 199, 3, 644),
  (2, 0, 0, 99, [], 82, .bipush 99, 2, 0),
  (19, 46, 0, 0, [], 84, .if_icmp .eq 5, 3, 0),
  (2, 0, 0, 0, [], 87, .iconst 0, 1, 0),
  (5, 0, 0, 0, [], 88, .ireturn, 1, 0),
  (0, 0, 0, 0, [], 89, .aload_n 0, 1, 0),
  (3, 8, 5, 0, [], 90, .getfield 49, 3, 356),
  (4, 3, 0, 0, [], 93, .invokevirtual 216, 3, 701),
  (9, 6, 0, 0, [], 96, .istore 6, 2, 0),
  (1, 3, 0, 0, [], 98, .iload_n 3, 1, 0),
  (11, 57, 0, 0, [], 99, .ifCond .eq 14, 3, 0),
  (1, 6, 0, 0, [], 102, .iload 6, 2, 0),
  (1, 4, 0, 0, [], 104, .iload 4, 2, 0),
  (27, 57, 0, 0, [], 106, .if_icmp .le 7, 3, 0),
  (2, 0, 0, 1, [], 109, .iconst 1, 1, 0),
  (6, 58, 0, 0, [], 110, .goto 4, 3, 0),
  (2, 0, 0, 0, [], 113, .iconst 0, 1, 0),
  (9, 3, 0, 0, [], 114, .istore_n 3, 1, 0),
  (1, 6, 0, 0, [], 115, .iload 6, 2, 0),
  (9, 4, 0, 0, [], 117, .istore 4, 2, 0),
  (16, 5, 0, 1, [], 119, .iinc 5 1, 3, 0),
  (6, 24, 0, 0, [], 122, .goto (-77), 3, 0),
  (0, 0, 0, 0, [], 125, .aload_n 0, 1, 0),
  (0, 0, 0, 0, [], 126, .aload_n 0, 1, 0),
  (3, 8, 1, 0, [], 127, .getfield 17, 3, 352),
  (1, 1, 0, 0, [], 130, .iload_n 1, 1, 0),
  (20, 0, 0, 0, [], 131, .aaload, 1, 0),
  (1, 2, 0, 0, [], 132, .iload_n 2, 1, 0),
  (4, 107, 8, 2, [], 133, .invokevirtual 220, 3, 709),
  (11, 73, 0, 0, [], 136, .ifCond .eq 5, 3, 0),
  (2, 0, 0, 1, [], 139, .iconst 1, 1, 0),
  (5, 0, 0, 0, [], 140, .ireturn, 1, 0),
  (1, 3, 0, 0, [], 141, .iload_n 3, 1, 0),
  (11, 77, 0, 0, [], 142, .ifCond .eq 7, 3, 0),
  (2, 0, 0, 2, [], 145, .iconst 2, 1, 0),
  (6, 78, 0, 0, [], 146, .goto 4, 3, 0),
  (2, 0, 0, 3, [], 149, .iconst 3, 1, 0),
  (5, 0, 0, 0, [], 150, .ireturn, 1, 0)]
def m_X8_sort : am_M := (yX8_sort, cX8_sort, 7, some .int)
def t_X8_law : List ri_row := [(0, 0, 0, 0, [], 0, .aload_n 0, 1, 0),
  (1, 1, 0, 0, [], 1, .iload_n 1, 1, 0),
  (4, 100, 8, 1, [], 2, .invokevirtual 224, 3, 721),
  (11, 8, 0, 0, [], 5, .ifCond .eq 11, 3, 0),
  (0, 0, 0, 0, [], 8, .aload_n 0, 1, 0),
  (1, 2, 0, 0, [], 9, .iload_n 2, 1, 0),
  (4, 100, 8, 1, [], 10, .invokevirtual 224, 3, 721),
  (12, 10, 0, 0, [], 13, .ifCond .ne 7, 3, 0),
  (2, 0, 0, 4294966295, [], 16, .sipush (-1001), 3, 0),
  (5, 0, 0, 0, [], 19, .ireturn, 1, 0),
  (0, 0, 0, 0, [], 20, .aload_n 0, 1, 0),
  (3, 8, 9, 0, [], 21, .getfield 73, 3, 360),
  (2, 0, 0, 0, [], 24, .iconst 0, 1, 0),
  (14, 2, 1, 0, [], 25, .putfield 162, 3, 241),
  (0, 0, 0, 0, [], 28, .aload_n 0, 1, 0),
  (3, 8, 9, 0, [], 29, .getfield 73, 3, 360),
  (2, 0, 0, 2, [], 32, .iconst 2, 1, 0),
  (1, 1, 0, 0, [], 33, .iload_n 1, 1, 0),
  (15, 0, 0, 0, [], 34, .imul, 1, 0),
  (4, 18, 2, 1, [], 35, .invokevirtual 227, 3, 725),
  (0, 0, 0, 0, [], 38, .aload_n 0, 1, 0),
  (3, 8, 9, 0, [], 39, .getfield 73, 3, 360),
  (2, 0, 0, 2, [], 42, .iconst 2, 1, 0),
  (1, 2, 0, 0, [], 43, .iload_n 2, 1, 0),
  (15, 0, 0, 0, [], 44, .imul, 1, 0),
  (4, 18, 2, 1, [], 45, .invokevirtual 227, 3, 725),
  (0, 0, 0, 0, [], 48, .aload_n 0, 1, 0),
  (3, 8, 10, 0, [], 49, .getfield 77, 3, 361),
  (2, 0, 0, 0, [], 52, .iconst 0, 1, 0),
  (14, 2, 1, 0, [], 53, .putfield 162, 3, 241),
  (0, 0, 0, 0, [], 56, .aload_n 0, 1, 0),
  (3, 8, 10, 0, [], 57, .getfield 77, 3, 361),
  (2, 0, 0, 2, [], 60, .iconst 2, 1, 0),
  (1, 2, 0, 0, [], 61, .iload_n 2, 1, 0),
  (15, 0, 0, 0, [], 62, .imul, 1, 0),
  (4, 18, 2, 1, [], 63, .invokevirtual 227, 3, 725),
  (0, 0, 0, 0, [], 66, .aload_n 0, 1, 0),
  (3, 8, 10, 0, [], 67, .getfield 77, 3, 361),
  (2, 0, 0, 2, [], 70, .iconst 2, 1, 0),
  (1, 1, 0, 0, [], 71, .iload_n 1, 1, 0),
  (15, 0, 0, 0, [], 72, .imul, 1, 0),
  (4, 18, 2, 1, [], 73, .invokevirtual 227, 3, 725),
  (0, 0, 0, 0, [], 76, .aload_n 0, 1, 0),
  (0, 0, 0, 0, [], 77, .aload_n 0, 1, 0),
  (3, 8, 9, 0, [], 78, .getfield 73, 3, 360),
  (0, 0, 0, 0, [], 81, .aload_n 0, 1, 0),
  (3, 8, 10, 0, [], 82, .getfield 77, 3, 361),
  (4, 106, 8, 2, [], 85, .invokevirtual 189, 3, 622),
  (2, 0, 0, 4294967295, [], 88, .iconst (-1), 1, 0),
  (18, 52, 0, 0, [], 89, .if_icmp .ne 5, 3, 0),
  (2, 0, 0, 0, [], 92, .iconst 0, 1, 0),
  (5, 0, 0, 0, [], 93, .ireturn, 1, 0),
  (0, 0, 0, 0, [], 94, .aload_n 0, 1, 0),
  (3, 8, 9, 0, [], 95, .getfield 73, 3, 360),
  (2, 0, 0, 2, [], 98, .iconst 2, 1, 0),
  (1, 1, 0, 0, [], 99, .iload_n 1, 1, 0),
  (15, 0, 0, 0, [], 100, .imul, 1, 0),
  (4, 18, 2, 1, [], 101, .invokevirtual 227, 3, 725),
  (0, 0, 0, 0, [], 104, .aload_n 0, 1, 0),
  (3, 8, 10, 0, [], 105, .getfield 77, 3, 361),
  (2, 0, 0, 2, [], 108, .iconst 2, 1, 0),
  (1, 2, 0, 0, [], 109, .iload_n 2, 1, 0),
  (15, 0, 0, 0, [], 110, .imul, 1, 0),
  (4, 18, 2, 1, [], 111, .invokevirtual 227, 3, 725),
  (0, 0, 0, 0, [], 114, .aload_n 0, 1, 0),
  (0, 0, 0, 0, [], 115, .aload_n 0, 1, 0),
  (3, 8, 9, 0, [], 116, .getfield 73, 3, 360),
  (0, 0, 0, 0, [], 119, .aload_n 0, 1, 0),
  (3, 8, 10, 0, [], 120, .getfield 77, 3, 361),
  (4, 106, 8, 2, [], 123, .invokevirtual 189, 3, 622),
  (2, 0, 0, 4294967295, [], 126, .iconst (-1), 1, 0),
  (18, 74, 0, 0, [], 127, .if_icmp .ne 7, 3, 0),
  (2, 0, 0, 1, [], 130, .iconst 1, 1, 0),
  (6, 75, 0, 0, [], 131, .goto 4, 3, 0),
  (2, 0, 0, 2, [], 134, .iconst 2, 1, 0),
  (5, 0, 0, 0, [], 135, .ireturn, 1, 0)]
def m_X8_law : am_M := (yX8_law, cX8_law, 3, some .int)
def t_X8_carry : List ri_row := [(0, 0, 0, 0, [], 0, .aload_n 0, 1, 0),
  (1, 1, 0, 0, [], 1, .iload_n 1, 1, 0),
  (4, 98, 8, 1, [], 2, .invokevirtual 101, 3, 455),
  (11, 8, 0, 0, [], 5, .ifCond .eq 11, 3, 0),
  (0, 0, 0, 0, [], 8, .aload_n 0, 1, 0),
  (1, 2, 0, 0, [], 9, .iload_n 2, 1, 0),
  (4, 98, 8, 1, [], 10, .invokevirtual 101, 3, 455),
  (12, 10, 0, 0, [], 13, .ifCond .ne 7, 3, 0),
  (2, 0, 0, 4294966295, [], 16, .sipush (-1001), 3, 0),
  (5, 0, 0, 0, [], 19, .ireturn, 1, 0),
  (1, 3, 0, 0, [], 20, .iload_n 3, 1, 0),
  (1, 4, 0, 0, [], 21, .iload 4, 2, 0),
  (17, 102, 0, 2, [], 23, .invokestatic 228, 3, 730),
  (12, 16, 0, 0, [], 26, .ifCond .ne 7, 3, 0),
  (2, 0, 0, 4294966294, [], 29, .sipush (-1002), 3, 0),
  (5, 0, 0, 0, [], 32, .ireturn, 1, 0),
  (0, 0, 0, 0, [], 33, .aload_n 0, 1, 0),
  (3, 8, 6, 0, [], 34, .getfield 58, 3, 357),
  (0, 0, 0, 0, [], 37, .aload_n 0, 1, 0),
  (3, 8, 0, 0, [], 38, .getfield 11, 3, 351),
  (1, 1, 0, 0, [], 41, .iload_n 1, 1, 0),
  (20, 0, 0, 0, [], 42, .aaload, 1, 0),
  (3, 3, 0, 0, [], 43, .getfield 105, 3, 290),
  (0, 0, 0, 0, [], 46, .aload_n 0, 1, 0),
  (3, 8, 0, 0, [], 47, .getfield 11, 3, 351),
  (1, 2, 0, 0, [], 50, .iload_n 2, 1, 0),
  (20, 0, 0, 0, [], 51, .aaload, 1, 0),
  (3, 3, 0, 0, [], 52, .getfield 105, 3, 290),
  (1, 3, 0, 0, [], 55, .iload_n 3, 1, 0),
  (0, 0, 0, 0, [], 56, .aload_n 0, 1, 0),
  (3, 8, 9, 0, [], 57, .getfield 73, 3, 360),
  (4, 42, 5, 4, [], 60, .invokevirtual 231, 3, 733),
  (11, 38, 0, 0, [], 63, .ifCond .eq 15, 3, 0),
  (0, 0, 0, 0, [], 66, .aload_n 0, 1, 0),
  (3, 8, 9, 0, [], 67, .getfield 73, 3, 360),
  (1, 4, 0, 0, [], 70, .iload 4, 2, 0),
  (4, 22, 2, 1, [], 72, .invokevirtual 166, 3, 563),
  (6, 39, 0, 0, [], 75, .goto 4, 3, 0),
  (2, 0, 0, 4294967295, [], 78, .iconst (-1), 1, 0),
  (5, 0, 0, 0, [], 79, .ireturn, 1, 0)]
def m_X8_carry : am_M := (yX8_carry, cX8_carry, 5, some .int)
def t_X8_fewest : List ri_row := [(1, 1, 0, 0, [], 0, .iload_n 1, 1, 0),
  (17, 99, 0, 1, [], 1, .invokestatic 148, 3, 520),
  (12, 5, 0, 0, [], 4, .ifCond .ne 7, 3, 0),
  (2, 0, 0, 4294966295, [], 7, .sipush (-1001), 3, 0),
  (5, 0, 0, 0, [], 10, .ireturn, 1, 0),
  (1, 2, 0, 0, [], 11, .iload_n 2, 1, 0),
  (1, 3, 0, 0, [], 12, .iload_n 3, 1, 0),
  (17, 102, 0, 2, [], 13, .invokestatic 228, 3, 730),
  (12, 11, 0, 0, [], 16, .ifCond .ne 7, 3, 0),
  (2, 0, 0, 4294966294, [], 19, .sipush (-1002), 3, 0),
  (5, 0, 0, 0, [], 22, .ireturn, 1, 0),
  (0, 0, 0, 0, [], 23, .aload_n 0, 1, 0),
  (3, 8, 5, 0, [], 24, .getfield 49, 3, 356),
  (0, 0, 0, 0, [], 27, .aload_n 0, 1, 0),
  (3, 8, 11, 0, [], 28, .getfield 84, 3, 362),
  (4, 1, 0, 1, [], 31, .invokevirtual 193, 3, 626),
  (0, 0, 0, 0, [], 34, .aload_n 0, 1, 0),
  (3, 8, 5, 0, [], 35, .getfield 49, 3, 356),
  (0, 0, 0, 0, [], 38, .aload_n 0, 1, 0),
  (3, 8, 1, 0, [], 39, .getfield 17, 3, 352),
  (1, 1, 0, 0, [], 42, .iload_n 1, 1, 0),
  (20, 0, 0, 0, [], 43, .aaload, 1, 0),
  (4, 2, 0, 1, [], 44, .invokevirtual 196, 3, 631),
  (12, 26, 0, 0, [], 47, .ifCond .ne 7, 3, 0),
  (2, 0, 0, 4294966291, [], 50, .sipush (-1005), 3, 0),
  (5, 0, 0, 0, [], 53, .ireturn, 1, 0),
  (0, 0, 0, 0, [], 54, .aload_n 0, 1, 0),
  (3, 8, 6, 0, [], 55, .getfield 58, 3, 357),
  (1, 2, 0, 0, [], 58, .iload_n 2, 1, 0),
  (0, 0, 0, 0, [], 59, .aload_n 0, 1, 0),
  (3, 8, 9, 0, [], 60, .getfield 73, 3, 360),
  (4, 46, 5, 2, [], 63, .invokevirtual 235, 3, 761),
  (11, 38, 0, 0, [], 66, .ifCond .eq 14, 3, 0),
  (0, 0, 0, 0, [], 69, .aload_n 0, 1, 0),
  (3, 8, 9, 0, [], 70, .getfield 73, 3, 360),
  (1, 3, 0, 0, [], 73, .iload_n 3, 1, 0),
  (4, 22, 2, 1, [], 74, .invokevirtual 166, 3, 563),
  (6, 39, 0, 0, [], 77, .goto 4, 3, 0),
  (2, 0, 0, 4294967295, [], 80, .iconst (-1), 1, 0),
  (5, 0, 0, 0, [], 81, .ireturn, 1, 0)]
def m_X8_fewest : am_M := (yX8_fewest, cX8_fewest, 4, some .int)
def t_X8_layOut : List ri_row := [(0, 0, 0, 0, [], 0, .aload_n 0, 1, 0),
  (1, 1, 0, 0, [], 1, .iload_n 1, 1, 0),
  (14, 8, 11, 0, [], 2, .putfield 84, 3, 362),
  (0, 0, 0, 0, [], 5, .aload_n 0, 1, 0),
  (2, 0, 0, 0, [], 6, .iconst 0, 1, 0),
  (14, 8, 12, 0, [], 7, .putfield 94, 3, 363),
  (0, 0, 0, 0, [], 10, .aload_n 0, 1, 0),
  (3, 8, 2, 0, [], 11, .getfield 26, 3, 353),
  (2, 0, 0, 0, [], 14, .iconst 0, 1, 0),
  (14, 4, 1, 0, [], 15, .putfield 88, 3, 123),
  (2, 0, 0, 0, [], 18, .iconst 0, 1, 0),
  (9, 2, 0, 0, [], 19, .istore_n 2, 1, 0),
  (1, 2, 0, 0, [], 20, .iload_n 2, 1, 0),
  (2, 0, 0, 8, [], 21, .bipush 8, 2, 0),
  (13, 23, 0, 0, [], 23, .if_icmp .ge 19, 3, 0),
  (0, 0, 0, 0, [], 26, .aload_n 0, 1, 0),
  (3, 8, 1, 0, [], 27, .getfield 17, 3, 352),
  (1, 2, 0, 0, [], 30, .iload_n 2, 1, 0),
  (20, 0, 0, 0, [], 31, .aaload, 1, 0),
  (2, 0, 0, 0, [], 32, .iconst 0, 1, 0),
  (14, 2, 1, 0, [], 33, .putfield 162, 3, 241),
  (16, 2, 0, 1, [], 36, .iinc 2 1, 3, 0),
  (6, 12, 0, 0, [], 39, .goto (-19), 3, 0),
  (0, 0, 0, 0, [], 42, .aload_n 0, 1, 0),
  (3, 8, 3, 0, [], 43, .getfield 33, 3, 354),
  (1, 1, 0, 0, [], 46, .iload_n 1, 1, 0),
  (4, 57, 7, 1, [], 47, .invokevirtual 239, 3, 306),
  (21, 0, 0, 0, [], 50, .return_, 1, 0)]
def m_X8_layOut : am_M := (yX8_layOut, cX8_layOut, 3, none)
def t_X8_isRing : List ri_row := [(1, 1, 0, 0, [], 0, .iload_n 1, 1, 0),
  (28, 11, 0, 0, [], 1, .ifCond .lt 21, 3, 0),
  (1, 1, 0, 0, [], 4, .iload_n 1, 1, 0),
  (0, 0, 0, 0, [], 5, .aload_n 0, 1, 0),
  (3, 8, 12, 0, [], 6, .getfield 94, 3, 363),
  (13, 11, 0, 0, [], 9, .if_icmp .ge 13, 3, 0),
  (1, 1, 0, 0, [], 12, .iload_n 1, 1, 0),
  (2, 0, 0, 12, [], 13, .bipush 12, 2, 0),
  (13, 11, 0, 0, [], 15, .if_icmp .ge 7, 3, 0),
  (2, 0, 0, 1, [], 18, .iconst 1, 1, 0),
  (6, 12, 0, 0, [], 19, .goto 4, 3, 0),
  (2, 0, 0, 0, [], 22, .iconst 0, 1, 0),
  (5, 0, 1, 0, [], 23, .ireturn, 1, 0)]
def m_X8_isRing : am_M := (yX8_isRing, cX8_isRing, 2, some .boolean)
def t_X8_isPlan : List ri_row := [(1, 0, 0, 0, [], 0, .iload_n 0, 1, 0),
  (28, 7, 0, 0, [], 1, .ifCond .lt 13, 3, 0),
  (1, 0, 0, 0, [], 4, .iload_n 0, 1, 0),
  (2, 0, 0, 8, [], 5, .bipush 8, 2, 0),
  (13, 7, 0, 0, [], 7, .if_icmp .ge 7, 3, 0),
  (2, 0, 0, 1, [], 10, .iconst 1, 1, 0),
  (6, 8, 0, 0, [], 11, .goto 4, 3, 0),
  (2, 0, 0, 0, [], 14, .iconst 0, 1, 0),
  (5, 0, 1, 0, [], 15, .ireturn, 1, 0)]
def m_X8_isPlan : am_M := (yX8_isPlan, cX8_isPlan, 1, some .boolean)
def t_X8_isTwist : List ri_row := [(1, 1, 0, 0, [], 0, .iload_n 1, 1, 0),
  (28, 9, 0, 0, [], 1, .ifCond .lt 18, 3, 0),
  (1, 1, 0, 0, [], 4, .iload_n 1, 1, 0),
  (0, 0, 0, 0, [], 5, .aload_n 0, 1, 0),
  (3, 8, 3, 0, [], 6, .getfield 33, 3, 354),
  (3, 7, 0, 0, [], 9, .getfield 139, 3, 141),
  (13, 9, 0, 0, [], 12, .if_icmp .ge 7, 3, 0),
  (2, 0, 0, 1, [], 15, .iconst 1, 1, 0),
  (6, 10, 0, 0, [], 16, .goto 4, 3, 0),
  (2, 0, 0, 0, [], 19, .iconst 0, 1, 0),
  (5, 0, 1, 0, [], 20, .ireturn, 1, 0)]
def m_X8_isTwist : am_M := (yX8_isTwist, cX8_isTwist, 2, some .boolean)
def t_X8_isLetter : List ri_row := [(1, 1, 0, 0, [], 0, .iload_n 1, 1, 0),
  (2, 0, 0, 1, [], 1, .iconst 1, 1, 0),
  (26, 11, 0, 0, [], 2, .if_icmp .lt 17, 3, 0),
  (1, 1, 0, 0, [], 5, .iload_n 1, 1, 0),
  (2, 0, 0, 2, [], 6, .iconst 2, 1, 0),
  (0, 0, 0, 0, [], 7, .aload_n 0, 1, 0),
  (3, 8, 11, 0, [], 8, .getfield 84, 3, 362),
  (15, 0, 0, 0, [], 11, .imul, 1, 0),
  (25, 11, 0, 0, [], 12, .if_icmp .gt 7, 3, 0),
  (2, 0, 0, 1, [], 15, .iconst 1, 1, 0),
  (6, 12, 0, 0, [], 16, .goto 4, 3, 0),
  (2, 0, 0, 0, [], 19, .iconst 0, 1, 0),
  (5, 0, 1, 0, [], 20, .ireturn, 1, 0)]
def m_X8_isLetter : am_M := (yX8_isLetter, cX8_isLetter, 2, some .boolean)
def t_X8_isSearch : List ri_row := [(1, 0, 0, 0, [], 0, .iload_n 0, 1, 0),
  (28, 13, 0, 0, [], 1, .ifCond .lt 22, 3, 0),
  (1, 0, 0, 0, [], 4, .iload_n 0, 1, 0),
  (2, 0, 0, 3, [], 5, .iconst 3, 1, 0),
  (25, 13, 0, 0, [], 6, .if_icmp .gt 17, 3, 0),
  (1, 1, 0, 0, [], 9, .iload_n 1, 1, 0),
  (2, 0, 0, 4294967295, [], 10, .iconst (-1), 1, 0),
  (26, 13, 0, 0, [], 11, .if_icmp .lt 12, 3, 0),
  (1, 1, 0, 0, [], 14, .iload_n 1, 1, 0),
  (2, 0, 0, 3, [], 15, .iconst 3, 1, 0),
  (13, 13, 0, 0, [], 16, .if_icmp .ge 7, 3, 0),
  (2, 0, 0, 1, [], 19, .iconst 1, 1, 0),
  (6, 14, 0, 0, [], 20, .goto 4, 3, 0),
  (2, 0, 0, 0, [], 23, .iconst 0, 1, 0),
  (5, 0, 1, 0, [], 24, .ireturn, 1, 0)]
def m_X8_isSearch : am_M := (yX8_isSearch, cX8_isSearch, 2, some .boolean)
def t_X8_oneIf : List ri_row := [(1, 0, 0, 0, [], 0, .iload_n 0, 1, 0),
  (11, 4, 0, 0, [], 1, .ifCond .eq 7, 3, 0),
  (2, 0, 0, 1, [], 4, .iconst 1, 1, 0),
  (6, 5, 0, 0, [], 5, .goto 4, 3, 0),
  (2, 0, 0, 0, [], 8, .iconst 0, 1, 0),
  (5, 0, 0, 0, [], 9, .ireturn, 1, 0)]
def m_X8_oneIf : am_M := (yX8_oneIf, cX8_oneIf, 1, some .int)
def t_X8_firstBarring : List ri_row := [(0, 0, 0, 0, [], 0, .aload_n 0, 1, 0),
  (3, 8, 0, 0, [], 1, .getfield 11, 3, 351),
  (1, 2, 0, 0, [], 4, .iload_n 2, 1, 0),
  (20, 0, 0, 0, [], 5, .aaload, 1, 0),
  (4, 25, 3, 0, [], 6, .invokevirtual 119, 3, 462),
  (12, 8, 0, 0, [], 9, .ifCond .ne 5, 3, 0),
  (1, 2, 0, 0, [], 12, .iload_n 2, 1, 0),
  (5, 0, 0, 0, [], 13, .ireturn, 1, 0),
  (0, 0, 0, 0, [], 14, .aload_n 0, 1, 0),
  (3, 8, 0, 0, [], 15, .getfield 11, 3, 351),
  (1, 2, 0, 0, [], 18, .iload_n 2, 1, 0),
  (20, 0, 0, 0, [], 19, .aaload, 1, 0),
  (3, 3, 0, 0, [], 20, .getfield 105, 3, 290),
  (41, 3, 0, 0, [], 23, .astore_n 3, 1, 0),
  (1, 2, 0, 0, [], 24, .iload_n 2, 1, 0),
  (2, 0, 0, 1, [], 25, .iconst 1, 1, 0),
  (7, 0, 0, 0, [], 26, .iadd, 1, 0),
  (9, 4, 0, 0, [], 27, .istore 4, 2, 0),
  (1, 4, 0, 0, [], 29, .iload 4, 2, 0),
  (0, 0, 0, 0, [], 31, .aload_n 0, 1, 0),
  (3, 8, 12, 0, [], 32, .getfield 94, 3, 363),
  (13, 56, 0, 0, [], 35, .if_icmp .ge 72, 3, 0),
  (1, 1, 0, 0, [], 38, .iload_n 1, 1, 0),
  (1, 4, 0, 0, [], 39, .iload 4, 2, 0),
  (35, 0, 0, 0, [], 41, .ishr, 1, 0),
  (2, 0, 0, 1, [], 42, .iconst 1, 1, 0),
  (33, 0, 0, 0, [], 43, .iand, 1, 0),
  (11, 54, 0, 0, [], 44, .ifCond .eq 57, 3, 0),
  (0, 0, 0, 0, [], 47, .aload_n 0, 1, 0),
  (3, 8, 0, 0, [], 48, .getfield 11, 3, 351),
  (1, 4, 0, 0, [], 51, .iload 4, 2, 0),
  (20, 0, 0, 0, [], 53, .aaload, 1, 0),
  (4, 25, 3, 0, [], 54, .invokevirtual 119, 3, 462),
  (11, 54, 0, 0, [], 57, .ifCond .eq 44, 3, 0),
  (0, 3, 0, 0, [], 60, .aload_n 3, 1, 0),
  (0, 0, 0, 0, [], 61, .aload_n 0, 1, 0),
  (3, 8, 0, 0, [], 62, .getfield 11, 3, 351),
  (1, 4, 0, 0, [], 65, .iload 4, 2, 0),
  (20, 0, 0, 0, [], 67, .aaload, 1, 0),
  (3, 3, 0, 0, [], 68, .getfield 105, 3, 290),
  (4, 35, 4, 1, [], 71, .invokevirtual 131, 3, 479),
  (12, 52, 0, 0, [], 74, .ifCond .ne 24, 3, 0),
  (0, 0, 0, 0, [], 77, .aload_n 0, 1, 0),
  (3, 8, 4, 0, [], 78, .getfield 40, 3, 355),
  (0, 3, 0, 0, [], 81, .aload_n 3, 1, 0),
  (0, 0, 0, 0, [], 82, .aload_n 0, 1, 0),
  (3, 8, 0, 0, [], 83, .getfield 11, 3, 351),
  (1, 4, 0, 0, [], 86, .iload 4, 2, 0),
  (20, 0, 0, 0, [], 88, .aaload, 1, 0),
  (3, 3, 0, 0, [], 89, .getfield 105, 3, 290),
  (4, 11, 1, 2, [], 92, .invokevirtual 127, 3, 474),
  (11, 54, 0, 0, [], 95, .ifCond .eq 6, 3, 0),
  (1, 4, 0, 0, [], 98, .iload 4, 2, 0),
  (5, 0, 0, 0, [], 100, .ireturn, 1, 0),
  (16, 4, 0, 1, [], 101, .iinc 4 1, 3, 0),
  (6, 18, 0, 0, [], 104, .goto (-75), 3, 0),
  (2, 0, 0, 4294967295, [], 107, .iconst (-1), 1, 0),
  (5, 0, 0, 0, [], 108, .ireturn, 1, 0)]
def m_X8_firstBarring : am_M := (yX8_firstBarring, cX8_firstBarring, 5, some .int)
def t_X8_carryToWork : List ri_row := [(0, 0, 0, 0, [], 0, .aload_n 0, 1, 0),
  (3, 8, 8, 0, [], 1, .getfield 69, 3, 359),
  (0, 0, 0, 0, [], 4, .aload_n 0, 1, 0),
  (3, 8, 0, 0, [], 5, .getfield 11, 3, 351),
  (1, 2, 0, 0, [], 8, .iload_n 2, 1, 0),
  (20, 0, 0, 0, [], 9, .aaload, 1, 0),
  (3, 3, 0, 0, [], 10, .getfield 105, 3, 290),
  (4, 29, 4, 1, [], 13, .invokevirtual 240, 3, 612),
  (0, 0, 0, 0, [], 16, .aload_n 0, 1, 0),
  (3, 8, 3, 0, [], 17, .getfield 33, 3, 354),
  (0, 0, 0, 0, [], 20, .aload_n 0, 1, 0),
  (3, 8, 1, 0, [], 21, .getfield 17, 3, 352),
  (1, 1, 0, 0, [], 24, .iload_n 1, 1, 0),
  (20, 0, 0, 0, [], 25, .aaload, 1, 0),
  (0, 0, 0, 0, [], 26, .aload_n 0, 1, 0),
  (3, 8, 8, 0, [], 27, .getfield 69, 3, 359),
  (4, 66, 7, 2, [], 30, .invokevirtual 181, 3, 596),
  (12, 20, 0, 0, [], 33, .ifCond .ne 5, 3, 0),
  (2, 0, 0, 0, [], 36, .iconst 0, 1, 0),
  (5, 0, 1, 0, [], 37, .ireturn, 1, 0),
  (0, 0, 0, 0, [], 38, .aload_n 0, 1, 0),
  (3, 8, 8, 0, [], 39, .getfield 69, 3, 359),
  (4, 33, 4, 0, [], 42, .invokevirtual 243, 3, 613),
  (2, 0, 0, 1, [], 45, .iconst 1, 1, 0),
  (5, 0, 1, 0, [], 46, .ireturn, 1, 0)]
def m_X8_carryToWork : am_M := (yX8_carryToWork, cX8_carryToWork, 3, some .boolean)
def t_X8_firstUnlike : List ri_row := [(0, 0, 0, 0, [], 0, .aload_n 0, 1, 0),
  (3, 8, 5, 0, [], 1, .getfield 49, 3, 356),
  (0, 0, 0, 0, [], 4, .aload_n 0, 1, 0),
  (3, 8, 11, 0, [], 5, .getfield 84, 3, 362),
  (4, 1, 0, 1, [], 8, .invokevirtual 193, 3, 626),
  (0, 0, 0, 0, [], 11, .aload_n 0, 1, 0),
  (3, 8, 5, 0, [], 12, .getfield 49, 3, 356),
  (0, 1, 0, 0, [], 15, .aload_n 1, 1, 0),
  (4, 2, 0, 1, [], 16, .invokevirtual 196, 3, 631),
  (12, 12, 0, 0, [], 19, .ifCond .ne 7, 3, 0),
  (2, 0, 0, 4294966291, [], 22, .sipush (-1005), 3, 0),
  (5, 0, 0, 0, [], 25, .ireturn, 1, 0),
  (2, 0, 0, 4294967295, [], 26, .iconst (-1), 1, 0),
  (9, 3, 0, 0, [], 27, .istore_n 3, 1, 0),
  (2, 0, 0, 1, [], 28, .iconst 1, 1, 0),
  (9, 4, 0, 0, [], 29, .istore 4, 2, 0),
  (1, 4, 0, 0, [], 31, .iload 4, 2, 0),
  (2, 0, 0, 2, [], 33, .iconst 2, 1, 0),
  (0, 0, 0, 0, [], 34, .aload_n 0, 1, 0),
  (3, 8, 11, 0, [], 35, .getfield 84, 3, 362),
  (15, 0, 0, 0, [], 38, .imul, 1, 0),
  (25, 53, 0, 0, [], 39, .if_icmp .gt 67, 3, 0),
  (0, 0, 0, 0, [], 42, .aload_n 0, 1, 0),
  (3, 8, 8, 0, [], 43, .getfield 69, 3, 359),
  (1, 4, 0, 0, [], 46, .iload 4, 2, 0),
  (4, 28, 4, 1, [], 48, .invokevirtual 178, 3, 592),
  (0, 0, 0, 0, [], 51, .aload_n 0, 1, 0),
  (3, 8, 3, 0, [], 52, .getfield 33, 3, 354),
  (0, 2, 0, 0, [], 55, .aload_n 2, 1, 0),
  (0, 0, 0, 0, [], 56, .aload_n 0, 1, 0),
  (3, 8, 8, 0, [], 57, .getfield 69, 3, 359),
  (4, 66, 7, 2, [], 60, .invokevirtual 181, 3, 596),
  (12, 35, 0, 0, [], 63, .ifCond .ne 7, 3, 0),
  (2, 0, 0, 4294966291, [], 66, .sipush (-1005), 3, 0),
  (5, 0, 0, 0, [], 69, .ireturn, 1, 0),
  (1, 3, 0, 0, [], 70, .iload_n 3, 1, 0),
  (2, 0, 0, 4294967295, [], 71, .iconst (-1), 1, 0),
  (18, 51, 0, 0, [], 72, .if_icmp .ne 28, 3, 0),
  (0, 0, 0, 0, [], 75, .aload_n 0, 1, 0),
  (3, 8, 8, 0, [], 76, .getfield 69, 3, 359),
  (0, 0, 0, 0, [], 79, .aload_n 0, 1, 0),
  (3, 8, 5, 0, [], 80, .getfield 49, 3, 356),
  (3, 0, 0, 0, [], 83, .getfield 246, 3, 180),
  (1, 4, 0, 0, [], 86, .iload 4, 2, 0),
  (2, 0, 0, 1, [], 88, .iconst 1, 1, 0),
  (10, 0, 0, 0, [], 89, .isub, 1, 0),
  (20, 0, 0, 0, [], 90, .aaload, 1, 0),
  (4, 34, 4, 1, [], 91, .invokevirtual 250, 3, 636),
  (12, 51, 0, 0, [], 94, .ifCond .ne 6, 3, 0),
  (1, 4, 0, 0, [], 97, .iload 4, 2, 0),
  (9, 3, 0, 0, [], 99, .istore_n 3, 1, 0),
  (16, 4, 0, 1, [], 100, .iinc 4 1, 3, 0),
  (6, 16, 0, 0, [], 103, .goto (-72), 3, 0),
  (1, 3, 0, 0, [], 106, .iload_n 3, 1, 0),
  (5, 0, 0, 0, [], 107, .ireturn, 1, 0)]
def m_X8_firstUnlike : am_M := (yX8_firstUnlike, cX8_firstUnlike, 5, some .int)
def t_X8_keepsSomeRing : List ri_row := [(2, 0, 0, 0, [], 0, .iconst 0, 1, 0),
  (9, 3, 0, 0, [], 1, .istore_n 3, 1, 0),
  (1, 3, 0, 0, [], 2, .iload_n 3, 1, 0),
  (0, 0, 0, 0, [], 3, .aload_n 0, 1, 0),
  (3, 8, 12, 0, [], 4, .getfield 94, 3, 363),
  (13, 26, 0, 0, [], 7, .if_icmp .ge 41, 3, 0),
  (0, 0, 0, 0, [], 10, .aload_n 0, 1, 0),
  (3, 8, 0, 0, [], 11, .getfield 11, 3, 351),
  (1, 3, 0, 0, [], 14, .iload_n 3, 1, 0),
  (20, 0, 0, 0, [], 15, .aaload, 1, 0),
  (4, 25, 3, 0, [], 16, .invokevirtual 119, 3, 462),
  (11, 24, 0, 0, [], 19, .ifCond .eq 23, 3, 0),
  (0, 0, 0, 0, [], 22, .aload_n 0, 1, 0),
  (0, 1, 0, 0, [], 23, .aload_n 1, 1, 0),
  (1, 2, 0, 0, [], 24, .iload_n 2, 1, 0),
  (0, 0, 0, 0, [], 25, .aload_n 0, 1, 0),
  (3, 8, 0, 0, [], 26, .getfield 11, 3, 351),
  (1, 3, 0, 0, [], 29, .iload_n 3, 1, 0),
  (20, 0, 0, 0, [], 30, .aaload, 1, 0),
  (3, 3, 0, 0, [], 31, .getfield 105, 3, 290),
  (4, 108, 8, 3, [], 34, .invokevirtual 253, 3, 713),
  (11, 24, 0, 0, [], 37, .ifCond .eq 5, 3, 0),
  (2, 0, 0, 1, [], 40, .iconst 1, 1, 0),
  (5, 0, 1, 0, [], 41, .ireturn, 1, 0),
  (16, 3, 0, 1, [], 42, .iinc 3 1, 3, 0),
  (6, 2, 0, 0, [], 45, .goto (-43), 3, 0),
  (2, 0, 0, 0, [], 48, .iconst 0, 1, 0),
  (5, 0, 1, 0, [], 49, .ireturn, 1, 0)]
def m_X8_keepsSomeRing : am_M := (yX8_keepsSomeRing, cX8_keepsSomeRing, 4, some .boolean)
def t_X8_keepsRing : List ri_row := [(0, 0, 0, 0, [], 0, .aload_n 0, 1, 0),
  (3, 8, 8, 0, [], 1, .getfield 69, 3, 359),
  (0, 3, 0, 0, [], 4, .aload_n 3, 1, 0),
  (4, 29, 4, 1, [], 5, .invokevirtual 240, 3, 612),
  (2, 0, 0, 1, [], 8, .iconst 1, 1, 0),
  (9, 4, 0, 0, [], 9, .istore 4, 2, 0),
  (1, 4, 0, 0, [], 11, .iload 4, 2, 0),
  (1, 2, 0, 0, [], 13, .iload_n 2, 1, 0),
  (25, 27, 0, 0, [], 14, .if_icmp .gt 39, 3, 0),
  (0, 0, 0, 0, [], 17, .aload_n 0, 1, 0),
  (3, 8, 3, 0, [], 18, .getfield 33, 3, 354),
  (0, 1, 0, 0, [], 21, .aload_n 1, 1, 0),
  (0, 0, 0, 0, [], 22, .aload_n 0, 1, 0),
  (3, 8, 8, 0, [], 23, .getfield 69, 3, 359),
  (4, 66, 7, 2, [], 26, .invokevirtual 181, 3, 596),
  (12, 18, 0, 0, [], 29, .ifCond .ne 5, 3, 0),
  (2, 0, 0, 0, [], 32, .iconst 0, 1, 0),
  (5, 0, 1, 0, [], 33, .ireturn, 1, 0),
  (0, 0, 0, 0, [], 34, .aload_n 0, 1, 0),
  (3, 8, 8, 0, [], 35, .getfield 69, 3, 359),
  (0, 3, 0, 0, [], 38, .aload_n 3, 1, 0),
  (4, 35, 4, 1, [], 39, .invokevirtual 131, 3, 479),
  (11, 25, 0, 0, [], 42, .ifCond .eq 5, 3, 0),
  (2, 0, 0, 1, [], 45, .iconst 1, 1, 0),
  (5, 0, 1, 0, [], 46, .ireturn, 1, 0),
  (16, 4, 0, 1, [], 47, .iinc 4 1, 3, 0),
  (6, 6, 0, 0, [], 50, .goto (-39), 3, 0),
  (2, 0, 0, 0, [], 53, .iconst 0, 1, 0),
  (5, 0, 1, 0, [], 54, .ireturn, 1, 0)]
def m_X8_keepsRing : am_M := (yX8_keepsRing, cX8_keepsRing, 5, some .boolean)
def t_X9_init : List ri_row := [(0, 0, 0, 0, [], 0, .aload_n 0, 1, 0),
  (59, 0, 1, 0, [], 1, .invokespecial 1, 3, 777),
  (0, 0, 0, 0, [], 4, .aload_n 0, 1, 0),
  (2, 0, 0, 60, [], 5, .bipush 60, 2, 0),
  (50, 0, 0, 0, [], 7, .newarray .int, 2, 0),
  (14, 9, 2, 2, [], 9, .putfield 7, 3, 784),
  (0, 0, 0, 0, [], 12, .aload_n 0, 1, 0),
  (2, 0, 0, 12, [], 13, .bipush 12, 2, 0),
  (50, 0, 0, 0, [], 15, .newarray .int, 2, 0),
  (14, 9, 4, 2, [], 17, .putfield 13, 3, 786),
  (0, 0, 0, 0, [], 20, .aload_n 0, 1, 0),
  (2, 0, 0, 720, [], 21, .sipush 720, 3, 0),
  (50, 0, 0, 0, [], 24, .newarray .int, 2, 0),
  (14, 9, 5, 2, [], 26, .putfield 16, 3, 787),
  (0, 0, 0, 0, [], 29, .aload_n 0, 1, 0),
  (2, 0, 0, 9, [], 30, .bipush 9, 2, 0),
  (50, 0, 0, 0, [], 32, .newarray .int, 2, 0),
  (14, 9, 6, 2, [], 34, .putfield 19, 3, 788),
  (0, 0, 0, 0, [], 37, .aload_n 0, 1, 0),
  (2, 0, 0, 540, [], 38, .sipush 540, 3, 0),
  (50, 0, 0, 0, [], 41, .newarray .int, 2, 0),
  (14, 9, 7, 2, [], 43, .putfield 22, 3, 789),
  (0, 0, 0, 0, [], 46, .aload_n 0, 1, 0),
  (2, 0, 0, 400, [], 47, .sipush 400, 3, 0),
  (50, 0, 0, 0, [], 50, .newarray .int, 2, 0),
  (14, 9, 8, 2, [], 52, .putfield 25, 3, 790),
  (0, 0, 0, 0, [], 55, .aload_n 0, 1, 0),
  (2, 0, 0, 400, [], 56, .sipush 400, 3, 0),
  (50, 0, 0, 0, [], 59, .newarray .int, 2, 0),
  (14, 9, 10, 2, [], 61, .putfield 28, 3, 792),
  (0, 0, 0, 0, [], 64, .aload_n 0, 1, 0),
  (2, 0, 0, 401, [], 65, .sipush 401, 3, 0),
  (50, 0, 0, 0, [], 68, .newarray .int, 2, 0),
  (14, 9, 12, 2, [], 70, .putfield 31, 3, 794),
  (0, 0, 0, 0, [], 73, .aload_n 0, 1, 0),
  (2, 0, 0, 3700, [], 74, .sipush 3700, 3, 0),
  (50, 0, 0, 0, [], 77, .newarray .int, 2, 0),
  (14, 9, 14, 2, [], 79, .putfield 34, 3, 796),
  (0, 0, 0, 0, [], 82, .aload_n 0, 1, 0),
  (2, 0, 0, 120, [], 83, .bipush 120, 2, 0),
  (50, 0, 0, 0, [], 85, .newarray .int, 2, 0),
  (14, 9, 16, 2, [], 87, .putfield 37, 3, 798),
  (0, 0, 0, 0, [], 90, .aload_n 0, 1, 0),
  (2, 0, 0, 4294967295, [], 91, .iconst (-1), 1, 0),
  (14, 9, 20, 0, [], 92, .putfield 40, 3, 802),
  (0, 0, 0, 0, [], 95, .aload_n 0, 1, 0),
  (2, 0, 0, 4, [], 96, .iconst 4, 1, 0),
  (50, 0, 0, 0, [], 97, .newarray .int, 2, 0),
  (14, 9, 21, 2, [], 99, .putfield 44, 3, 803),
  (0, 0, 0, 0, [], 102, .aload_n 0, 1, 0),
  (2, 0, 0, 600, [], 103, .sipush 600, 3, 0),
  (50, 0, 0, 0, [], 106, .newarray .int, 2, 0),
  (14, 9, 23, 2, [], 108, .putfield 47, 3, 805),
  (0, 0, 0, 0, [], 111, .aload_n 0, 1, 0),
  (2, 0, 0, 2400, [], 112, .sipush 2400, 3, 0),
  (50, 0, 0, 0, [], 115, .newarray .int, 2, 0),
  (14, 9, 25, 2, [], 117, .putfield 50, 3, 807),
  (0, 0, 0, 0, [], 120, .aload_n 0, 1, 0),
  (2, 0, 0, 6, [], 121, .bipush 6, 2, 0),
  (50, 0, 0, 0, [], 123, .newarray .int, 2, 0),
  (14, 9, 26, 2, [], 125, .putfield 53, 3, 808),
  (0, 0, 0, 0, [], 128, .aload_n 0, 1, 0),
  (2, 0, 0, 64, [], 129, .bipush 64, 2, 0),
  (51, 0, 0, 0, [], 131, .newarray .long, 2, 0),
  (14, 9, 27, 2, [], 133, .putfield 56, 3, 809),
  (0, 0, 0, 0, [], 136, .aload_n 0, 1, 0),
  (2, 0, 0, 2, [], 137, .iconst 2, 1, 0),
  (4, 112, 9, 1, [], 138, .invokevirtual 60, 3, 778),
  (21, 0, 0, 0, [], 141, .return_, 1, 0)]
def m_X9_init : am_M := (yX9_init, cX9_init, 1, none)
def t_X9_in : List ri_row := [(39, 0, 0, 0, [], 0, .lload_n 0, 1, 0),
  (39, 2, 0, 0, [], 1, .lload_n 2, 1, 0),
  (42, 0, 0, 0, [], 2, .lcmp, 1, 0),
  (28, 10, 0, 0, [], 3, .ifCond .lt 14, 3, 0),
  (39, 0, 0, 0, [], 6, .lload_n 0, 1, 0),
  (39, 4, 0, 0, [], 7, .lload 4, 2, 0),
  (42, 0, 0, 0, [], 9, .lcmp, 1, 0),
  (31, 10, 0, 0, [], 10, .ifCond .gt 7, 3, 0),
  (2, 0, 0, 1, [], 13, .iconst 1, 1, 0),
  (6, 11, 0, 0, [], 14, .goto 4, 3, 0),
  (2, 0, 0, 0, [], 17, .iconst 0, 1, 0),
  (5, 0, 1, 0, [], 18, .ireturn, 1, 0)]
def m_X9_in : am_M := (yX9_in, cX9_in, 6, some .boolean)
def t_X9_bit : List ri_row := [(1, 0, 0, 0, [], 0, .iload_n 0, 1, 0),
  (11, 4, 0, 0, [], 1, .ifCond .eq 7, 3, 0),
  (2, 0, 0, 1, [], 4, .iconst 1, 1, 0),
  (6, 5, 0, 0, [], 5, .goto 4, 3, 0),
  (2, 0, 0, 0, [], 8, .iconst 0, 1, 0),
  (5, 0, 0, 0, [], 9, .ireturn, 1, 0)]
def m_X9_bit : am_M := (yX9_bit, cX9_bit, 1, some .int)
def t_X9_lay : List ri_row := [(0, 0, 0, 0, [], 0, .aload_n 0, 1, 0),
  (1, 1, 0, 0, [], 1, .iload_n 1, 1, 0),
  (14, 9, 0, 0, [], 2, .putfield 64, 3, 782),
  (0, 0, 0, 0, [], 5, .aload_n 0, 1, 0),
  (2, 0, 0, 0, [], 6, .iconst 0, 1, 0),
  (14, 9, 1, 0, [], 7, .putfield 67, 3, 783),
  (0, 0, 0, 0, [], 10, .aload_n 0, 1, 0),
  (2, 0, 0, 0, [], 11, .iconst 0, 1, 0),
  (14, 9, 3, 0, [], 12, .putfield 70, 3, 785),
  (2, 0, 0, 0, [], 15, .iconst 0, 1, 0),
  (9, 2, 0, 0, [], 16, .istore_n 2, 1, 0),
  (1, 2, 0, 0, [], 17, .iload_n 2, 1, 0),
  (2, 0, 0, 9, [], 18, .bipush 9, 2, 0),
  (13, 21, 0, 0, [], 20, .if_icmp .ge 16, 3, 0),
  (0, 0, 0, 0, [], 23, .aload_n 0, 1, 0),
  (3, 9, 6, 0, [], 24, .getfield 19, 3, 788),
  (1, 2, 0, 0, [], 27, .iload_n 2, 1, 0),
  (2, 0, 0, 0, [], 28, .iconst 0, 1, 0),
  (22, 0, 0, 0, [], 29, .iastore, 1, 0),
  (16, 2, 0, 1, [], 30, .iinc 2 1, 3, 0),
  (6, 11, 0, 0, [], 33, .goto (-16), 3, 0),
  (21, 0, 0, 0, [], 36, .return_, 1, 0)]
def m_X9_lay : am_M := (yX9_lay, cX9_lay, 3, none)
def t_X9_skin : List ri_row := [(1, 1, 0, 0, [], 0, .iload_n 1, 1, 0),
  (24, 0, 0, 0, [], 1, .i2l, 1, 0),
  (38, 0, 0, 1, [], 2, .lconst 1, 1, 0),
  (38, 0, 0, 3, [], 3, .ldc2_w 73, 3, 872),
  (17, 110, 0, 3, [], 6, .invokestatic 75, 3, 873),
  (12, 8, 0, 0, [], 9, .ifCond .ne 7, 3, 0),
  (2, 0, 0, 4294966294, [], 12, .sipush (-1002), 3, 0),
  (5, 0, 0, 0, [], 15, .ireturn, 1, 0),
  (0, 0, 0, 0, [], 16, .aload_n 0, 1, 0),
  (1, 1, 0, 0, [], 17, .iload_n 1, 1, 0),
  (4, 112, 9, 1, [], 18, .invokevirtual 60, 3, 778),
  (2, 0, 0, 2, [], 21, .iconst 2, 1, 0),
  (0, 0, 0, 0, [], 22, .aload_n 0, 1, 0),
  (3, 9, 0, 0, [], 23, .getfield 64, 3, 782),
  (15, 0, 0, 0, [], 26, .imul, 1, 0),
  (5, 0, 0, 0, [], 27, .ireturn, 1, 0)]
def m_X9_skin : am_M := (yX9_skin, cX9_skin, 2, some .int)
def t_X9_twists : List ri_row := [(2, 0, 0, 3, [], 0, .iconst 3, 1, 0),
  (0, 0, 0, 0, [], 1, .aload_n 0, 1, 0),
  (3, 9, 0, 0, [], 2, .getfield 64, 3, 782),
  (15, 0, 0, 0, [], 5, .imul, 1, 0),
  (2, 0, 0, 1, [], 6, .iconst 1, 1, 0),
  (10, 0, 0, 0, [], 7, .isub, 1, 0),
  (5, 0, 0, 0, [], 8, .ireturn, 1, 0)]
def m_X9_twists : am_M := (yX9_twists, cX9_twists, 1, some .int)
def t_X9_isLetter : List ri_row := [(1, 1, 0, 0, [], 0, .iload_n 1, 1, 0),
  (11, 18, 0, 0, [], 1, .ifCond .eq 30, 3, 0),
  (1, 1, 0, 0, [], 4, .iload_n 1, 1, 0),
  (24, 0, 0, 0, [], 5, .i2l, 1, 0),
  (2, 0, 0, 4294967294, [], 6, .bipush (-2), 2, 0),
  (0, 0, 0, 0, [], 8, .aload_n 0, 1, 0),
  (3, 9, 0, 0, [], 9, .getfield 64, 3, 782),
  (15, 0, 0, 0, [], 12, .imul, 1, 0),
  (24, 0, 0, 0, [], 13, .i2l, 1, 0),
  (2, 0, 0, 2, [], 14, .iconst 2, 1, 0),
  (0, 0, 0, 0, [], 15, .aload_n 0, 1, 0),
  (3, 9, 0, 0, [], 16, .getfield 64, 3, 782),
  (15, 0, 0, 0, [], 19, .imul, 1, 0),
  (24, 0, 0, 0, [], 20, .i2l, 1, 0),
  (17, 110, 0, 3, [], 21, .invokestatic 75, 3, 873),
  (11, 18, 0, 0, [], 24, .ifCond .eq 7, 3, 0),
  (2, 0, 0, 1, [], 27, .iconst 1, 1, 0),
  (6, 19, 0, 0, [], 28, .goto 4, 3, 0),
  (2, 0, 0, 0, [], 31, .iconst 0, 1, 0),
  (5, 0, 1, 0, [], 32, .ireturn, 1, 0)]
def m_X9_isLetter : am_M := (yX9_isLetter, cX9_isLetter, 2, some .boolean)
def t_X9_letter : List ri_row := [(0, 0, 0, 0, [], 0, .aload_n 0, 1, 0),
  (1, 1, 0, 0, [], 1, .iload_n 1, 1, 0),
  (4, 115, 9, 1, [], 2, .invokevirtual 79, 3, 880),
  (12, 6, 0, 0, [], 5, .ifCond .ne 7, 3, 0),
  (2, 0, 0, 4294966294, [], 8, .sipush (-1002), 3, 0),
  (5, 0, 0, 0, [], 11, .ireturn, 1, 0),
  (0, 0, 0, 0, [], 12, .aload_n 0, 1, 0),
  (3, 9, 1, 0, [], 13, .getfield 67, 3, 783),
  (2, 0, 0, 60, [], 16, .bipush 60, 2, 0),
  (18, 12, 0, 0, [], 18, .if_icmp .ne 7, 3, 0),
  (2, 0, 0, 4294966292, [], 21, .sipush (-1004), 3, 0),
  (5, 0, 0, 0, [], 24, .ireturn, 1, 0),
  (0, 0, 0, 0, [], 25, .aload_n 0, 1, 0),
  (3, 9, 1, 0, [], 26, .getfield 67, 3, 783),
  (29, 33, 0, 0, [], 29, .ifCond .le 33, 3, 0),
  (0, 0, 0, 0, [], 32, .aload_n 0, 1, 0),
  (3, 9, 2, 0, [], 33, .getfield 7, 3, 784),
  (0, 0, 0, 0, [], 36, .aload_n 0, 1, 0),
  (3, 9, 1, 0, [], 37, .getfield 67, 3, 783),
  (2, 0, 0, 1, [], 40, .iconst 1, 1, 0),
  (10, 0, 0, 0, [], 41, .isub, 1, 0),
  (8, 0, 0, 0, [], 42, .iaload, 1, 0),
  (2, 0, 0, 0, [], 43, .iconst 0, 1, 0),
  (1, 1, 0, 0, [], 44, .iload_n 1, 1, 0),
  (10, 0, 0, 0, [], 45, .isub, 1, 0),
  (18, 33, 0, 0, [], 46, .if_icmp .ne 16, 3, 0),
  (0, 0, 0, 0, [], 49, .aload_n 0, 1, 0),
  (23, 0, 0, 0, [], 50, .dup, 1, 0),
  (3, 9, 1, 0, [], 51, .getfield 67, 3, 783),
  (2, 0, 0, 1, [], 54, .iconst 1, 1, 0),
  (10, 0, 0, 0, [], 55, .isub, 1, 0),
  (14, 9, 1, 0, [], 56, .putfield 67, 3, 783),
  (6, 45, 0, 0, [], 59, .goto 23, 3, 0),
  (0, 0, 0, 0, [], 62, .aload_n 0, 1, 0),
  (3, 9, 2, 0, [], 63, .getfield 7, 3, 784),
  (0, 0, 0, 0, [], 66, .aload_n 0, 1, 0),
  (3, 9, 1, 0, [], 67, .getfield 67, 3, 783),
  (1, 1, 0, 0, [], 70, .iload_n 1, 1, 0),
  (22, 0, 0, 0, [], 71, .iastore, 1, 0),
  (0, 0, 0, 0, [], 72, .aload_n 0, 1, 0),
  (23, 0, 0, 0, [], 73, .dup, 1, 0),
  (3, 9, 1, 0, [], 74, .getfield 67, 3, 783),
  (2, 0, 0, 1, [], 77, .iconst 1, 1, 0),
  (7, 0, 0, 0, [], 78, .iadd, 1, 0),
  (14, 9, 1, 0, [], 79, .putfield 67, 3, 783),
  (0, 0, 0, 0, [], 82, .aload_n 0, 1, 0),
  (3, 9, 1, 0, [], 83, .getfield 67, 3, 783),
  (5, 0, 0, 0, [], 86, .ireturn, 1, 0)]
def m_X9_letter : am_M := (yX9_letter, cX9_letter, 2, some .int)
def t_X9_ring : List ri_row := [(2, 0, 0, 0, [], 0, .iconst 0, 1, 0),
  (9, 1, 0, 0, [], 1, .istore_n 1, 1, 0),
  (0, 0, 0, 0, [], 2, .aload_n 0, 1, 0),
  (3, 9, 1, 0, [], 3, .getfield 67, 3, 783),
  (9, 2, 0, 0, [], 6, .istore_n 2, 1, 0),
  (1, 2, 0, 0, [], 7, .iload_n 2, 1, 0),
  (1, 1, 0, 0, [], 8, .iload_n 1, 1, 0),
  (10, 0, 0, 0, [], 9, .isub, 1, 0),
  (2, 0, 0, 1, [], 10, .iconst 1, 1, 0),
  (27, 26, 0, 0, [], 11, .if_icmp .le 31, 3, 0),
  (0, 0, 0, 0, [], 14, .aload_n 0, 1, 0),
  (3, 9, 2, 0, [], 15, .getfield 7, 3, 784),
  (1, 1, 0, 0, [], 18, .iload_n 1, 1, 0),
  (8, 0, 0, 0, [], 19, .iaload, 1, 0),
  (2, 0, 0, 0, [], 20, .iconst 0, 1, 0),
  (0, 0, 0, 0, [], 21, .aload_n 0, 1, 0),
  (3, 9, 2, 0, [], 22, .getfield 7, 3, 784),
  (1, 2, 0, 0, [], 25, .iload_n 2, 1, 0),
  (2, 0, 0, 1, [], 26, .iconst 1, 1, 0),
  (10, 0, 0, 0, [], 27, .isub, 1, 0),
  (8, 0, 0, 0, [], 28, .iaload, 1, 0),
  (10, 0, 0, 0, [], 29, .isub, 1, 0),
  (18, 26, 0, 0, [], 30, .if_icmp .ne 12, 3, 0),
  (16, 1, 0, 1, [], 33, .iinc 1 1, 3, 0),
  (16, 2, 0, 4294967295, [], 36, .iinc 2 (-1), 3, 0),
  (6, 5, 0, 0, [], 39, .goto (-32), 3, 0),
  (1, 2, 0, 0, [], 42, .iload_n 2, 1, 0),
  (1, 1, 0, 0, [], 43, .iload_n 1, 1, 0),
  (10, 0, 0, 0, [], 44, .isub, 1, 0),
  (2, 0, 0, 1, [], 45, .iconst 1, 1, 0),
  (13, 33, 0, 0, [], 46, .if_icmp .ge 7, 3, 0),
  (2, 0, 0, 4294966293, [], 49, .sipush (-1003), 3, 0),
  (5, 0, 0, 0, [], 52, .ireturn, 1, 0),
  (0, 0, 0, 0, [], 53, .aload_n 0, 1, 0),
  (3, 9, 3, 0, [], 54, .getfield 70, 3, 785),
  (2, 0, 0, 12, [], 57, .bipush 12, 2, 0),
  (18, 39, 0, 0, [], 59, .if_icmp .ne 7, 3, 0),
  (2, 0, 0, 4294966292, [], 62, .sipush (-1004), 3, 0),
  (5, 0, 0, 0, [], 65, .ireturn, 1, 0),
  (0, 0, 0, 0, [], 66, .aload_n 0, 1, 0),
  (3, 9, 4, 0, [], 67, .getfield 13, 3, 786),
  (0, 0, 0, 0, [], 70, .aload_n 0, 1, 0),
  (3, 9, 3, 0, [], 71, .getfield 70, 3, 785),
  (1, 2, 0, 0, [], 74, .iload_n 2, 1, 0),
  (1, 1, 0, 0, [], 75, .iload_n 1, 1, 0),
  (10, 0, 0, 0, [], 76, .isub, 1, 0),
  (22, 0, 0, 0, [], 77, .iastore, 1, 0),
  (1, 1, 0, 0, [], 78, .iload_n 1, 1, 0),
  (9, 3, 0, 0, [], 79, .istore_n 3, 1, 0),
  (1, 3, 0, 0, [], 80, .iload_n 3, 1, 0),
  (1, 2, 0, 0, [], 81, .iload_n 2, 1, 0),
  (13, 69, 0, 0, [], 82, .if_icmp .ge 31, 3, 0),
  (0, 0, 0, 0, [], 85, .aload_n 0, 1, 0),
  (3, 9, 5, 0, [], 86, .getfield 16, 3, 787),
  (2, 0, 0, 60, [], 89, .bipush 60, 2, 0),
  (0, 0, 0, 0, [], 91, .aload_n 0, 1, 0),
  (3, 9, 3, 0, [], 92, .getfield 70, 3, 785),
  (15, 0, 0, 0, [], 95, .imul, 1, 0),
  (1, 3, 0, 0, [], 96, .iload_n 3, 1, 0),
  (7, 0, 0, 0, [], 97, .iadd, 1, 0),
  (1, 1, 0, 0, [], 98, .iload_n 1, 1, 0),
  (10, 0, 0, 0, [], 99, .isub, 1, 0),
  (0, 0, 0, 0, [], 100, .aload_n 0, 1, 0),
  (3, 9, 2, 0, [], 101, .getfield 7, 3, 784),
  (1, 3, 0, 0, [], 104, .iload_n 3, 1, 0),
  (8, 0, 0, 0, [], 105, .iaload, 1, 0),
  (22, 0, 0, 0, [], 106, .iastore, 1, 0),
  (16, 3, 0, 1, [], 107, .iinc 3 1, 3, 0),
  (6, 49, 0, 0, [], 110, .goto (-30), 3, 0),
  (0, 0, 0, 0, [], 113, .aload_n 0, 1, 0),
  (2, 0, 0, 0, [], 114, .iconst 0, 1, 0),
  (14, 9, 1, 0, [], 115, .putfield 67, 3, 783),
  (0, 0, 0, 0, [], 118, .aload_n 0, 1, 0),
  (23, 0, 0, 0, [], 119, .dup, 1, 0),
  (3, 9, 3, 0, [], 120, .getfield 70, 3, 785),
  (2, 0, 0, 1, [], 123, .iconst 1, 1, 0),
  (7, 0, 0, 0, [], 124, .iadd, 1, 0),
  (14, 9, 3, 0, [], 125, .putfield 70, 3, 785),
  (0, 0, 0, 0, [], 128, .aload_n 0, 1, 0),
  (3, 9, 3, 0, [], 129, .getfield 70, 3, 785),
  (2, 0, 0, 1, [], 132, .iconst 1, 1, 0),
  (10, 0, 0, 0, [], 133, .isub, 1, 0),
  (5, 0, 0, 0, [], 134, .ireturn, 1, 0)]
def m_X9_ring : am_M := (yX9_ring, cX9_ring, 4, some .int)
def t_X9_noRing : List ri_row := [(1, 1, 0, 0, [], 0, .iload_n 1, 1, 0),
  (24, 0, 0, 0, [], 1, .i2l, 1, 0),
  (38, 0, 0, 0, [], 2, .lconst 0, 1, 0),
  (0, 0, 0, 0, [], 3, .aload_n 0, 1, 0),
  (3, 9, 3, 0, [], 4, .getfield 70, 3, 785),
  (2, 0, 0, 1, [], 7, .iconst 1, 1, 0),
  (10, 0, 0, 0, [], 8, .isub, 1, 0),
  (24, 0, 0, 0, [], 9, .i2l, 1, 0),
  (17, 110, 0, 3, [], 10, .invokestatic 75, 3, 873),
  (12, 12, 0, 0, [], 13, .ifCond .ne 7, 3, 0),
  (2, 0, 0, 1, [], 16, .iconst 1, 1, 0),
  (6, 13, 0, 0, [], 17, .goto 4, 3, 0),
  (2, 0, 0, 0, [], 20, .iconst 0, 1, 0),
  (5, 0, 1, 0, [], 21, .ireturn, 1, 0)]
def m_X9_noRing : am_M := (yX9_noRing, cX9_noRing, 2, some .boolean)
def t_X9_drop : List ri_row := [(0, 0, 0, 0, [], 0, .aload_n 0, 1, 0),
  (3, 9, 3, 0, [], 1, .getfield 70, 3, 785),
  (12, 5, 0, 0, [], 4, .ifCond .ne 7, 3, 0),
  (2, 0, 0, 4294966293, [], 7, .sipush (-1003), 3, 0),
  (5, 0, 0, 0, [], 10, .ireturn, 1, 0),
  (0, 0, 0, 0, [], 11, .aload_n 0, 1, 0),
  (23, 0, 0, 0, [], 12, .dup, 1, 0),
  (3, 9, 3, 0, [], 13, .getfield 70, 3, 785),
  (2, 0, 0, 1, [], 16, .iconst 1, 1, 0),
  (10, 0, 0, 0, [], 17, .isub, 1, 0),
  (14, 9, 3, 0, [], 18, .putfield 70, 3, 785),
  (0, 0, 0, 0, [], 21, .aload_n 0, 1, 0),
  (3, 9, 3, 0, [], 22, .getfield 70, 3, 785),
  (5, 0, 0, 0, [], 25, .ireturn, 1, 0)]
def m_X9_drop : am_M := (yX9_drop, cX9_drop, 1, some .int)
def t_X9_takeU : List ri_row := [(0, 0, 0, 0, [], 0, .aload_n 0, 1, 0),
  (0, 0, 0, 0, [], 1, .aload_n 0, 1, 0),
  (3, 9, 4, 0, [], 2, .getfield 13, 3, 786),
  (1, 1, 0, 0, [], 5, .iload_n 1, 1, 0),
  (8, 0, 0, 0, [], 6, .iaload, 1, 0),
  (14, 9, 9, 0, [], 7, .putfield 83, 3, 791),
  (2, 0, 0, 0, [], 10, .iconst 0, 1, 0),
  (9, 2, 0, 0, [], 11, .istore_n 2, 1, 0),
  (1, 2, 0, 0, [], 12, .iload_n 2, 1, 0),
  (0, 0, 0, 0, [], 13, .aload_n 0, 1, 0),
  (3, 9, 9, 0, [], 14, .getfield 83, 3, 791),
  (13, 26, 0, 0, [], 17, .if_icmp .ge 26, 3, 0),
  (0, 0, 0, 0, [], 20, .aload_n 0, 1, 0),
  (3, 9, 8, 0, [], 21, .getfield 25, 3, 790),
  (1, 2, 0, 0, [], 24, .iload_n 2, 1, 0),
  (0, 0, 0, 0, [], 25, .aload_n 0, 1, 0),
  (3, 9, 5, 0, [], 26, .getfield 16, 3, 787),
  (2, 0, 0, 60, [], 29, .bipush 60, 2, 0),
  (1, 1, 0, 0, [], 31, .iload_n 1, 1, 0),
  (15, 0, 0, 0, [], 32, .imul, 1, 0),
  (1, 2, 0, 0, [], 33, .iload_n 2, 1, 0),
  (7, 0, 0, 0, [], 34, .iadd, 1, 0),
  (8, 0, 0, 0, [], 35, .iaload, 1, 0),
  (22, 0, 0, 0, [], 36, .iastore, 1, 0),
  (16, 2, 0, 1, [], 37, .iinc 2 1, 3, 0),
  (6, 8, 0, 0, [], 40, .goto (-28), 3, 0),
  (21, 0, 0, 0, [], 43, .return_, 1, 0)]
def m_X9_takeU : am_M := (yX9_takeU, cX9_takeU, 3, none)
def t_X9_takeV : List ri_row := [(0, 0, 0, 0, [], 0, .aload_n 0, 1, 0),
  (0, 0, 0, 0, [], 1, .aload_n 0, 1, 0),
  (3, 9, 4, 0, [], 2, .getfield 13, 3, 786),
  (1, 1, 0, 0, [], 5, .iload_n 1, 1, 0),
  (8, 0, 0, 0, [], 6, .iaload, 1, 0),
  (14, 9, 11, 0, [], 7, .putfield 86, 3, 793),
  (2, 0, 0, 0, [], 10, .iconst 0, 1, 0),
  (9, 2, 0, 0, [], 11, .istore_n 2, 1, 0),
  (1, 2, 0, 0, [], 12, .iload_n 2, 1, 0),
  (0, 0, 0, 0, [], 13, .aload_n 0, 1, 0),
  (3, 9, 11, 0, [], 14, .getfield 86, 3, 793),
  (13, 26, 0, 0, [], 17, .if_icmp .ge 26, 3, 0),
  (0, 0, 0, 0, [], 20, .aload_n 0, 1, 0),
  (3, 9, 10, 0, [], 21, .getfield 28, 3, 792),
  (1, 2, 0, 0, [], 24, .iload_n 2, 1, 0),
  (0, 0, 0, 0, [], 25, .aload_n 0, 1, 0),
  (3, 9, 5, 0, [], 26, .getfield 16, 3, 787),
  (2, 0, 0, 60, [], 29, .bipush 60, 2, 0),
  (1, 1, 0, 0, [], 31, .iload_n 1, 1, 0),
  (15, 0, 0, 0, [], 32, .imul, 1, 0),
  (1, 2, 0, 0, [], 33, .iload_n 2, 1, 0),
  (7, 0, 0, 0, [], 34, .iadd, 1, 0),
  (8, 0, 0, 0, [], 35, .iaload, 1, 0),
  (22, 0, 0, 0, [], 36, .iastore, 1, 0),
  (16, 2, 0, 1, [], 37, .iinc 2 1, 3, 0),
  (6, 8, 0, 0, [], 40, .goto (-28), 3, 0),
  (21, 0, 0, 0, [], 43, .return_, 1, 0)]
def m_X9_takeV : am_M := (yX9_takeV, cX9_takeV, 3, none)
def t_X9_turnV : List ri_row := [(2, 0, 0, 0, [], 0, .iconst 0, 1, 0),
  (9, 1, 0, 0, [], 1, .istore_n 1, 1, 0),
  (1, 1, 0, 0, [], 2, .iload_n 1, 1, 0),
  (0, 0, 0, 0, [], 3, .aload_n 0, 1, 0),
  (3, 9, 11, 0, [], 4, .getfield 86, 3, 793),
  (2, 0, 0, 1, [], 7, .iconst 1, 1, 0),
  (10, 0, 0, 0, [], 8, .isub, 1, 0),
  (2, 0, 0, 2, [], 9, .iconst 2, 1, 0),
  (36, 0, 0, 0, [], 10, .idiv, 1, 0),
  (25, 46, 0, 0, [], 11, .if_icmp .gt 55, 3, 0),
  (0, 0, 0, 0, [], 14, .aload_n 0, 1, 0),
  (3, 9, 10, 0, [], 15, .getfield 28, 3, 792),
  (1, 1, 0, 0, [], 18, .iload_n 1, 1, 0),
  (8, 0, 0, 0, [], 19, .iaload, 1, 0),
  (9, 2, 0, 0, [], 20, .istore_n 2, 1, 0),
  (0, 0, 0, 0, [], 21, .aload_n 0, 1, 0),
  (3, 9, 10, 0, [], 22, .getfield 28, 3, 792),
  (0, 0, 0, 0, [], 25, .aload_n 0, 1, 0),
  (3, 9, 11, 0, [], 26, .getfield 86, 3, 793),
  (2, 0, 0, 1, [], 29, .iconst 1, 1, 0),
  (10, 0, 0, 0, [], 30, .isub, 1, 0),
  (1, 1, 0, 0, [], 31, .iload_n 1, 1, 0),
  (10, 0, 0, 0, [], 32, .isub, 1, 0),
  (8, 0, 0, 0, [], 33, .iaload, 1, 0),
  (9, 3, 0, 0, [], 34, .istore_n 3, 1, 0),
  (0, 0, 0, 0, [], 35, .aload_n 0, 1, 0),
  (3, 9, 10, 0, [], 36, .getfield 28, 3, 792),
  (1, 1, 0, 0, [], 39, .iload_n 1, 1, 0),
  (2, 0, 0, 0, [], 40, .iconst 0, 1, 0),
  (1, 3, 0, 0, [], 41, .iload_n 3, 1, 0),
  (10, 0, 0, 0, [], 42, .isub, 1, 0),
  (22, 0, 0, 0, [], 43, .iastore, 1, 0),
  (0, 0, 0, 0, [], 44, .aload_n 0, 1, 0),
  (3, 9, 10, 0, [], 45, .getfield 28, 3, 792),
  (0, 0, 0, 0, [], 48, .aload_n 0, 1, 0),
  (3, 9, 11, 0, [], 49, .getfield 86, 3, 793),
  (2, 0, 0, 1, [], 52, .iconst 1, 1, 0),
  (10, 0, 0, 0, [], 53, .isub, 1, 0),
  (1, 1, 0, 0, [], 54, .iload_n 1, 1, 0),
  (10, 0, 0, 0, [], 55, .isub, 1, 0),
  (2, 0, 0, 0, [], 56, .iconst 0, 1, 0),
  (1, 2, 0, 0, [], 57, .iload_n 2, 1, 0),
  (10, 0, 0, 0, [], 58, .isub, 1, 0),
  (22, 0, 0, 0, [], 59, .iastore, 1, 0),
  (16, 1, 0, 1, [], 60, .iinc 1 1, 3, 0),
  (6, 2, 0, 0, [], 63, .goto (-61), 3, 0),
  (21, 0, 0, 0, [], 66, .return_, 1, 0)]
def m_X9_turnV : am_M := (yX9_turnV, cX9_turnV, 4, none)
def t_X9_ofU : List ri_row := [(0, 0, 0, 0, [], 0, .aload_n 0, 1, 0),
  (3, 9, 8, 0, [], 1, .getfield 25, 3, 790),
  (1, 1, 0, 0, [], 4, .iload_n 1, 1, 0),
  (0, 0, 0, 0, [], 5, .aload_n 0, 1, 0),
  (3, 9, 9, 0, [], 6, .getfield 83, 3, 791),
  (34, 0, 0, 0, [], 9, .irem, 1, 0),
  (8, 0, 0, 0, [], 10, .iaload, 1, 0),
  (5, 0, 0, 0, [], 11, .ireturn, 1, 0)]
def m_X9_ofU : am_M := (yX9_ofU, cX9_ofU, 2, some .int)
def t_X9_ofV : List ri_row := [(0, 0, 0, 0, [], 0, .aload_n 0, 1, 0),
  (3, 9, 10, 0, [], 1, .getfield 28, 3, 792),
  (1, 1, 0, 0, [], 4, .iload_n 1, 1, 0),
  (0, 0, 0, 0, [], 5, .aload_n 0, 1, 0),
  (3, 9, 11, 0, [], 6, .getfield 86, 3, 793),
  (34, 0, 0, 0, [], 9, .irem, 1, 0),
  (8, 0, 0, 0, [], 10, .iaload, 1, 0),
  (5, 0, 0, 0, [], 11, .ireturn, 1, 0)]
def m_X9_ofV : am_M := (yX9_ofV, cX9_ofV, 2, some .int)
def t_X9_isTurned : List ri_row := [(2, 0, 0, 0, [], 0, .iconst 0, 1, 0),
  (9, 1, 0, 0, [], 1, .istore_n 1, 1, 0),
  (1, 1, 0, 0, [], 2, .iload_n 1, 1, 0),
  (0, 0, 0, 0, [], 3, .aload_n 0, 1, 0),
  (3, 9, 9, 0, [], 4, .getfield 83, 3, 791),
  (13, 38, 0, 0, [], 7, .if_icmp .ge 59, 3, 0),
  (2, 0, 0, 1, [], 10, .iconst 1, 1, 0),
  (9, 2, 0, 0, [], 11, .istore_n 2, 1, 0),
  (2, 0, 0, 0, [], 12, .iconst 0, 1, 0),
  (9, 3, 0, 0, [], 13, .istore_n 3, 1, 0),
  (1, 3, 0, 0, [], 14, .iload_n 3, 1, 0),
  (0, 0, 0, 0, [], 15, .aload_n 0, 1, 0),
  (3, 9, 9, 0, [], 16, .getfield 83, 3, 791),
  (13, 32, 0, 0, [], 19, .if_icmp .ge 35, 3, 0),
  (1, 2, 0, 0, [], 22, .iload_n 2, 1, 0),
  (11, 32, 0, 0, [], 23, .ifCond .eq 31, 3, 0),
  (0, 0, 0, 0, [], 26, .aload_n 0, 1, 0),
  (1, 1, 0, 0, [], 27, .iload_n 1, 1, 0),
  (1, 3, 0, 0, [], 28, .iload_n 3, 1, 0),
  (7, 0, 0, 0, [], 29, .iadd, 1, 0),
  (4, 123, 9, 1, [], 30, .invokevirtual 89, 3, 916),
  (0, 0, 0, 0, [], 33, .aload_n 0, 1, 0),
  (3, 9, 10, 0, [], 34, .getfield 28, 3, 792),
  (1, 3, 0, 0, [], 37, .iload_n 3, 1, 0),
  (8, 0, 0, 0, [], 38, .iaload, 1, 0),
  (18, 28, 0, 0, [], 39, .if_icmp .ne 7, 3, 0),
  (2, 0, 0, 1, [], 42, .iconst 1, 1, 0),
  (6, 29, 0, 0, [], 43, .goto 4, 3, 0),
  (2, 0, 0, 0, [], 46, .iconst 0, 1, 0),
  (9, 2, 0, 0, [], 47, .istore_n 2, 1, 0),
  (16, 3, 0, 1, [], 48, .iinc 3 1, 3, 0),
  (6, 10, 0, 0, [], 51, .goto (-37), 3, 0),
  (1, 2, 0, 0, [], 54, .iload_n 2, 1, 0),
  (11, 36, 0, 0, [], 55, .ifCond .eq 5, 3, 0),
  (2, 0, 0, 1, [], 58, .iconst 1, 1, 0),
  (5, 0, 1, 0, [], 59, .ireturn, 1, 0),
  (16, 1, 0, 1, [], 60, .iinc 1 1, 3, 0),
  (6, 2, 0, 0, [], 63, .goto (-61), 3, 0),
  (2, 0, 0, 0, [], 66, .iconst 0, 1, 0),
  (5, 0, 1, 0, [], 67, .ireturn, 1, 0)]
def m_X9_isTurned : am_M := (yX9_isTurned, cX9_isTurned, 4, some .boolean)
def t_X9_areOne : List ri_row := [(0, 0, 0, 0, [], 0, .aload_n 0, 1, 0),
  (3, 9, 9, 0, [], 1, .getfield 83, 3, 791),
  (0, 0, 0, 0, [], 4, .aload_n 0, 1, 0),
  (3, 9, 11, 0, [], 5, .getfield 86, 3, 793),
  (19, 7, 0, 0, [], 8, .if_icmp .eq 5, 3, 0),
  (2, 0, 0, 0, [], 11, .iconst 0, 1, 0),
  (5, 0, 1, 0, [], 12, .ireturn, 1, 0),
  (0, 0, 0, 0, [], 13, .aload_n 0, 1, 0),
  (4, 125, 9, 0, [], 14, .invokevirtual 93, 3, 912),
  (11, 12, 0, 0, [], 17, .ifCond .eq 5, 3, 0),
  (2, 0, 0, 1, [], 20, .iconst 1, 1, 0),
  (5, 0, 1, 0, [], 21, .ireturn, 1, 0),
  (0, 0, 0, 0, [], 22, .aload_n 0, 1, 0),
  (4, 122, 9, 0, [], 23, .invokevirtual 97, 3, 920),
  (0, 0, 0, 0, [], 26, .aload_n 0, 1, 0),
  (4, 125, 9, 0, [], 27, .invokevirtual 93, 3, 912),
  (5, 0, 1, 0, [], 30, .ireturn, 1, 0)]
def m_X9_areOne : am_M := (yX9_areOne, cX9_areOne, 1, some .boolean)
def t_X9_one : List ri_row := [(0, 0, 0, 0, [], 0, .aload_n 0, 1, 0),
  (1, 1, 0, 0, [], 1, .iload_n 1, 1, 0),
  (4, 118, 9, 1, [], 2, .invokevirtual 100, 3, 896),
  (12, 8, 0, 0, [], 5, .ifCond .ne 11, 3, 0),
  (0, 0, 0, 0, [], 8, .aload_n 0, 1, 0),
  (1, 2, 0, 0, [], 9, .iload_n 2, 1, 0),
  (4, 118, 9, 1, [], 10, .invokevirtual 100, 3, 896),
  (11, 10, 0, 0, [], 13, .ifCond .eq 7, 3, 0),
  (2, 0, 0, 4294966295, [], 16, .sipush (-1001), 3, 0),
  (5, 0, 0, 0, [], 19, .ireturn, 1, 0),
  (0, 0, 0, 0, [], 20, .aload_n 0, 1, 0),
  (1, 1, 0, 0, [], 21, .iload_n 1, 1, 0),
  (4, 120, 9, 1, [], 22, .invokevirtual 103, 3, 900),
  (0, 0, 0, 0, [], 25, .aload_n 0, 1, 0),
  (1, 2, 0, 0, [], 26, .iload_n 2, 1, 0),
  (4, 121, 9, 1, [], 27, .invokevirtual 106, 3, 904),
  (0, 0, 0, 0, [], 30, .aload_n 0, 1, 0),
  (4, 126, 9, 0, [], 31, .invokevirtual 109, 3, 908),
  (17, 111, 0, 1, [], 34, .invokestatic 112, 3, 924),
  (5, 0, 0, 0, [], 37, .ireturn, 1, 0)]
def m_X9_one : am_M := (yX9_one, cX9_one, 3, some .int)
def t_X9_isPower : List ri_row := [(0, 0, 0, 0, [], 0, .aload_n 0, 1, 0),
  (3, 9, 4, 0, [], 1, .getfield 13, 3, 786),
  (1, 1, 0, 0, [], 4, .iload_n 1, 1, 0),
  (8, 0, 0, 0, [], 5, .iaload, 1, 0),
  (9, 2, 0, 0, [], 6, .istore_n 2, 1, 0),
  (2, 0, 0, 1, [], 7, .iconst 1, 1, 0),
  (9, 3, 0, 0, [], 8, .istore_n 3, 1, 0),
  (1, 3, 0, 0, [], 9, .iload_n 3, 1, 0),
  (1, 2, 0, 0, [], 10, .iload_n 2, 1, 0),
  (13, 58, 0, 0, [], 11, .if_icmp .ge 87, 3, 0),
  (1, 2, 0, 0, [], 14, .iload_n 2, 1, 0),
  (1, 3, 0, 0, [], 15, .iload_n 3, 1, 0),
  (34, 0, 0, 0, [], 16, .irem, 1, 0),
  (12, 16, 0, 0, [], 17, .ifCond .ne 7, 3, 0),
  (2, 0, 0, 1, [], 20, .iconst 1, 1, 0),
  (6, 17, 0, 0, [], 21, .goto 4, 3, 0),
  (2, 0, 0, 0, [], 24, .iconst 0, 1, 0),
  (9, 4, 0, 0, [], 25, .istore 4, 2, 0),
  (2, 0, 0, 0, [], 27, .iconst 0, 1, 0),
  (9, 5, 0, 0, [], 28, .istore 5, 2, 0),
  (1, 5, 0, 0, [], 30, .iload 5, 2, 0),
  (1, 3, 0, 0, [], 32, .iload_n 3, 1, 0),
  (7, 0, 0, 0, [], 33, .iadd, 1, 0),
  (1, 2, 0, 0, [], 34, .iload_n 2, 1, 0),
  (13, 52, 0, 0, [], 35, .if_icmp .ge 50, 3, 0),
  (1, 4, 0, 0, [], 38, .iload 4, 2, 0),
  (11, 52, 0, 0, [], 40, .ifCond .eq 45, 3, 0),
  (0, 0, 0, 0, [], 43, .aload_n 0, 1, 0),
  (3, 9, 5, 0, [], 44, .getfield 16, 3, 787),
  (2, 0, 0, 60, [], 47, .bipush 60, 2, 0),
  (1, 1, 0, 0, [], 49, .iload_n 1, 1, 0),
  (15, 0, 0, 0, [], 50, .imul, 1, 0),
  (1, 5, 0, 0, [], 51, .iload 5, 2, 0),
  (7, 0, 0, 0, [], 53, .iadd, 1, 0),
  (8, 0, 0, 0, [], 54, .iaload, 1, 0),
  (0, 0, 0, 0, [], 55, .aload_n 0, 1, 0),
  (3, 9, 5, 0, [], 56, .getfield 16, 3, 787),
  (2, 0, 0, 60, [], 59, .bipush 60, 2, 0),
  (1, 1, 0, 0, [], 61, .iload_n 1, 1, 0),
  (15, 0, 0, 0, [], 62, .imul, 1, 0),
  (1, 5, 0, 0, [], 63, .iload 5, 2, 0),
  (7, 0, 0, 0, [], 65, .iadd, 1, 0),
  (1, 3, 0, 0, [], 66, .iload_n 3, 1, 0),
  (7, 0, 0, 0, [], 67, .iadd, 1, 0),
  (8, 0, 0, 0, [], 68, .iaload, 1, 0),
  (18, 48, 0, 0, [], 69, .if_icmp .ne 7, 3, 0),
  (2, 0, 0, 1, [], 72, .iconst 1, 1, 0),
  (6, 49, 0, 0, [], 73, .goto 4, 3, 0),
  (2, 0, 0, 0, [], 76, .iconst 0, 1, 0),
  (9, 4, 0, 0, [], 77, .istore 4, 2, 0),
  (16, 5, 0, 1, [], 79, .iinc 5 1, 3, 0),
  (6, 20, 0, 0, [], 82, .goto (-52), 3, 0),
  (1, 4, 0, 0, [], 85, .iload 4, 2, 0),
  (11, 56, 0, 0, [], 87, .ifCond .eq 5, 3, 0),
  (2, 0, 0, 1, [], 90, .iconst 1, 1, 0),
  (5, 0, 1, 0, [], 91, .ireturn, 1, 0),
  (16, 3, 0, 1, [], 92, .iinc 3 1, 3, 0),
  (6, 7, 0, 0, [], 95, .goto (-86), 3, 0),
  (2, 0, 0, 0, [], 98, .iconst 0, 1, 0),
  (5, 0, 1, 0, [], 99, .ireturn, 1, 0)]
def m_X9_isPower : am_M := (yX9_isPower, cX9_isPower, 6, some .boolean)
def t_X9_placeOf : List ri_row := [(1, 0, 0, 0, [], 0, .iload_n 0, 1, 0),
  (30, 6, 0, 0, [], 1, .ifCond .ge 9, 3, 0),
  (2, 0, 0, 0, [], 4, .iconst 0, 1, 0),
  (1, 0, 0, 0, [], 5, .iload_n 0, 1, 0),
  (10, 0, 0, 0, [], 6, .isub, 1, 0),
  (6, 7, 0, 0, [], 7, .goto 4, 3, 0),
  (1, 0, 0, 0, [], 10, .iload_n 0, 1, 0),
  (9, 1, 0, 0, [], 11, .istore_n 1, 1, 0),
  (1, 1, 0, 0, [], 12, .iload_n 1, 1, 0),
  (2, 0, 0, 1, [], 13, .iconst 1, 1, 0),
  (10, 0, 0, 0, [], 14, .isub, 1, 0),
  (2, 0, 0, 2, [], 15, .iconst 2, 1, 0),
  (36, 0, 0, 0, [], 16, .idiv, 1, 0),
  (9, 2, 0, 0, [], 17, .istore_n 2, 1, 0),
  (1, 1, 0, 0, [], 18, .iload_n 1, 1, 0),
  (2, 0, 0, 2, [], 19, .iconst 2, 1, 0),
  (34, 0, 0, 0, [], 20, .irem, 1, 0),
  (2, 0, 0, 1, [], 21, .iconst 1, 1, 0),
  (18, 21, 0, 0, [], 22, .if_icmp .ne 7, 3, 0),
  (2, 0, 0, 1, [], 25, .iconst 1, 1, 0),
  (6, 22, 0, 0, [], 26, .goto 4, 3, 0),
  (2, 0, 0, 0, [], 29, .iconst 0, 1, 0),
  (9, 3, 0, 0, [], 30, .istore_n 3, 1, 0),
  (2, 0, 0, 4, [], 31, .iconst 4, 1, 0),
  (1, 2, 0, 0, [], 32, .iload_n 2, 1, 0),
  (15, 0, 0, 0, [], 33, .imul, 1, 0),
  (1, 3, 0, 0, [], 34, .iload_n 3, 1, 0),
  (11, 34, 0, 0, [], 35, .ifCond .eq 15, 3, 0),
  (1, 0, 0, 0, [], 38, .iload_n 0, 1, 0),
  (29, 32, 0, 0, [], 39, .ifCond .le 7, 3, 0),
  (2, 0, 0, 0, [], 42, .iconst 0, 1, 0),
  (6, 39, 0, 0, [], 43, .goto 16, 3, 0),
  (2, 0, 0, 2, [], 46, .iconst 2, 1, 0),
  (6, 39, 0, 0, [], 47, .goto 12, 3, 0),
  (1, 0, 0, 0, [], 50, .iload_n 0, 1, 0),
  (30, 38, 0, 0, [], 51, .ifCond .ge 7, 3, 0),
  (2, 0, 0, 1, [], 54, .iconst 1, 1, 0),
  (6, 39, 0, 0, [], 55, .goto 4, 3, 0),
  (2, 0, 0, 3, [], 58, .iconst 3, 1, 0),
  (7, 0, 0, 0, [], 59, .iadd, 1, 0),
  (5, 0, 0, 0, [], 60, .ireturn, 1, 0)]
def m_X9_placeOf : am_M := (yX9_placeOf, cX9_placeOf, 4, some .int)
def t_X9_farFrom : List ri_row := [(1, 2, 0, 0, [], 0, .iload_n 2, 1, 0),
  (17, 129, 0, 1, [], 1, .invokestatic 116, 3, 959),
  (1, 1, 0, 0, [], 4, .iload_n 1, 1, 0),
  (17, 129, 0, 1, [], 5, .invokestatic 116, 3, 959),
  (10, 0, 0, 0, [], 8, .isub, 1, 0),
  (9, 3, 0, 0, [], 9, .istore_n 3, 1, 0),
  (1, 3, 0, 0, [], 10, .iload_n 3, 1, 0),
  (30, 15, 0, 0, [], 11, .ifCond .ge 14, 3, 0),
  (1, 3, 0, 0, [], 14, .iload_n 3, 1, 0),
  (2, 0, 0, 4, [], 15, .iconst 4, 1, 0),
  (0, 0, 0, 0, [], 16, .aload_n 0, 1, 0),
  (3, 9, 0, 0, [], 17, .getfield 64, 3, 782),
  (15, 0, 0, 0, [], 20, .imul, 1, 0),
  (7, 0, 0, 0, [], 21, .iadd, 1, 0),
  (6, 16, 0, 0, [], 22, .goto 4, 3, 0),
  (1, 3, 0, 0, [], 25, .iload_n 3, 1, 0),
  (5, 0, 0, 0, [], 26, .ireturn, 1, 0)]
def m_X9_farFrom : am_M := (yX9_farFrom, cX9_farFrom, 4, some .int)
def t_X9_goRound : List ri_row := [(0, 0, 0, 0, [], 0, .aload_n 0, 1, 0),
  (1, 1, 0, 0, [], 1, .iload_n 1, 1, 0),
  (1, 2, 0, 0, [], 2, .iload_n 2, 1, 0),
  (4, 130, 9, 2, [], 3, .invokevirtual 119, 3, 955),
  (0, 0, 0, 0, [], 6, .aload_n 0, 1, 0),
  (1, 1, 0, 0, [], 7, .iload_n 1, 1, 0),
  (1, 3, 0, 0, [], 8, .iload_n 3, 1, 0),
  (4, 130, 9, 2, [], 9, .invokevirtual 119, 3, 955),
  (13, 11, 0, 0, [], 12, .if_icmp .ge 7, 3, 0),
  (2, 0, 0, 1, [], 15, .iconst 1, 1, 0),
  (6, 12, 0, 0, [], 16, .goto 4, 3, 0),
  (2, 0, 0, 0, [], 19, .iconst 0, 1, 0),
  (5, 0, 1, 0, [], 20, .ireturn, 1, 0)]
def m_X9_goRound : am_M := (yX9_goRound, cX9_goRound, 4, some .boolean)
def t_X9_meetAtOnce : List ri_row := [(1, 1, 0, 0, [], 0, .iload_n 1, 1, 0),
  (1, 3, 0, 0, [], 1, .iload_n 3, 1, 0),
  (19, 20, 0, 0, [], 2, .if_icmp .eq 35, 3, 0),
  (1, 1, 0, 0, [], 5, .iload_n 1, 1, 0),
  (1, 4, 0, 0, [], 6, .iload 4, 2, 0),
  (19, 20, 0, 0, [], 8, .if_icmp .eq 29, 3, 0),
  (1, 2, 0, 0, [], 11, .iload_n 2, 1, 0),
  (1, 3, 0, 0, [], 12, .iload_n 3, 1, 0),
  (19, 20, 0, 0, [], 13, .if_icmp .eq 24, 3, 0),
  (1, 2, 0, 0, [], 16, .iload_n 2, 1, 0),
  (1, 4, 0, 0, [], 17, .iload 4, 2, 0),
  (19, 20, 0, 0, [], 19, .if_icmp .eq 18, 3, 0),
  (1, 3, 0, 0, [], 22, .iload_n 3, 1, 0),
  (1, 4, 0, 0, [], 23, .iload 4, 2, 0),
  (19, 20, 0, 0, [], 25, .if_icmp .eq 12, 3, 0),
  (1, 1, 0, 0, [], 28, .iload_n 1, 1, 0),
  (1, 2, 0, 0, [], 29, .iload_n 2, 1, 0),
  (19, 20, 0, 0, [], 30, .if_icmp .eq 7, 3, 0),
  (2, 0, 0, 1, [], 33, .iconst 1, 1, 0),
  (6, 21, 0, 0, [], 34, .goto 4, 3, 0),
  (2, 0, 0, 0, [], 37, .iconst 0, 1, 0),
  (9, 5, 0, 0, [], 38, .istore 5, 2, 0),
  (1, 5, 0, 0, [], 40, .iload 5, 2, 0),
  (11, 51, 0, 0, [], 42, .ifCond .eq 51, 3, 0),
  (0, 0, 0, 0, [], 45, .aload_n 0, 1, 0),
  (1, 1, 0, 0, [], 46, .iload_n 1, 1, 0),
  (1, 3, 0, 0, [], 47, .iload_n 3, 1, 0),
  (4, 130, 9, 2, [], 48, .invokevirtual 119, 3, 955),
  (0, 0, 0, 0, [], 51, .aload_n 0, 1, 0),
  (1, 1, 0, 0, [], 52, .iload_n 1, 1, 0),
  (1, 2, 0, 0, [], 53, .iload_n 2, 1, 0),
  (4, 130, 9, 2, [], 54, .invokevirtual 119, 3, 955),
  (13, 35, 0, 0, [], 57, .if_icmp .ge 7, 3, 0),
  (2, 0, 0, 1, [], 60, .iconst 1, 1, 0),
  (6, 36, 0, 0, [], 61, .goto 4, 3, 0),
  (2, 0, 0, 0, [], 64, .iconst 0, 1, 0),
  (0, 0, 0, 0, [], 65, .aload_n 0, 1, 0),
  (1, 1, 0, 0, [], 66, .iload_n 1, 1, 0),
  (1, 4, 0, 0, [], 67, .iload 4, 2, 0),
  (4, 130, 9, 2, [], 69, .invokevirtual 119, 3, 955),
  (0, 0, 0, 0, [], 72, .aload_n 0, 1, 0),
  (1, 1, 0, 0, [], 73, .iload_n 1, 1, 0),
  (1, 2, 0, 0, [], 74, .iload_n 2, 1, 0),
  (4, 130, 9, 2, [], 75, .invokevirtual 119, 3, 955),
  (13, 47, 0, 0, [], 78, .if_icmp .ge 7, 3, 0),
  (2, 0, 0, 1, [], 81, .iconst 1, 1, 0),
  (6, 48, 0, 0, [], 82, .goto 4, 3, 0),
  (2, 0, 0, 0, [], 85, .iconst 0, 1, 0),
  (19, 51, 0, 0, [], 86, .if_icmp .eq 7, 3, 0),
  (2, 0, 0, 1, [], 89, .iconst 1, 1, 0),
  (6, 52, 0, 0, [], 90, .goto 4, 3, 0),
  (2, 0, 0, 0, [], 93, .iconst 0, 1, 0),
  (5, 0, 1, 0, [], 94, .ireturn, 1, 0)]
def m_X9_meetAtOnce : am_M := (yX9_meetAtOnce, cX9_meetAtOnce, 6, some .boolean)
def t_X9_meetAlong : List ri_row := [(2, 0, 0, 1, [], 0, .iconst 1, 1, 0),
  (9, 3, 0, 0, [], 1, .istore_n 3, 1, 0),
  (2, 0, 0, 2, [], 2, .iconst 2, 1, 0),
  (0, 0, 0, 0, [], 3, .aload_n 0, 1, 0),
  (3, 9, 9, 0, [], 4, .getfield 83, 3, 791),
  (0, 0, 0, 0, [], 7, .aload_n 0, 1, 0),
  (3, 9, 11, 0, [], 8, .getfield 86, 3, 793),
  (7, 0, 0, 0, [], 11, .iadd, 1, 0),
  (15, 0, 0, 0, [], 12, .imul, 1, 0),
  (9, 4, 0, 0, [], 13, .istore 4, 2, 0),
  (1, 3, 0, 0, [], 15, .iload_n 3, 1, 0),
  (1, 4, 0, 0, [], 16, .iload 4, 2, 0),
  (25, 26, 0, 0, [], 18, .if_icmp .gt 26, 3, 0),
  (0, 0, 0, 0, [], 21, .aload_n 0, 1, 0),
  (1, 1, 0, 0, [], 22, .iload_n 1, 1, 0),
  (1, 3, 0, 0, [], 23, .iload_n 3, 1, 0),
  (7, 0, 0, 0, [], 24, .iadd, 1, 0),
  (4, 123, 9, 1, [], 25, .invokevirtual 89, 3, 916),
  (0, 0, 0, 0, [], 28, .aload_n 0, 1, 0),
  (1, 2, 0, 0, [], 29, .iload_n 2, 1, 0),
  (1, 3, 0, 0, [], 30, .iload_n 3, 1, 0),
  (7, 0, 0, 0, [], 31, .iadd, 1, 0),
  (4, 124, 9, 1, [], 32, .invokevirtual 123, 3, 947),
  (18, 26, 0, 0, [], 35, .if_icmp .ne 9, 3, 0),
  (16, 3, 0, 1, [], 38, .iinc 3 1, 3, 0),
  (6, 10, 0, 0, [], 41, .goto (-26), 3, 0),
  (1, 3, 0, 0, [], 44, .iload_n 3, 1, 0),
  (1, 4, 0, 0, [], 45, .iload 4, 2, 0),
  (27, 31, 0, 0, [], 47, .if_icmp .le 5, 3, 0),
  (2, 0, 0, 0, [], 50, .iconst 0, 1, 0),
  (5, 0, 1, 0, [], 51, .ireturn, 1, 0),
  (0, 0, 0, 0, [], 52, .aload_n 0, 1, 0),
  (1, 1, 0, 0, [], 53, .iload_n 1, 1, 0),
  (4, 123, 9, 1, [], 54, .invokevirtual 89, 3, 916),
  (9, 5, 0, 0, [], 57, .istore 5, 2, 0),
  (2, 0, 0, 0, [], 59, .iconst 0, 1, 0),
  (0, 0, 0, 0, [], 60, .aload_n 0, 1, 0),
  (1, 1, 0, 0, [], 61, .iload_n 1, 1, 0),
  (0, 0, 0, 0, [], 62, .aload_n 0, 1, 0),
  (3, 9, 9, 0, [], 63, .getfield 83, 3, 791),
  (7, 0, 0, 0, [], 66, .iadd, 1, 0),
  (2, 0, 0, 1, [], 67, .iconst 1, 1, 0),
  (10, 0, 0, 0, [], 68, .isub, 1, 0),
  (4, 123, 9, 1, [], 69, .invokevirtual 89, 3, 916),
  (10, 0, 0, 0, [], 72, .isub, 1, 0),
  (9, 6, 0, 0, [], 73, .istore 6, 2, 0),
  (2, 0, 0, 0, [], 75, .iconst 0, 1, 0),
  (0, 0, 0, 0, [], 76, .aload_n 0, 1, 0),
  (1, 2, 0, 0, [], 77, .iload_n 2, 1, 0),
  (0, 0, 0, 0, [], 78, .aload_n 0, 1, 0),
  (3, 9, 11, 0, [], 79, .getfield 86, 3, 793),
  (7, 0, 0, 0, [], 82, .iadd, 1, 0),
  (2, 0, 0, 1, [], 83, .iconst 1, 1, 0),
  (10, 0, 0, 0, [], 84, .isub, 1, 0),
  (4, 124, 9, 1, [], 85, .invokevirtual 123, 3, 947),
  (10, 0, 0, 0, [], 88, .isub, 1, 0),
  (9, 7, 0, 0, [], 89, .istore 7, 2, 0),
  (2, 0, 0, 0, [], 91, .iconst 0, 1, 0),
  (0, 0, 0, 0, [], 92, .aload_n 0, 1, 0),
  (1, 1, 0, 0, [], 93, .iload_n 1, 1, 0),
  (1, 3, 0, 0, [], 94, .iload_n 3, 1, 0),
  (7, 0, 0, 0, [], 95, .iadd, 1, 0),
  (2, 0, 0, 1, [], 96, .iconst 1, 1, 0),
  (10, 0, 0, 0, [], 97, .isub, 1, 0),
  (4, 123, 9, 1, [], 98, .invokevirtual 89, 3, 916),
  (10, 0, 0, 0, [], 101, .isub, 1, 0),
  (9, 8, 0, 0, [], 102, .istore 8, 2, 0),
  (0, 0, 0, 0, [], 104, .aload_n 0, 1, 0),
  (1, 5, 0, 0, [], 105, .iload 5, 2, 0),
  (1, 6, 0, 0, [], 107, .iload 6, 2, 0),
  (1, 7, 0, 0, [], 109, .iload 7, 2, 0),
  (4, 131, 9, 3, [], 111, .invokevirtual 126, 3, 966),
  (0, 0, 0, 0, [], 114, .aload_n 0, 1, 0),
  (1, 8, 0, 0, [], 115, .iload 8, 2, 0),
  (0, 0, 0, 0, [], 117, .aload_n 0, 1, 0),
  (1, 1, 0, 0, [], 118, .iload_n 1, 1, 0),
  (1, 3, 0, 0, [], 119, .iload_n 3, 1, 0),
  (7, 0, 0, 0, [], 120, .iadd, 1, 0),
  (4, 123, 9, 1, [], 121, .invokevirtual 89, 3, 916),
  (0, 0, 0, 0, [], 124, .aload_n 0, 1, 0),
  (1, 2, 0, 0, [], 125, .iload_n 2, 1, 0),
  (1, 3, 0, 0, [], 126, .iload_n 3, 1, 0),
  (7, 0, 0, 0, [], 127, .iadd, 1, 0),
  (4, 124, 9, 1, [], 128, .invokevirtual 123, 3, 947),
  (4, 131, 9, 3, [], 131, .invokevirtual 126, 3, 966),
  (18, 88, 0, 0, [], 134, .if_icmp .ne 7, 3, 0),
  (2, 0, 0, 1, [], 137, .iconst 1, 1, 0),
  (6, 89, 0, 0, [], 138, .goto 4, 3, 0),
  (2, 0, 0, 0, [], 141, .iconst 0, 1, 0),
  (5, 0, 1, 0, [], 142, .ireturn, 1, 0)]
def m_X9_meetAlong : am_M := (yX9_meetAlong, cX9_meetAlong, 9, some .boolean)
def t_X9_countMeetings : List ri_row := [(2, 0, 0, 0, [], 0, .iconst 0, 1, 0),
  (9, 2, 0, 0, [], 1, .istore_n 2, 1, 0),
  (2, 0, 0, 0, [], 2, .iconst 0, 1, 0),
  (9, 3, 0, 0, [], 3, .istore_n 3, 1, 0),
  (1, 3, 0, 0, [], 4, .iload_n 3, 1, 0),
  (0, 0, 0, 0, [], 5, .aload_n 0, 1, 0),
  (3, 9, 9, 0, [], 6, .getfield 83, 3, 791),
  (13, 85, 0, 0, [], 9, .if_icmp .ge 145, 3, 0),
  (2, 0, 0, 0, [], 12, .iconst 0, 1, 0),
  (9, 4, 0, 0, [], 13, .istore 4, 2, 0),
  (1, 4, 0, 0, [], 15, .iload 4, 2, 0),
  (0, 0, 0, 0, [], 17, .aload_n 0, 1, 0),
  (3, 9, 11, 0, [], 18, .getfield 86, 3, 793),
  (13, 83, 0, 0, [], 21, .if_icmp .ge 127, 3, 0),
  (0, 0, 0, 0, [], 24, .aload_n 0, 1, 0),
  (3, 9, 8, 0, [], 25, .getfield 25, 3, 790),
  (1, 3, 0, 0, [], 28, .iload_n 3, 1, 0),
  (8, 0, 0, 0, [], 29, .iaload, 1, 0),
  (9, 5, 0, 0, [], 30, .istore 5, 2, 0),
  (0, 0, 0, 0, [], 32, .aload_n 0, 1, 0),
  (3, 9, 10, 0, [], 33, .getfield 28, 3, 792),
  (1, 4, 0, 0, [], 36, .iload 4, 2, 0),
  (8, 0, 0, 0, [], 38, .iaload, 1, 0),
  (9, 6, 0, 0, [], 39, .istore 6, 2, 0),
  (2, 0, 0, 0, [], 41, .iconst 0, 1, 0),
  (0, 0, 0, 0, [], 42, .aload_n 0, 1, 0),
  (1, 3, 0, 0, [], 43, .iload_n 3, 1, 0),
  (0, 0, 0, 0, [], 44, .aload_n 0, 1, 0),
  (3, 9, 9, 0, [], 45, .getfield 83, 3, 791),
  (7, 0, 0, 0, [], 48, .iadd, 1, 0),
  (2, 0, 0, 1, [], 49, .iconst 1, 1, 0),
  (10, 0, 0, 0, [], 50, .isub, 1, 0),
  (4, 123, 9, 1, [], 51, .invokevirtual 89, 3, 916),
  (10, 0, 0, 0, [], 54, .isub, 1, 0),
  (9, 7, 0, 0, [], 55, .istore 7, 2, 0),
  (2, 0, 0, 0, [], 57, .iconst 0, 1, 0),
  (0, 0, 0, 0, [], 58, .aload_n 0, 1, 0),
  (1, 4, 0, 0, [], 59, .iload 4, 2, 0),
  (0, 0, 0, 0, [], 61, .aload_n 0, 1, 0),
  (3, 9, 11, 0, [], 62, .getfield 86, 3, 793),
  (7, 0, 0, 0, [], 65, .iadd, 1, 0),
  (2, 0, 0, 1, [], 66, .iconst 1, 1, 0),
  (10, 0, 0, 0, [], 67, .isub, 1, 0),
  (4, 124, 9, 1, [], 68, .invokevirtual 123, 3, 947),
  (10, 0, 0, 0, [], 71, .isub, 1, 0),
  (9, 8, 0, 0, [], 72, .istore 8, 2, 0),
  (1, 5, 0, 0, [], 74, .iload 5, 2, 0),
  (1, 6, 0, 0, [], 76, .iload 6, 2, 0),
  (19, 66, 0, 0, [], 78, .if_icmp .eq 36, 3, 0),
  (1, 2, 0, 0, [], 81, .iload_n 2, 1, 0),
  (1, 1, 0, 0, [], 82, .iload_n 1, 1, 0),
  (11, 61, 0, 0, [], 83, .ifCond .eq 22, 3, 0),
  (0, 0, 0, 0, [], 86, .aload_n 0, 1, 0),
  (1, 7, 0, 0, [], 87, .iload 7, 2, 0),
  (1, 5, 0, 0, [], 89, .iload 5, 2, 0),
  (1, 8, 0, 0, [], 91, .iload 8, 2, 0),
  (1, 6, 0, 0, [], 93, .iload 6, 2, 0),
  (4, 132, 9, 4, [], 95, .invokevirtual 130, 3, 951),
  (11, 61, 0, 0, [], 98, .ifCond .eq 7, 3, 0),
  (2, 0, 0, 1, [], 101, .iconst 1, 1, 0),
  (6, 62, 0, 0, [], 102, .goto 4, 3, 0),
  (2, 0, 0, 0, [], 105, .iconst 0, 1, 0),
  (17, 111, 0, 1, [], 106, .invokestatic 112, 3, 924),
  (7, 0, 0, 0, [], 109, .iadd, 1, 0),
  (9, 2, 0, 0, [], 110, .istore_n 2, 1, 0),
  (6, 81, 0, 0, [], 111, .goto 31, 3, 0),
  (1, 2, 0, 0, [], 114, .iload_n 2, 1, 0),
  (1, 7, 0, 0, [], 115, .iload 7, 2, 0),
  (1, 8, 0, 0, [], 117, .iload 8, 2, 0),
  (19, 77, 0, 0, [], 119, .if_icmp .eq 17, 3, 0),
  (0, 0, 0, 0, [], 122, .aload_n 0, 1, 0),
  (1, 3, 0, 0, [], 123, .iload_n 3, 1, 0),
  (1, 4, 0, 0, [], 124, .iload 4, 2, 0),
  (4, 133, 9, 2, [], 126, .invokevirtual 134, 3, 962),
  (11, 77, 0, 0, [], 129, .ifCond .eq 7, 3, 0),
  (2, 0, 0, 1, [], 132, .iconst 1, 1, 0),
  (6, 78, 0, 0, [], 133, .goto 4, 3, 0),
  (2, 0, 0, 0, [], 136, .iconst 0, 1, 0),
  (17, 111, 0, 1, [], 137, .invokestatic 112, 3, 924),
  (7, 0, 0, 0, [], 140, .iadd, 1, 0),
  (9, 2, 0, 0, [], 141, .istore_n 2, 1, 0),
  (16, 4, 0, 1, [], 142, .iinc 4 1, 3, 0),
  (6, 10, 0, 0, [], 145, .goto (-130), 3, 0),
  (16, 3, 0, 1, [], 148, .iinc 3 1, 3, 0),
  (6, 4, 0, 0, [], 151, .goto (-147), 3, 0),
  (1, 2, 0, 0, [], 154, .iload_n 2, 1, 0),
  (5, 0, 0, 0, [], 155, .ireturn, 1, 0)]
def m_X9_countMeetings : am_M := (yX9_countMeetings, cX9_countMeetings, 9, some .int)
def t_X9_meetings : List ri_row := [(0, 0, 0, 0, [], 0, .aload_n 0, 1, 0),
  (2, 0, 0, 1, [], 1, .iconst 1, 1, 0),
  (4, 134, 9, 1, [], 2, .invokevirtual 138, 3, 943),
  (9, 1, 0, 0, [], 5, .istore_n 1, 1, 0),
  (0, 0, 0, 0, [], 6, .aload_n 0, 1, 0),
  (4, 122, 9, 0, [], 7, .invokevirtual 97, 3, 920),
  (1, 1, 0, 0, [], 10, .iload_n 1, 1, 0),
  (0, 0, 0, 0, [], 11, .aload_n 0, 1, 0),
  (2, 0, 0, 0, [], 12, .iconst 0, 1, 0),
  (4, 134, 9, 1, [], 13, .invokevirtual 138, 3, 943),
  (7, 0, 0, 0, [], 16, .iadd, 1, 0),
  (5, 0, 0, 0, [], 17, .ireturn, 1, 0)]
def m_X9_meetings : am_M := (yX9_meetings, cX9_meetings, 2, some .int)
def t_X9_meetingsOf : List ri_row := [(0, 0, 0, 0, [], 0, .aload_n 0, 1, 0),
  (1, 1, 0, 0, [], 1, .iload_n 1, 1, 0),
  (4, 120, 9, 1, [], 2, .invokevirtual 103, 3, 900),
  (0, 0, 0, 0, [], 5, .aload_n 0, 1, 0),
  (1, 2, 0, 0, [], 6, .iload_n 2, 1, 0),
  (4, 121, 9, 1, [], 7, .invokevirtual 106, 3, 904),
  (0, 0, 0, 0, [], 10, .aload_n 0, 1, 0),
  (4, 135, 9, 0, [], 11, .invokevirtual 141, 3, 939),
  (5, 0, 0, 0, [], 14, .ireturn, 1, 0)]
def m_X9_meetingsOf : am_M := (yX9_meetingsOf, cX9_meetingsOf, 3, some .int)
def t_X9_isSimple : List ri_row := [(0, 0, 0, 0, [], 0, .aload_n 0, 1, 0),
  (1, 1, 0, 0, [], 1, .iload_n 1, 1, 0),
  (4, 128, 9, 1, [], 2, .invokevirtual 145, 3, 931),
  (12, 11, 0, 0, [], 5, .ifCond .ne 16, 3, 0),
  (0, 0, 0, 0, [], 8, .aload_n 0, 1, 0),
  (1, 1, 0, 0, [], 9, .iload_n 1, 1, 0),
  (1, 1, 0, 0, [], 10, .iload_n 1, 1, 0),
  (4, 136, 9, 2, [], 11, .invokevirtual 148, 3, 935),
  (12, 11, 0, 0, [], 14, .ifCond .ne 7, 3, 0),
  (2, 0, 0, 1, [], 17, .iconst 1, 1, 0),
  (6, 12, 0, 0, [], 18, .goto 4, 3, 0),
  (2, 0, 0, 0, [], 21, .iconst 0, 1, 0),
  (5, 0, 1, 0, [], 22, .ireturn, 1, 0)]
def m_X9_isSimple : am_M := (yX9_isSimple, cX9_isSimple, 2, some .boolean)
def t_X9_meets : List ri_row := [(0, 0, 0, 0, [], 0, .aload_n 0, 1, 0),
  (1, 1, 0, 0, [], 1, .iload_n 1, 1, 0),
  (4, 118, 9, 1, [], 2, .invokevirtual 100, 3, 896),
  (12, 8, 0, 0, [], 5, .ifCond .ne 11, 3, 0),
  (0, 0, 0, 0, [], 8, .aload_n 0, 1, 0),
  (1, 2, 0, 0, [], 9, .iload_n 2, 1, 0),
  (4, 118, 9, 1, [], 10, .invokevirtual 100, 3, 896),
  (11, 10, 0, 0, [], 13, .ifCond .eq 7, 3, 0),
  (2, 0, 0, 4294966295, [], 16, .sipush (-1001), 3, 0),
  (5, 0, 0, 0, [], 19, .ireturn, 1, 0),
  (0, 0, 0, 0, [], 20, .aload_n 0, 1, 0),
  (1, 1, 0, 0, [], 21, .iload_n 1, 1, 0),
  (4, 128, 9, 1, [], 22, .invokevirtual 145, 3, 931),
  (12, 18, 0, 0, [], 25, .ifCond .ne 11, 3, 0),
  (0, 0, 0, 0, [], 28, .aload_n 0, 1, 0),
  (1, 2, 0, 0, [], 29, .iload_n 2, 1, 0),
  (4, 128, 9, 1, [], 30, .invokevirtual 145, 3, 931),
  (11, 20, 0, 0, [], 33, .ifCond .eq 9, 3, 0),
  (2, 0, 0, 4294966293, [], 36, .sipush (-1003), 3, 0),
  (6, 24, 0, 0, [], 39, .goto 9, 3, 0),
  (0, 0, 0, 0, [], 42, .aload_n 0, 1, 0),
  (1, 1, 0, 0, [], 43, .iload_n 1, 1, 0),
  (1, 2, 0, 0, [], 44, .iload_n 2, 1, 0),
  (4, 136, 9, 2, [], 45, .invokevirtual 148, 3, 935),
  (5, 0, 0, 0, [], 48, .ireturn, 1, 0)]
def m_X9_meets : am_M := (yX9_meets, cX9_meets, 3, some .int)
def t_X9_told : List ri_row := [(0, 0, 0, 0, [], 0, .aload_n 0, 1, 0),
  (1, 1, 0, 0, [], 1, .iload_n 1, 1, 0),
  (4, 118, 9, 1, [], 2, .invokevirtual 100, 3, 896),
  (11, 6, 0, 0, [], 5, .ifCond .eq 7, 3, 0),
  (2, 0, 0, 4294966295, [], 8, .sipush (-1001), 3, 0),
  (5, 0, 0, 0, [], 11, .ireturn, 1, 0),
  (1, 2, 0, 0, [], 12, .iload_n 2, 1, 0),
  (57, 47, 0, 0, [8, 13, 18, 31], 13, .tableswitch 96 0 3 #[31, 38, 47, 68], 31, 0),
  (0, 0, 0, 0, [], 44, .aload_n 0, 1, 0),
  (3, 9, 4, 0, [], 45, .getfield 13, 3, 786),
  (1, 1, 0, 0, [], 48, .iload_n 1, 1, 0),
  (8, 0, 0, 0, [], 49, .iaload, 1, 0),
  (5, 0, 0, 0, [], 50, .ireturn, 1, 0),
  (0, 0, 0, 0, [], 51, .aload_n 0, 1, 0),
  (1, 1, 0, 0, [], 52, .iload_n 1, 1, 0),
  (4, 128, 9, 1, [], 53, .invokevirtual 145, 3, 931),
  (17, 111, 0, 1, [], 56, .invokestatic 112, 3, 924),
  (5, 0, 0, 0, [], 59, .ireturn, 1, 0),
  (0, 0, 0, 0, [], 60, .aload_n 0, 1, 0),
  (1, 1, 0, 0, [], 61, .iload_n 1, 1, 0),
  (4, 128, 9, 1, [], 62, .invokevirtual 145, 3, 931),
  (11, 24, 0, 0, [], 65, .ifCond .eq 7, 3, 0),
  (2, 0, 0, 4294967295, [], 68, .iconst (-1), 1, 0),
  (6, 30, 0, 0, [], 69, .goto 11, 3, 0),
  (0, 0, 0, 0, [], 72, .aload_n 0, 1, 0),
  (1, 1, 0, 0, [], 73, .iload_n 1, 1, 0),
  (1, 1, 0, 0, [], 74, .iload_n 1, 1, 0),
  (4, 136, 9, 2, [], 75, .invokevirtual 148, 3, 935),
  (2, 0, 0, 2, [], 78, .iconst 2, 1, 0),
  (36, 0, 0, 0, [], 79, .idiv, 1, 0),
  (5, 0, 0, 0, [], 80, .ireturn, 1, 0),
  (0, 0, 0, 0, [], 81, .aload_n 0, 1, 0),
  (1, 1, 0, 0, [], 82, .iload_n 1, 1, 0),
  (4, 128, 9, 1, [], 83, .invokevirtual 145, 3, 931),
  (12, 44, 0, 0, [], 86, .ifCond .ne 18, 3, 0),
  (0, 0, 0, 0, [], 89, .aload_n 0, 1, 0),
  (1, 1, 0, 0, [], 90, .iload_n 1, 1, 0),
  (1, 1, 0, 0, [], 91, .iload_n 1, 1, 0),
  (4, 136, 9, 2, [], 92, .invokevirtual 148, 3, 935),
  (2, 0, 0, 2, [], 95, .iconst 2, 1, 0),
  (36, 0, 0, 0, [], 96, .idiv, 1, 0),
  (12, 44, 0, 0, [], 97, .ifCond .ne 7, 3, 0),
  (2, 0, 0, 1, [], 100, .iconst 1, 1, 0),
  (6, 45, 0, 0, [], 101, .goto 4, 3, 0),
  (2, 0, 0, 0, [], 104, .iconst 0, 1, 0),
  (17, 111, 0, 1, [], 105, .invokestatic 112, 3, 924),
  (5, 0, 0, 0, [], 108, .ireturn, 1, 0),
  (2, 0, 0, 4294966294, [], 109, .sipush (-1002), 3, 0),
  (5, 0, 0, 0, [], 112, .ireturn, 1, 0)]
def m_X9_told : am_M := (yX9_told, cX9_told, 3, some .int)
def t_X9_at : List ri_row := [(0, 0, 0, 0, [], 0, .aload_n 0, 1, 0),
  (1, 1, 0, 0, [], 1, .iload_n 1, 1, 0),
  (4, 118, 9, 1, [], 2, .invokevirtual 100, 3, 896),
  (11, 6, 0, 0, [], 5, .ifCond .eq 7, 3, 0),
  (2, 0, 0, 4294966295, [], 8, .sipush (-1001), 3, 0),
  (5, 0, 0, 0, [], 11, .ireturn, 1, 0),
  (1, 2, 0, 0, [], 12, .iload_n 2, 1, 0),
  (24, 0, 0, 0, [], 13, .i2l, 1, 0),
  (38, 0, 0, 0, [], 14, .lconst 0, 1, 0),
  (0, 0, 0, 0, [], 15, .aload_n 0, 1, 0),
  (3, 9, 4, 0, [], 16, .getfield 13, 3, 786),
  (1, 1, 0, 0, [], 19, .iload_n 1, 1, 0),
  (8, 0, 0, 0, [], 20, .iaload, 1, 0),
  (2, 0, 0, 1, [], 21, .iconst 1, 1, 0),
  (10, 0, 0, 0, [], 22, .isub, 1, 0),
  (24, 0, 0, 0, [], 23, .i2l, 1, 0),
  (17, 110, 0, 3, [], 24, .invokestatic 75, 3, 873),
  (11, 27, 0, 0, [], 27, .ifCond .eq 17, 3, 0),
  (0, 0, 0, 0, [], 30, .aload_n 0, 1, 0),
  (3, 9, 5, 0, [], 31, .getfield 16, 3, 787),
  (2, 0, 0, 60, [], 34, .bipush 60, 2, 0),
  (1, 1, 0, 0, [], 36, .iload_n 1, 1, 0),
  (15, 0, 0, 0, [], 37, .imul, 1, 0),
  (1, 2, 0, 0, [], 38, .iload_n 2, 1, 0),
  (7, 0, 0, 0, [], 39, .iadd, 1, 0),
  (8, 0, 0, 0, [], 40, .iaload, 1, 0),
  (6, 28, 0, 0, [], 41, .goto 4, 3, 0),
  (2, 0, 0, 4294967295, [], 44, .iconst (-1), 1, 0),
  (5, 0, 0, 0, [], 45, .ireturn, 1, 0)]
def m_X9_at : am_M := (yX9_at, cX9_at, 3, some .int)
def t_X9_heap : List ri_row := [(1, 1, 0, 0, [], 0, .iload_n 1, 1, 0),
  (28, 7, 0, 0, [], 1, .ifCond .lt 12, 3, 0),
  (1, 1, 0, 0, [], 4, .iload_n 1, 1, 0),
  (0, 0, 0, 0, [], 5, .aload_n 0, 1, 0),
  (3, 9, 3, 0, [], 6, .getfield 70, 3, 785),
  (35, 0, 0, 0, [], 9, .ishr, 1, 0),
  (11, 9, 0, 0, [], 10, .ifCond .eq 7, 3, 0),
  (2, 0, 0, 4294966295, [], 13, .sipush (-1001), 3, 0),
  (5, 0, 0, 0, [], 16, .ireturn, 1, 0),
  (2, 0, 0, 0, [], 17, .iconst 0, 1, 0),
  (9, 2, 0, 0, [], 18, .istore_n 2, 1, 0),
  (1, 2, 0, 0, [], 19, .iload_n 2, 1, 0),
  (0, 0, 0, 0, [], 20, .aload_n 0, 1, 0),
  (3, 9, 3, 0, [], 21, .getfield 70, 3, 785),
  (13, 70, 0, 0, [], 24, .if_icmp .ge 92, 3, 0),
  (1, 1, 0, 0, [], 27, .iload_n 1, 1, 0),
  (1, 2, 0, 0, [], 28, .iload_n 2, 1, 0),
  (35, 0, 0, 0, [], 29, .ishr, 1, 0),
  (2, 0, 0, 1, [], 30, .iconst 1, 1, 0),
  (33, 0, 0, 0, [], 31, .iand, 1, 0),
  (2, 0, 0, 1, [], 32, .iconst 1, 1, 0),
  (18, 68, 0, 0, [], 33, .if_icmp .ne 77, 3, 0),
  (0, 0, 0, 0, [], 36, .aload_n 0, 1, 0),
  (1, 2, 0, 0, [], 37, .iload_n 2, 1, 0),
  (4, 137, 9, 1, [], 38, .invokevirtual 151, 3, 982),
  (12, 30, 0, 0, [], 41, .ifCond .ne 8, 3, 0),
  (2, 0, 0, 14, [], 44, .bipush 14, 2, 0),
  (1, 2, 0, 0, [], 46, .iload_n 2, 1, 0),
  (15, 0, 0, 0, [], 47, .imul, 1, 0),
  (5, 0, 0, 0, [], 48, .ireturn, 1, 0),
  (1, 2, 0, 0, [], 49, .iload_n 2, 1, 0),
  (2, 0, 0, 1, [], 50, .iconst 1, 1, 0),
  (7, 0, 0, 0, [], 51, .iadd, 1, 0),
  (9, 3, 0, 0, [], 52, .istore_n 3, 1, 0),
  (1, 3, 0, 0, [], 53, .iload_n 3, 1, 0),
  (0, 0, 0, 0, [], 54, .aload_n 0, 1, 0),
  (3, 9, 3, 0, [], 55, .getfield 70, 3, 785),
  (13, 68, 0, 0, [], 58, .if_icmp .ge 52, 3, 0),
  (1, 1, 0, 0, [], 61, .iload_n 1, 1, 0),
  (1, 3, 0, 0, [], 62, .iload_n 3, 1, 0),
  (35, 0, 0, 0, [], 63, .ishr, 1, 0),
  (2, 0, 0, 1, [], 64, .iconst 1, 1, 0),
  (33, 0, 0, 0, [], 65, .iand, 1, 0),
  (2, 0, 0, 1, [], 66, .iconst 1, 1, 0),
  (18, 66, 0, 0, [], 67, .if_icmp .ne 37, 3, 0),
  (0, 0, 0, 0, [], 70, .aload_n 0, 1, 0),
  (1, 3, 0, 0, [], 71, .iload_n 3, 1, 0),
  (4, 137, 9, 1, [], 72, .invokevirtual 151, 3, 982),
  (11, 66, 0, 0, [], 75, .ifCond .eq 29, 3, 0),
  (0, 0, 0, 0, [], 78, .aload_n 0, 1, 0),
  (1, 2, 0, 0, [], 79, .iload_n 2, 1, 0),
  (1, 3, 0, 0, [], 80, .iload_n 3, 1, 0),
  (4, 127, 9, 2, [], 81, .invokevirtual 154, 3, 986),
  (2, 0, 0, 1, [], 84, .iconst 1, 1, 0),
  (19, 60, 0, 0, [], 85, .if_icmp .eq 12, 3, 0),
  (0, 0, 0, 0, [], 88, .aload_n 0, 1, 0),
  (1, 2, 0, 0, [], 89, .iload_n 2, 1, 0),
  (1, 3, 0, 0, [], 90, .iload_n 3, 1, 0),
  (4, 136, 9, 2, [], 91, .invokevirtual 148, 3, 935),
  (29, 66, 0, 0, [], 94, .ifCond .le 10, 3, 0),
  (2, 0, 0, 13, [], 97, .bipush 13, 2, 0),
  (1, 2, 0, 0, [], 99, .iload_n 2, 1, 0),
  (15, 0, 0, 0, [], 100, .imul, 1, 0),
  (1, 3, 0, 0, [], 101, .iload_n 3, 1, 0),
  (7, 0, 0, 0, [], 102, .iadd, 1, 0),
  (5, 0, 0, 0, [], 103, .ireturn, 1, 0),
  (16, 3, 0, 1, [], 104, .iinc 3 1, 3, 0),
  (6, 34, 0, 0, [], 107, .goto (-54), 3, 0),
  (16, 2, 0, 1, [], 110, .iinc 2 1, 3, 0),
  (6, 11, 0, 0, [], 113, .goto (-94), 3, 0),
  (2, 0, 0, 4294967295, [], 116, .iconst (-1), 1, 0),
  (5, 0, 0, 0, [], 117, .ireturn, 1, 0)]
def m_X9_heap : am_M := (yX9_heap, cX9_heap, 4, some .int)
def t_X9_put : List ri_row := [(0, 0, 0, 0, [], 0, .aload_n 0, 1, 0),
  (3, 9, 15, 0, [], 1, .getfield 157, 3, 797),
  (29, 21, 0, 0, [], 4, .ifCond .le 33, 3, 0),
  (0, 0, 0, 0, [], 7, .aload_n 0, 1, 0),
  (3, 9, 14, 0, [], 8, .getfield 34, 3, 796),
  (0, 0, 0, 0, [], 11, .aload_n 0, 1, 0),
  (3, 9, 15, 0, [], 12, .getfield 157, 3, 797),
  (2, 0, 0, 1, [], 15, .iconst 1, 1, 0),
  (10, 0, 0, 0, [], 16, .isub, 1, 0),
  (8, 0, 0, 0, [], 17, .iaload, 1, 0),
  (2, 0, 0, 0, [], 18, .iconst 0, 1, 0),
  (1, 1, 0, 0, [], 19, .iload_n 1, 1, 0),
  (10, 0, 0, 0, [], 20, .isub, 1, 0),
  (18, 21, 0, 0, [], 21, .if_icmp .ne 16, 3, 0),
  (0, 0, 0, 0, [], 24, .aload_n 0, 1, 0),
  (23, 0, 0, 0, [], 25, .dup, 1, 0),
  (3, 9, 15, 0, [], 26, .getfield 157, 3, 797),
  (2, 0, 0, 1, [], 29, .iconst 1, 1, 0),
  (10, 0, 0, 0, [], 30, .isub, 1, 0),
  (14, 9, 15, 0, [], 31, .putfield 157, 3, 797),
  (6, 33, 0, 0, [], 34, .goto 23, 3, 0),
  (0, 0, 0, 0, [], 37, .aload_n 0, 1, 0),
  (3, 9, 14, 0, [], 38, .getfield 34, 3, 796),
  (0, 0, 0, 0, [], 41, .aload_n 0, 1, 0),
  (3, 9, 15, 0, [], 42, .getfield 157, 3, 797),
  (1, 1, 0, 0, [], 45, .iload_n 1, 1, 0),
  (22, 0, 0, 0, [], 46, .iastore, 1, 0),
  (0, 0, 0, 0, [], 47, .aload_n 0, 1, 0),
  (23, 0, 0, 0, [], 48, .dup, 1, 0),
  (3, 9, 15, 0, [], 49, .getfield 157, 3, 797),
  (2, 0, 0, 1, [], 52, .iconst 1, 1, 0),
  (7, 0, 0, 0, [], 53, .iadd, 1, 0),
  (14, 9, 15, 0, [], 54, .putfield 157, 3, 797),
  (21, 0, 0, 0, [], 57, .return_, 1, 0)]
def m_X9_put : am_M := (yX9_put, cX9_put, 2, none)
def t_X9_putC : List ri_row := [(2, 0, 0, 2, [], 0, .iconst 2, 1, 0),
  (1, 1, 0, 0, [], 1, .iload_n 1, 1, 0),
  (15, 0, 0, 0, [], 2, .imul, 1, 0),
  (2, 0, 0, 1, [], 3, .iconst 1, 1, 0),
  (7, 0, 0, 0, [], 4, .iadd, 1, 0),
  (9, 3, 0, 0, [], 5, .istore_n 3, 1, 0),
  (2, 0, 0, 2, [], 6, .iconst 2, 1, 0),
  (1, 1, 0, 0, [], 7, .iload_n 1, 1, 0),
  (15, 0, 0, 0, [], 8, .imul, 1, 0),
  (2, 0, 0, 2, [], 9, .iconst 2, 1, 0),
  (7, 0, 0, 0, [], 10, .iadd, 1, 0),
  (9, 4, 0, 0, [], 11, .istore 4, 2, 0),
  (2, 0, 0, 2, [], 13, .iconst 2, 1, 0),
  (1, 1, 0, 0, [], 14, .iload_n 1, 1, 0),
  (15, 0, 0, 0, [], 15, .imul, 1, 0),
  (2, 0, 0, 3, [], 16, .iconst 3, 1, 0),
  (7, 0, 0, 0, [], 17, .iadd, 1, 0),
  (9, 5, 0, 0, [], 18, .istore 5, 2, 0),
  (1, 2, 0, 0, [], 20, .iload_n 2, 1, 0),
  (11, 37, 0, 0, [], 21, .ifCond .eq 33, 3, 0),
  (0, 0, 0, 0, [], 24, .aload_n 0, 1, 0),
  (2, 0, 0, 0, [], 25, .iconst 0, 1, 0),
  (1, 5, 0, 0, [], 26, .iload 5, 2, 0),
  (10, 0, 0, 0, [], 28, .isub, 1, 0),
  (4, 142, 9, 1, [], 29, .invokevirtual 160, 3, 1064),
  (0, 0, 0, 0, [], 32, .aload_n 0, 1, 0),
  (1, 4, 0, 0, [], 33, .iload 4, 2, 0),
  (4, 142, 9, 1, [], 35, .invokevirtual 160, 3, 1064),
  (0, 0, 0, 0, [], 38, .aload_n 0, 1, 0),
  (1, 3, 0, 0, [], 39, .iload_n 3, 1, 0),
  (4, 142, 9, 1, [], 40, .invokevirtual 160, 3, 1064),
  (0, 0, 0, 0, [], 43, .aload_n 0, 1, 0),
  (2, 0, 0, 0, [], 44, .iconst 0, 1, 0),
  (1, 4, 0, 0, [], 45, .iload 4, 2, 0),
  (10, 0, 0, 0, [], 47, .isub, 1, 0),
  (4, 142, 9, 1, [], 48, .invokevirtual 160, 3, 1064),
  (6, 53, 0, 0, [], 51, .goto 30, 3, 0),
  (0, 0, 0, 0, [], 54, .aload_n 0, 1, 0),
  (1, 4, 0, 0, [], 55, .iload 4, 2, 0),
  (4, 142, 9, 1, [], 57, .invokevirtual 160, 3, 1064),
  (0, 0, 0, 0, [], 60, .aload_n 0, 1, 0),
  (2, 0, 0, 0, [], 61, .iconst 0, 1, 0),
  (1, 3, 0, 0, [], 62, .iload_n 3, 1, 0),
  (10, 0, 0, 0, [], 63, .isub, 1, 0),
  (4, 142, 9, 1, [], 64, .invokevirtual 160, 3, 1064),
  (0, 0, 0, 0, [], 67, .aload_n 0, 1, 0),
  (2, 0, 0, 0, [], 68, .iconst 0, 1, 0),
  (1, 4, 0, 0, [], 69, .iload 4, 2, 0),
  (10, 0, 0, 0, [], 71, .isub, 1, 0),
  (4, 142, 9, 1, [], 72, .invokevirtual 160, 3, 1064),
  (0, 0, 0, 0, [], 75, .aload_n 0, 1, 0),
  (1, 5, 0, 0, [], 76, .iload 5, 2, 0),
  (4, 142, 9, 1, [], 78, .invokevirtual 160, 3, 1064),
  (21, 0, 0, 0, [], 81, .return_, 1, 0)]
def m_X9_putC : am_M := (yX9_putC, cX9_putC, 6, none)
def t_X9_putImage : List ri_row := [(1, 1, 0, 0, [], 0, .iload_n 1, 1, 0),
  (0, 0, 0, 0, [], 1, .aload_n 0, 1, 0),
  (3, 9, 0, 0, [], 2, .getfield 64, 3, 782),
  (13, 6, 0, 0, [], 5, .if_icmp .ge 7, 3, 0),
  (2, 0, 0, 0, [], 8, .iconst 0, 1, 0),
  (6, 15, 0, 0, [], 9, .goto 18, 3, 0),
  (1, 1, 0, 0, [], 12, .iload_n 1, 1, 0),
  (2, 0, 0, 2, [], 13, .iconst 2, 1, 0),
  (0, 0, 0, 0, [], 14, .aload_n 0, 1, 0),
  (3, 9, 0, 0, [], 15, .getfield 64, 3, 782),
  (15, 0, 0, 0, [], 18, .imul, 1, 0),
  (13, 14, 0, 0, [], 19, .if_icmp .ge 7, 3, 0),
  (2, 0, 0, 1, [], 22, .iconst 1, 1, 0),
  (6, 15, 0, 0, [], 23, .goto 4, 3, 0),
  (2, 0, 0, 2, [], 26, .iconst 2, 1, 0),
  (9, 5, 0, 0, [], 27, .istore 5, 2, 0),
  (1, 1, 0, 0, [], 29, .iload_n 1, 1, 0),
  (1, 5, 0, 0, [], 30, .iload 5, 2, 0),
  (0, 0, 0, 0, [], 32, .aload_n 0, 1, 0),
  (3, 9, 0, 0, [], 33, .getfield 64, 3, 782),
  (15, 0, 0, 0, [], 36, .imul, 1, 0),
  (10, 0, 0, 0, [], 37, .isub, 1, 0),
  (9, 6, 0, 0, [], 38, .istore 6, 2, 0),
  (2, 0, 0, 2, [], 40, .iconst 2, 1, 0),
  (1, 6, 0, 0, [], 41, .iload 6, 2, 0),
  (15, 0, 0, 0, [], 43, .imul, 1, 0),
  (2, 0, 0, 1, [], 44, .iconst 1, 1, 0),
  (7, 0, 0, 0, [], 45, .iadd, 1, 0),
  (9, 7, 0, 0, [], 46, .istore 7, 2, 0),
  (2, 0, 0, 2, [], 48, .iconst 2, 1, 0),
  (1, 6, 0, 0, [], 49, .iload 6, 2, 0),
  (15, 0, 0, 0, [], 51, .imul, 1, 0),
  (2, 0, 0, 2, [], 52, .iconst 2, 1, 0),
  (7, 0, 0, 0, [], 53, .iadd, 1, 0),
  (9, 8, 0, 0, [], 54, .istore 8, 2, 0),
  (1, 5, 0, 0, [], 56, .iload 5, 2, 0),
  (12, 67, 0, 0, [], 58, .ifCond .ne 63, 3, 0),
  (1, 3, 0, 0, [], 61, .iload_n 3, 1, 0),
  (1, 8, 0, 0, [], 62, .iload 8, 2, 0),
  (18, 67, 0, 0, [], 64, .if_icmp .ne 57, 3, 0),
  (1, 2, 0, 0, [], 67, .iload_n 2, 1, 0),
  (11, 46, 0, 0, [], 68, .ifCond .eq 10, 3, 0),
  (2, 0, 0, 0, [], 71, .iconst 0, 1, 0),
  (1, 7, 0, 0, [], 72, .iload 7, 2, 0),
  (10, 0, 0, 0, [], 74, .isub, 1, 0),
  (6, 47, 0, 0, [], 75, .goto 5, 3, 0),
  (1, 7, 0, 0, [], 78, .iload 7, 2, 0),
  (9, 9, 0, 0, [], 80, .istore 9, 2, 0),
  (0, 0, 0, 0, [], 82, .aload_n 0, 1, 0),
  (1, 4, 0, 0, [], 83, .iload 4, 2, 0),
  (11, 55, 0, 0, [], 85, .ifCond .eq 10, 3, 0),
  (2, 0, 0, 0, [], 88, .iconst 0, 1, 0),
  (1, 9, 0, 0, [], 89, .iload 9, 2, 0),
  (10, 0, 0, 0, [], 91, .isub, 1, 0),
  (6, 56, 0, 0, [], 92, .goto 5, 3, 0),
  (1, 8, 0, 0, [], 95, .iload 8, 2, 0),
  (4, 142, 9, 1, [], 97, .invokevirtual 160, 3, 1064),
  (0, 0, 0, 0, [], 100, .aload_n 0, 1, 0),
  (1, 4, 0, 0, [], 101, .iload 4, 2, 0),
  (11, 64, 0, 0, [], 103, .ifCond .eq 10, 3, 0),
  (2, 0, 0, 0, [], 106, .iconst 0, 1, 0),
  (1, 8, 0, 0, [], 107, .iload 8, 2, 0),
  (10, 0, 0, 0, [], 109, .isub, 1, 0),
  (6, 65, 0, 0, [], 110, .goto 5, 3, 0),
  (1, 9, 0, 0, [], 113, .iload 9, 2, 0),
  (4, 142, 9, 1, [], 115, .invokevirtual 160, 3, 1064),
  (6, 201, 0, 0, [], 118, .goto 258, 3, 0),
  (1, 5, 0, 0, [], 121, .iload 5, 2, 0),
  (2, 0, 0, 1, [], 123, .iconst 1, 1, 0),
  (18, 100, 0, 0, [], 124, .if_icmp .ne 63, 3, 0),
  (1, 3, 0, 0, [], 127, .iload_n 3, 1, 0),
  (1, 7, 0, 0, [], 128, .iload 7, 2, 0),
  (18, 100, 0, 0, [], 130, .if_icmp .ne 57, 3, 0),
  (1, 2, 0, 0, [], 133, .iload_n 2, 1, 0),
  (11, 77, 0, 0, [], 134, .ifCond .eq 8, 3, 0),
  (1, 8, 0, 0, [], 137, .iload 8, 2, 0),
  (6, 80, 0, 0, [], 139, .goto 7, 3, 0),
  (2, 0, 0, 0, [], 142, .iconst 0, 1, 0),
  (1, 8, 0, 0, [], 143, .iload 8, 2, 0),
  (10, 0, 0, 0, [], 145, .isub, 1, 0),
  (9, 9, 0, 0, [], 146, .istore 9, 2, 0),
  (0, 0, 0, 0, [], 148, .aload_n 0, 1, 0),
  (1, 4, 0, 0, [], 149, .iload 4, 2, 0),
  (11, 88, 0, 0, [], 151, .ifCond .eq 10, 3, 0),
  (2, 0, 0, 0, [], 154, .iconst 0, 1, 0),
  (1, 9, 0, 0, [], 155, .iload 9, 2, 0),
  (10, 0, 0, 0, [], 157, .isub, 1, 0),
  (6, 89, 0, 0, [], 158, .goto 5, 3, 0),
  (1, 7, 0, 0, [], 161, .iload 7, 2, 0),
  (4, 142, 9, 1, [], 163, .invokevirtual 160, 3, 1064),
  (0, 0, 0, 0, [], 166, .aload_n 0, 1, 0),
  (1, 4, 0, 0, [], 167, .iload 4, 2, 0),
  (11, 97, 0, 0, [], 169, .ifCond .eq 10, 3, 0),
  (2, 0, 0, 0, [], 172, .iconst 0, 1, 0),
  (1, 7, 0, 0, [], 173, .iload 7, 2, 0),
  (10, 0, 0, 0, [], 175, .isub, 1, 0),
  (6, 98, 0, 0, [], 176, .goto 5, 3, 0),
  (1, 9, 0, 0, [], 179, .iload 9, 2, 0),
  (4, 142, 9, 1, [], 181, .invokevirtual 160, 3, 1064),
  (6, 201, 0, 0, [], 184, .goto 192, 3, 0),
  (1, 5, 0, 0, [], 187, .iload 5, 2, 0),
  (2, 0, 0, 2, [], 189, .iconst 2, 1, 0),
  (18, 130, 0, 0, [], 190, .if_icmp .ne 56, 3, 0),
  (1, 3, 0, 0, [], 193, .iload_n 3, 1, 0),
  (1, 8, 0, 0, [], 194, .iload 8, 2, 0),
  (18, 130, 0, 0, [], 196, .if_icmp .ne 50, 3, 0),
  (1, 4, 0, 0, [], 199, .iload 4, 2, 0),
  (11, 118, 0, 0, [], 201, .ifCond .eq 21, 3, 0),
  (0, 0, 0, 0, [], 204, .aload_n 0, 1, 0),
  (2, 0, 0, 0, [], 205, .iconst 0, 1, 0),
  (1, 8, 0, 0, [], 206, .iload 8, 2, 0),
  (10, 0, 0, 0, [], 208, .isub, 1, 0),
  (4, 142, 9, 1, [], 209, .invokevirtual 160, 3, 1064),
  (0, 0, 0, 0, [], 212, .aload_n 0, 1, 0),
  (1, 6, 0, 0, [], 213, .iload 6, 2, 0),
  (1, 2, 0, 0, [], 215, .iload_n 2, 1, 0),
  (4, 143, 9, 2, [], 216, .invokevirtual 163, 3, 1068),
  (6, 201, 0, 0, [], 219, .goto 157, 3, 0),
  (0, 0, 0, 0, [], 222, .aload_n 0, 1, 0),
  (1, 6, 0, 0, [], 223, .iload 6, 2, 0),
  (1, 2, 0, 0, [], 225, .iload_n 2, 1, 0),
  (12, 124, 0, 0, [], 226, .ifCond .ne 7, 3, 0),
  (2, 0, 0, 1, [], 229, .iconst 1, 1, 0),
  (6, 125, 0, 0, [], 230, .goto 4, 3, 0),
  (2, 0, 0, 0, [], 233, .iconst 0, 1, 0),
  (4, 143, 9, 2, [], 234, .invokevirtual 163, 3, 1068),
  (0, 0, 0, 0, [], 237, .aload_n 0, 1, 0),
  (1, 8, 0, 0, [], 238, .iload 8, 2, 0),
  (4, 142, 9, 1, [], 240, .invokevirtual 160, 3, 1064),
  (6, 201, 0, 0, [], 243, .goto 133, 3, 0),
  (1, 5, 0, 0, [], 246, .iload 5, 2, 0),
  (2, 0, 0, 2, [], 248, .iconst 2, 1, 0),
  (18, 160, 0, 0, [], 249, .if_icmp .ne 52, 3, 0),
  (1, 3, 0, 0, [], 252, .iload_n 3, 1, 0),
  (1, 8, 0, 0, [], 253, .iload 8, 2, 0),
  (2, 0, 0, 1, [], 255, .iconst 1, 1, 0),
  (7, 0, 0, 0, [], 256, .iadd, 1, 0),
  (18, 160, 0, 0, [], 257, .if_icmp .ne 44, 3, 0),
  (0, 0, 0, 0, [], 260, .aload_n 0, 1, 0),
  (1, 6, 0, 0, [], 261, .iload 6, 2, 0),
  (1, 2, 0, 0, [], 263, .iload_n 2, 1, 0),
  (12, 144, 0, 0, [], 264, .ifCond .ne 7, 3, 0),
  (2, 0, 0, 1, [], 267, .iconst 1, 1, 0),
  (6, 145, 0, 0, [], 268, .goto 4, 3, 0),
  (2, 0, 0, 0, [], 271, .iconst 0, 1, 0),
  (4, 143, 9, 2, [], 272, .invokevirtual 163, 3, 1068),
  (0, 0, 0, 0, [], 275, .aload_n 0, 1, 0),
  (1, 4, 0, 0, [], 276, .iload 4, 2, 0),
  (11, 153, 0, 0, [], 278, .ifCond .eq 9, 3, 0),
  (2, 0, 0, 0, [], 281, .iconst 0, 1, 0),
  (1, 3, 0, 0, [], 282, .iload_n 3, 1, 0),
  (10, 0, 0, 0, [], 283, .isub, 1, 0),
  (6, 154, 0, 0, [], 284, .goto 4, 3, 0),
  (1, 3, 0, 0, [], 287, .iload_n 3, 1, 0),
  (4, 142, 9, 1, [], 288, .invokevirtual 160, 3, 1064),
  (0, 0, 0, 0, [], 291, .aload_n 0, 1, 0),
  (1, 6, 0, 0, [], 292, .iload 6, 2, 0),
  (1, 2, 0, 0, [], 294, .iload_n 2, 1, 0),
  (4, 143, 9, 2, [], 295, .invokevirtual 163, 3, 1068),
  (6, 201, 0, 0, [], 298, .goto 78, 3, 0),
  (1, 5, 0, 0, [], 301, .iload 5, 2, 0),
  (2, 0, 0, 2, [], 303, .iconst 2, 1, 0),
  (18, 192, 0, 0, [], 304, .if_icmp .ne 56, 3, 0),
  (1, 3, 0, 0, [], 307, .iload_n 3, 1, 0),
  (1, 8, 0, 0, [], 308, .iload 8, 2, 0),
  (2, 0, 0, 2, [], 310, .iconst 2, 1, 0),
  (7, 0, 0, 0, [], 311, .iadd, 1, 0),
  (18, 192, 0, 0, [], 312, .if_icmp .ne 48, 3, 0),
  (1, 4, 0, 0, [], 315, .iload 4, 2, 0),
  (11, 184, 0, 0, [], 317, .ifCond .eq 28, 3, 0),
  (0, 0, 0, 0, [], 320, .aload_n 0, 1, 0),
  (1, 6, 0, 0, [], 321, .iload 6, 2, 0),
  (1, 2, 0, 0, [], 323, .iload_n 2, 1, 0),
  (12, 176, 0, 0, [], 324, .ifCond .ne 7, 3, 0),
  (2, 0, 0, 1, [], 327, .iconst 1, 1, 0),
  (6, 177, 0, 0, [], 328, .goto 4, 3, 0),
  (2, 0, 0, 0, [], 331, .iconst 0, 1, 0),
  (4, 143, 9, 2, [], 332, .invokevirtual 163, 3, 1068),
  (0, 0, 0, 0, [], 335, .aload_n 0, 1, 0),
  (2, 0, 0, 0, [], 336, .iconst 0, 1, 0),
  (1, 3, 0, 0, [], 337, .iload_n 3, 1, 0),
  (10, 0, 0, 0, [], 338, .isub, 1, 0),
  (4, 142, 9, 1, [], 339, .invokevirtual 160, 3, 1064),
  (6, 201, 0, 0, [], 342, .goto 34, 3, 0),
  (0, 0, 0, 0, [], 345, .aload_n 0, 1, 0),
  (1, 3, 0, 0, [], 346, .iload_n 3, 1, 0),
  (4, 142, 9, 1, [], 347, .invokevirtual 160, 3, 1064),
  (0, 0, 0, 0, [], 350, .aload_n 0, 1, 0),
  (1, 6, 0, 0, [], 351, .iload 6, 2, 0),
  (1, 2, 0, 0, [], 353, .iload_n 2, 1, 0),
  (4, 143, 9, 2, [], 354, .invokevirtual 163, 3, 1068),
  (6, 201, 0, 0, [], 357, .goto 19, 3, 0),
  (0, 0, 0, 0, [], 360, .aload_n 0, 1, 0),
  (1, 4, 0, 0, [], 361, .iload 4, 2, 0),
  (11, 199, 0, 0, [], 363, .ifCond .eq 9, 3, 0),
  (2, 0, 0, 0, [], 366, .iconst 0, 1, 0),
  (1, 3, 0, 0, [], 367, .iload_n 3, 1, 0),
  (10, 0, 0, 0, [], 368, .isub, 1, 0),
  (6, 200, 0, 0, [], 369, .goto 4, 3, 0),
  (1, 3, 0, 0, [], 372, .iload_n 3, 1, 0),
  (4, 142, 9, 1, [], 373, .invokevirtual 160, 3, 1064),
  (21, 0, 0, 0, [], 376, .return_, 1, 0)]
def m_X9_putImage : am_M := (yX9_putImage, cX9_putImage, 10, none)
def t_X9_twistRow : List ri_row := [(0, 0, 0, 0, [], 0, .aload_n 0, 1, 0),
  (2, 0, 0, 0, [], 1, .iconst 0, 1, 0),
  (14, 9, 15, 0, [], 2, .putfield 157, 3, 797),
  (2, 0, 0, 0, [], 5, .iconst 0, 1, 0),
  (9, 2, 0, 0, [], 6, .istore_n 2, 1, 0),
  (1, 2, 0, 0, [], 7, .iload_n 2, 1, 0),
  (0, 0, 0, 0, [], 8, .aload_n 0, 1, 0),
  (3, 9, 13, 0, [], 9, .getfield 167, 3, 795),
  (13, 41, 0, 0, [], 12, .if_icmp .ge 55, 3, 0),
  (0, 0, 0, 0, [], 15, .aload_n 0, 1, 0),
  (3, 9, 12, 0, [], 16, .getfield 31, 3, 794),
  (1, 2, 0, 0, [], 19, .iload_n 2, 1, 0),
  (8, 0, 0, 0, [], 20, .iaload, 1, 0),
  (9, 3, 0, 0, [], 21, .istore_n 3, 1, 0),
  (0, 0, 0, 0, [], 22, .aload_n 0, 1, 0),
  (1, 1, 0, 0, [], 23, .iload_n 1, 1, 0),
  (2, 0, 0, 2, [], 24, .iconst 2, 1, 0),
  (36, 0, 0, 0, [], 25, .idiv, 1, 0),
  (1, 1, 0, 0, [], 26, .iload_n 1, 1, 0),
  (2, 0, 0, 2, [], 27, .iconst 2, 1, 0),
  (34, 0, 0, 0, [], 28, .irem, 1, 0),
  (2, 0, 0, 1, [], 29, .iconst 1, 1, 0),
  (18, 25, 0, 0, [], 30, .if_icmp .ne 7, 3, 0),
  (2, 0, 0, 1, [], 33, .iconst 1, 1, 0),
  (6, 26, 0, 0, [], 34, .goto 4, 3, 0),
  (2, 0, 0, 0, [], 37, .iconst 0, 1, 0),
  (1, 3, 0, 0, [], 38, .iload_n 3, 1, 0),
  (30, 32, 0, 0, [], 39, .ifCond .ge 9, 3, 0),
  (2, 0, 0, 0, [], 42, .iconst 0, 1, 0),
  (1, 3, 0, 0, [], 43, .iload_n 3, 1, 0),
  (10, 0, 0, 0, [], 44, .isub, 1, 0),
  (6, 33, 0, 0, [], 45, .goto 4, 3, 0),
  (1, 3, 0, 0, [], 48, .iload_n 3, 1, 0),
  (1, 3, 0, 0, [], 49, .iload_n 3, 1, 0),
  (30, 37, 0, 0, [], 50, .ifCond .ge 7, 3, 0),
  (2, 0, 0, 1, [], 53, .iconst 1, 1, 0),
  (6, 38, 0, 0, [], 54, .goto 4, 3, 0),
  (2, 0, 0, 0, [], 57, .iconst 0, 1, 0),
  (4, 144, 9, 4, [], 58, .invokevirtual 170, 3, 1060),
  (16, 2, 0, 1, [], 61, .iinc 2 1, 3, 0),
  (6, 5, 0, 0, [], 64, .goto (-57), 3, 0),
  (0, 0, 0, 0, [], 67, .aload_n 0, 1, 0),
  (3, 9, 15, 0, [], 68, .getfield 157, 3, 797),
  (2, 0, 0, 400, [], 71, .sipush 400, 3, 0),
  (27, 47, 0, 0, [], 74, .if_icmp .le 5, 3, 0),
  (2, 0, 0, 0, [], 77, .iconst 0, 1, 0),
  (5, 0, 1, 0, [], 78, .ireturn, 1, 0),
  (0, 0, 0, 0, [], 79, .aload_n 0, 1, 0),
  (0, 0, 0, 0, [], 80, .aload_n 0, 1, 0),
  (3, 9, 15, 0, [], 81, .getfield 157, 3, 797),
  (14, 9, 13, 0, [], 84, .putfield 167, 3, 795),
  (2, 0, 0, 0, [], 87, .iconst 0, 1, 0),
  (9, 2, 0, 0, [], 88, .istore_n 2, 1, 0),
  (1, 2, 0, 0, [], 89, .iload_n 2, 1, 0),
  (0, 0, 0, 0, [], 90, .aload_n 0, 1, 0),
  (3, 9, 15, 0, [], 91, .getfield 157, 3, 797),
  (13, 67, 0, 0, [], 94, .if_icmp .ge 21, 3, 0),
  (0, 0, 0, 0, [], 97, .aload_n 0, 1, 0),
  (3, 9, 12, 0, [], 98, .getfield 31, 3, 794),
  (1, 2, 0, 0, [], 101, .iload_n 2, 1, 0),
  (0, 0, 0, 0, [], 102, .aload_n 0, 1, 0),
  (3, 9, 14, 0, [], 103, .getfield 34, 3, 796),
  (1, 2, 0, 0, [], 106, .iload_n 2, 1, 0),
  (8, 0, 0, 0, [], 107, .iaload, 1, 0),
  (22, 0, 0, 0, [], 108, .iastore, 1, 0),
  (16, 2, 0, 1, [], 109, .iinc 2 1, 3, 0),
  (6, 53, 0, 0, [], 112, .goto (-23), 3, 0),
  (2, 0, 0, 1, [], 115, .iconst 1, 1, 0),
  (5, 0, 1, 0, [], 116, .ireturn, 1, 0)]
def m_X9_twistRow : am_M := (yX9_twistRow, cX9_twistRow, 4, some .boolean)
def t_X9_imageRow : List ri_row := [(0, 0, 0, 0, [], 0, .aload_n 0, 1, 0),
  (3, 9, 6, 0, [], 1, .getfield 19, 3, 788),
  (1, 1, 0, 0, [], 4, .iload_n 1, 1, 0),
  (8, 0, 0, 0, [], 5, .iaload, 1, 0),
  (2, 0, 0, 1, [], 6, .iconst 1, 1, 0),
  (10, 0, 0, 0, [], 7, .isub, 1, 0),
  (9, 2, 0, 0, [], 8, .istore_n 2, 1, 0),
  (1, 2, 0, 0, [], 9, .iload_n 2, 1, 0),
  (28, 24, 0, 0, [], 10, .ifCond .lt 29, 3, 0),
  (0, 0, 0, 0, [], 13, .aload_n 0, 1, 0),
  (0, 0, 0, 0, [], 14, .aload_n 0, 1, 0),
  (3, 9, 7, 0, [], 15, .getfield 22, 3, 789),
  (2, 0, 0, 60, [], 18, .bipush 60, 2, 0),
  (1, 1, 0, 0, [], 20, .iload_n 1, 1, 0),
  (15, 0, 0, 0, [], 21, .imul, 1, 0),
  (1, 2, 0, 0, [], 22, .iload_n 2, 1, 0),
  (7, 0, 0, 0, [], 23, .iadd, 1, 0),
  (8, 0, 0, 0, [], 24, .iaload, 1, 0),
  (4, 145, 9, 1, [], 25, .invokevirtual 174, 3, 1056),
  (12, 22, 0, 0, [], 28, .ifCond .ne 5, 3, 0),
  (2, 0, 0, 0, [], 31, .iconst 0, 1, 0),
  (5, 0, 1, 0, [], 32, .ireturn, 1, 0),
  (16, 2, 0, 4294967295, [], 33, .iinc 2 (-1), 3, 0),
  (6, 7, 0, 0, [], 36, .goto (-27), 3, 0),
  (2, 0, 0, 1, [], 39, .iconst 1, 1, 0),
  (5, 0, 1, 0, [], 40, .ireturn, 1, 0)]
def m_X9_imageRow : am_M := (yX9_imageRow, cX9_imageRow, 3, some .boolean)
def t_X9_takeLetter : List ri_row := [(0, 0, 0, 0, [], 0, .aload_n 0, 1, 0),
  (2, 0, 0, 1, [], 1, .iconst 1, 1, 0),
  (14, 9, 13, 0, [], 2, .putfield 167, 3, 795),
  (0, 0, 0, 0, [], 5, .aload_n 0, 1, 0),
  (3, 9, 12, 0, [], 6, .getfield 31, 3, 794),
  (2, 0, 0, 0, [], 9, .iconst 0, 1, 0),
  (1, 1, 0, 0, [], 10, .iload_n 1, 1, 0),
  (22, 0, 0, 0, [], 11, .iastore, 1, 0),
  (21, 0, 0, 0, [], 12, .return_, 1, 0)]
def m_X9_takeLetter : am_M := (yX9_takeLetter, cX9_takeLetter, 2, none)
def t_X9_takeRing : List ri_row := [(0, 0, 0, 0, [], 0, .aload_n 0, 1, 0),
  (0, 0, 0, 0, [], 1, .aload_n 0, 1, 0),
  (3, 9, 4, 0, [], 2, .getfield 13, 3, 786),
  (1, 1, 0, 0, [], 5, .iload_n 1, 1, 0),
  (8, 0, 0, 0, [], 6, .iaload, 1, 0),
  (14, 9, 13, 0, [], 7, .putfield 167, 3, 795),
  (2, 0, 0, 0, [], 10, .iconst 0, 1, 0),
  (9, 2, 0, 0, [], 11, .istore_n 2, 1, 0),
  (1, 2, 0, 0, [], 12, .iload_n 2, 1, 0),
  (0, 0, 0, 0, [], 13, .aload_n 0, 1, 0),
  (3, 9, 13, 0, [], 14, .getfield 167, 3, 795),
  (13, 26, 0, 0, [], 17, .if_icmp .ge 26, 3, 0),
  (0, 0, 0, 0, [], 20, .aload_n 0, 1, 0),
  (3, 9, 12, 0, [], 21, .getfield 31, 3, 794),
  (1, 2, 0, 0, [], 24, .iload_n 2, 1, 0),
  (0, 0, 0, 0, [], 25, .aload_n 0, 1, 0),
  (3, 9, 5, 0, [], 26, .getfield 16, 3, 787),
  (2, 0, 0, 60, [], 29, .bipush 60, 2, 0),
  (1, 1, 0, 0, [], 31, .iload_n 1, 1, 0),
  (15, 0, 0, 0, [], 32, .imul, 1, 0),
  (1, 2, 0, 0, [], 33, .iload_n 2, 1, 0),
  (7, 0, 0, 0, [], 34, .iadd, 1, 0),
  (8, 0, 0, 0, [], 35, .iaload, 1, 0),
  (22, 0, 0, 0, [], 36, .iastore, 1, 0),
  (16, 2, 0, 1, [], 37, .iinc 2 1, 3, 0),
  (6, 8, 0, 0, [], 40, .goto (-28), 3, 0),
  (21, 0, 0, 0, [], 43, .return_, 1, 0)]
def m_X9_takeRing : am_M := (yX9_takeRing, cX9_takeRing, 3, none)
def t_X9_closeToU : List ri_row := [(2, 0, 0, 0, [], 0, .iconst 0, 1, 0),
  (9, 1, 0, 0, [], 1, .istore_n 1, 1, 0),
  (0, 0, 0, 0, [], 2, .aload_n 0, 1, 0),
  (3, 9, 13, 0, [], 3, .getfield 167, 3, 795),
  (9, 2, 0, 0, [], 6, .istore_n 2, 1, 0),
  (1, 2, 0, 0, [], 7, .iload_n 2, 1, 0),
  (1, 1, 0, 0, [], 8, .iload_n 1, 1, 0),
  (10, 0, 0, 0, [], 9, .isub, 1, 0),
  (2, 0, 0, 1, [], 10, .iconst 1, 1, 0),
  (27, 26, 0, 0, [], 11, .if_icmp .le 31, 3, 0),
  (0, 0, 0, 0, [], 14, .aload_n 0, 1, 0),
  (3, 9, 12, 0, [], 15, .getfield 31, 3, 794),
  (1, 1, 0, 0, [], 18, .iload_n 1, 1, 0),
  (8, 0, 0, 0, [], 19, .iaload, 1, 0),
  (2, 0, 0, 0, [], 20, .iconst 0, 1, 0),
  (0, 0, 0, 0, [], 21, .aload_n 0, 1, 0),
  (3, 9, 12, 0, [], 22, .getfield 31, 3, 794),
  (1, 2, 0, 0, [], 25, .iload_n 2, 1, 0),
  (2, 0, 0, 1, [], 26, .iconst 1, 1, 0),
  (10, 0, 0, 0, [], 27, .isub, 1, 0),
  (8, 0, 0, 0, [], 28, .iaload, 1, 0),
  (10, 0, 0, 0, [], 29, .isub, 1, 0),
  (18, 26, 0, 0, [], 30, .if_icmp .ne 12, 3, 0),
  (16, 1, 0, 1, [], 33, .iinc 1 1, 3, 0),
  (16, 2, 0, 4294967295, [], 36, .iinc 2 (-1), 3, 0),
  (6, 5, 0, 0, [], 39, .goto (-32), 3, 0),
  (0, 0, 0, 0, [], 42, .aload_n 0, 1, 0),
  (1, 2, 0, 0, [], 43, .iload_n 2, 1, 0),
  (1, 1, 0, 0, [], 44, .iload_n 1, 1, 0),
  (10, 0, 0, 0, [], 45, .isub, 1, 0),
  (14, 9, 9, 0, [], 46, .putfield 83, 3, 791),
  (1, 1, 0, 0, [], 49, .iload_n 1, 1, 0),
  (9, 3, 0, 0, [], 50, .istore_n 3, 1, 0),
  (1, 3, 0, 0, [], 51, .iload_n 3, 1, 0),
  (1, 2, 0, 0, [], 52, .iload_n 2, 1, 0),
  (13, 48, 0, 0, [], 53, .if_icmp .ge 23, 3, 0),
  (0, 0, 0, 0, [], 56, .aload_n 0, 1, 0),
  (3, 9, 8, 0, [], 57, .getfield 25, 3, 790),
  (1, 3, 0, 0, [], 60, .iload_n 3, 1, 0),
  (1, 1, 0, 0, [], 61, .iload_n 1, 1, 0),
  (10, 0, 0, 0, [], 62, .isub, 1, 0),
  (0, 0, 0, 0, [], 63, .aload_n 0, 1, 0),
  (3, 9, 12, 0, [], 64, .getfield 31, 3, 794),
  (1, 3, 0, 0, [], 67, .iload_n 3, 1, 0),
  (8, 0, 0, 0, [], 68, .iaload, 1, 0),
  (22, 0, 0, 0, [], 69, .iastore, 1, 0),
  (16, 3, 0, 1, [], 70, .iinc 3 1, 3, 0),
  (6, 33, 0, 0, [], 73, .goto (-22), 3, 0),
  (21, 0, 0, 0, [], 76, .return_, 1, 0)]
def m_X9_closeToU : am_M := (yX9_closeToU, cX9_closeToU, 4, none)
def t_X9_noPlan : List ri_row := [(1, 1, 0, 0, [], 0, .iload_n 1, 1, 0),
  (24, 0, 0, 0, [], 1, .i2l, 1, 0),
  (38, 0, 0, 0, [], 2, .lconst 0, 1, 0),
  (38, 0, 0, 7, [], 3, .ldc2_w 177, 3, 1001),
  (17, 110, 0, 3, [], 6, .invokestatic 75, 3, 873),
  (12, 8, 0, 0, [], 9, .ifCond .ne 7, 3, 0),
  (2, 0, 0, 1, [], 12, .iconst 1, 1, 0),
  (6, 9, 0, 0, [], 13, .goto 4, 3, 0),
  (2, 0, 0, 0, [], 16, .iconst 0, 1, 0),
  (5, 0, 1, 0, [], 17, .ireturn, 1, 0)]
def m_X9_noPlan : am_M := (yX9_noPlan, cX9_noPlan, 2, some .boolean)
def t_X9_feed : List ri_row := [(1, 1, 0, 0, [], 0, .iload_n 1, 1, 0),
  (24, 0, 0, 0, [], 1, .i2l, 1, 0),
  (38, 0, 0, 1, [], 2, .lconst 1, 1, 0),
  (38, 0, 0, 8, [], 3, .ldc2_w 179, 3, 991),
  (17, 110, 0, 3, [], 6, .invokestatic 75, 3, 873),
  (12, 8, 0, 0, [], 9, .ifCond .ne 7, 3, 0),
  (2, 0, 0, 4294966294, [], 12, .sipush (-1002), 3, 0),
  (5, 0, 0, 0, [], 15, .ireturn, 1, 0),
  (0, 0, 0, 0, [], 16, .aload_n 0, 1, 0),
  (3, 9, 17, 0, [], 17, .getfield 181, 3, 799),
  (1, 1, 0, 0, [], 20, .iload_n 1, 1, 0),
  (7, 0, 0, 0, [], 21, .iadd, 1, 0),
  (2, 0, 0, 120, [], 22, .bipush 120, 2, 0),
  (27, 16, 0, 0, [], 24, .if_icmp .le 7, 3, 0),
  (2, 0, 0, 4294966292, [], 27, .sipush (-1004), 3, 0),
  (5, 0, 0, 0, [], 30, .ireturn, 1, 0),
  (1, 1, 0, 0, [], 31, .iload_n 1, 1, 0),
  (2, 0, 0, 1, [], 32, .iconst 1, 1, 0),
  (10, 0, 0, 0, [], 33, .isub, 1, 0),
  (9, 4, 0, 0, [], 34, .istore 4, 2, 0),
  (1, 4, 0, 0, [], 36, .iload 4, 2, 0),
  (28, 43, 0, 0, [], 38, .ifCond .lt 40, 3, 0),
  (0, 0, 0, 0, [], 41, .aload_n 0, 1, 0),
  (3, 9, 16, 0, [], 42, .getfield 37, 3, 798),
  (0, 0, 0, 0, [], 45, .aload_n 0, 1, 0),
  (3, 9, 17, 0, [], 46, .getfield 181, 3, 799),
  (39, 2, 0, 0, [], 49, .lload_n 2, 1, 0),
  (2, 0, 0, 8, [], 50, .bipush 8, 2, 0),
  (1, 4, 0, 0, [], 52, .iload 4, 2, 0),
  (15, 0, 0, 0, [], 54, .imul, 1, 0),
  (99, 0, 0, 0, [], 55, .lshr, 1, 0),
  (38, 0, 0, 255, [], 56, .ldc2_w 184, 3, 992),
  (99, 0, 0, 0, [], 59, .land, 1, 0),
  (99, 0, 0, 0, [], 60, .l2i, 1, 0),
  (22, 0, 0, 0, [], 61, .iastore, 1, 0),
  (0, 0, 0, 0, [], 62, .aload_n 0, 1, 0),
  (23, 0, 0, 0, [], 63, .dup, 1, 0),
  (3, 9, 17, 0, [], 64, .getfield 181, 3, 799),
  (2, 0, 0, 1, [], 67, .iconst 1, 1, 0),
  (7, 0, 0, 0, [], 68, .iadd, 1, 0),
  (14, 9, 17, 0, [], 69, .putfield 181, 3, 799),
  (16, 4, 0, 4294967295, [], 72, .iinc 4 (-1), 3, 0),
  (6, 20, 0, 0, [], 75, .goto (-39), 3, 0),
  (0, 0, 0, 0, [], 78, .aload_n 0, 1, 0),
  (3, 9, 17, 0, [], 79, .getfield 181, 3, 799),
  (5, 0, 0, 0, [], 82, .ireturn, 1, 0)]
def m_X9_feed : am_M := (yX9_feed, cX9_feed, 5, some .int)
def t_X9_look : List ri_row := [(0, 0, 0, 0, [], 0, .aload_n 0, 1, 0),
  (3, 9, 18, 0, [], 1, .getfield 186, 3, 800),
  (0, 0, 0, 0, [], 4, .aload_n 0, 1, 0),
  (3, 9, 17, 0, [], 5, .getfield 181, 3, 799),
  (13, 19, 0, 0, [], 8, .if_icmp .ge 30, 3, 0),
  (0, 0, 0, 0, [], 11, .aload_n 0, 1, 0),
  (3, 9, 16, 0, [], 12, .getfield 37, 3, 798),
  (0, 0, 0, 0, [], 15, .aload_n 0, 1, 0),
  (3, 9, 18, 0, [], 16, .getfield 186, 3, 800),
  (8, 0, 0, 0, [], 19, .iaload, 1, 0),
  (2, 0, 0, 32, [], 20, .bipush 32, 2, 0),
  (18, 19, 0, 0, [], 22, .if_icmp .ne 16, 3, 0),
  (0, 0, 0, 0, [], 25, .aload_n 0, 1, 0),
  (23, 0, 0, 0, [], 26, .dup, 1, 0),
  (3, 9, 18, 0, [], 27, .getfield 186, 3, 800),
  (2, 0, 0, 1, [], 30, .iconst 1, 1, 0),
  (7, 0, 0, 0, [], 31, .iadd, 1, 0),
  (14, 9, 18, 0, [], 32, .putfield 186, 3, 800),
  (6, 0, 0, 0, [], 35, .goto (-35), 3, 0),
  (0, 0, 0, 0, [], 38, .aload_n 0, 1, 0),
  (3, 9, 18, 0, [], 39, .getfield 186, 3, 800),
  (0, 0, 0, 0, [], 42, .aload_n 0, 1, 0),
  (3, 9, 17, 0, [], 43, .getfield 181, 3, 799),
  (13, 30, 0, 0, [], 46, .if_icmp .ge 15, 3, 0),
  (0, 0, 0, 0, [], 49, .aload_n 0, 1, 0),
  (3, 9, 16, 0, [], 50, .getfield 37, 3, 798),
  (0, 0, 0, 0, [], 53, .aload_n 0, 1, 0),
  (3, 9, 18, 0, [], 54, .getfield 186, 3, 800),
  (8, 0, 0, 0, [], 57, .iaload, 1, 0),
  (6, 31, 0, 0, [], 58, .goto 4, 3, 0),
  (2, 0, 0, 4294967295, [], 61, .iconst (-1), 1, 0),
  (5, 0, 0, 0, [], 62, .ireturn, 1, 0)]
def m_X9_look : am_M := (yX9_look, cX9_look, 1, some .int)
def t_X9_want : List ri_row := [(1, 1, 0, 0, [], 0, .iload_n 1, 1, 0),
  (12, 11, 0, 0, [], 1, .ifCond .ne 20, 3, 0),
  (0, 0, 0, 0, [], 4, .aload_n 0, 1, 0),
  (3, 9, 19, 0, [], 5, .getfield 189, 3, 801),
  (12, 11, 0, 0, [], 8, .ifCond .ne 13, 3, 0),
  (0, 0, 0, 0, [], 11, .aload_n 0, 1, 0),
  (1, 2, 0, 0, [], 12, .iload_n 2, 1, 0),
  (14, 9, 19, 0, [], 13, .putfield 189, 3, 801),
  (0, 0, 0, 0, [], 16, .aload_n 0, 1, 0),
  (1, 3, 0, 0, [], 17, .iload_n 3, 1, 0),
  (14, 9, 20, 0, [], 18, .putfield 40, 3, 802),
  (0, 0, 0, 0, [], 21, .aload_n 0, 1, 0),
  (3, 9, 19, 0, [], 22, .getfield 189, 3, 801),
  (12, 16, 0, 0, [], 25, .ifCond .ne 7, 3, 0),
  (2, 0, 0, 1, [], 28, .iconst 1, 1, 0),
  (6, 17, 0, 0, [], 29, .goto 4, 3, 0),
  (2, 0, 0, 0, [], 32, .iconst 0, 1, 0),
  (5, 0, 1, 0, [], 33, .ireturn, 1, 0)]
def m_X9_want : am_M := (yX9_want, cX9_want, 4, some .boolean)
def t_X9_takeFigure : List ri_row := [(0, 0, 0, 0, [], 0, .aload_n 0, 1, 0),
  (4, 152, 9, 0, [], 1, .invokevirtual 192, 3, 1002),
  (9, 3, 0, 0, [], 4, .istore_n 3, 1, 0),
  (0, 0, 0, 0, [], 5, .aload_n 0, 1, 0),
  (1, 3, 0, 0, [], 6, .iload_n 3, 1, 0),
  (24, 0, 0, 0, [], 7, .i2l, 1, 0),
  (38, 0, 0, 48, [], 8, .ldc2_w 195, 3, 1018),
  (38, 0, 0, 57, [], 11, .ldc2_w 197, 3, 1019),
  (17, 110, 0, 3, [], 14, .invokestatic 75, 3, 873),
  (2, 0, 0, 1, [], 17, .iconst 1, 1, 0),
  (0, 0, 0, 0, [], 18, .aload_n 0, 1, 0),
  (3, 9, 18, 0, [], 19, .getfield 186, 3, 800),
  (4, 153, 9, 3, [], 22, .invokevirtual 199, 3, 1020),
  (11, 29, 0, 0, [], 25, .ifCond .eq 27, 3, 0),
  (0, 0, 0, 0, [], 28, .aload_n 0, 1, 0),
  (1, 3, 0, 0, [], 29, .iload_n 3, 1, 0),
  (2, 0, 0, 48, [], 30, .bipush 48, 2, 0),
  (10, 0, 0, 0, [], 32, .isub, 1, 0),
  (24, 0, 0, 0, [], 33, .i2l, 1, 0),
  (1, 1, 0, 0, [], 34, .iload_n 1, 1, 0),
  (24, 0, 0, 0, [], 35, .i2l, 1, 0),
  (1, 2, 0, 0, [], 36, .iload_n 2, 1, 0),
  (24, 0, 0, 0, [], 37, .i2l, 1, 0),
  (17, 110, 0, 3, [], 38, .invokestatic 75, 3, 873),
  (2, 0, 0, 2, [], 41, .iconst 2, 1, 0),
  (0, 0, 0, 0, [], 42, .aload_n 0, 1, 0),
  (3, 9, 18, 0, [], 43, .getfield 186, 3, 800),
  (4, 153, 9, 3, [], 46, .invokevirtual 199, 3, 1020),
  (12, 31, 0, 0, [], 49, .ifCond .ne 5, 3, 0),
  (2, 0, 0, 0, [], 52, .iconst 0, 1, 0),
  (5, 0, 0, 0, [], 53, .ireturn, 1, 0),
  (0, 0, 0, 0, [], 54, .aload_n 0, 1, 0),
  (23, 0, 0, 0, [], 55, .dup, 1, 0),
  (3, 9, 18, 0, [], 56, .getfield 186, 3, 800),
  (2, 0, 0, 1, [], 59, .iconst 1, 1, 0),
  (7, 0, 0, 0, [], 60, .iadd, 1, 0),
  (14, 9, 18, 0, [], 61, .putfield 186, 3, 800),
  (1, 3, 0, 0, [], 64, .iload_n 3, 1, 0),
  (2, 0, 0, 48, [], 65, .bipush 48, 2, 0),
  (10, 0, 0, 0, [], 67, .isub, 1, 0),
  (5, 0, 0, 0, [], 68, .ireturn, 1, 0)]
def m_X9_takeFigure : am_M := (yX9_takeFigure, cX9_takeFigure, 4, some .int)
def t_X9_readTwist : List ri_row := [(0, 0, 0, 0, [], 0, .aload_n 0, 1, 0),
  (3, 9, 18, 0, [], 1, .getfield 186, 3, 800),
  (9, 2, 0, 0, [], 4, .istore_n 2, 1, 0),
  (0, 0, 0, 0, [], 5, .aload_n 0, 1, 0),
  (23, 0, 0, 0, [], 6, .dup, 1, 0),
  (3, 9, 18, 0, [], 7, .getfield 186, 3, 800),
  (2, 0, 0, 1, [], 10, .iconst 1, 1, 0),
  (7, 0, 0, 0, [], 11, .iadd, 1, 0),
  (14, 9, 18, 0, [], 12, .putfield 186, 3, 800),
  (0, 0, 0, 0, [], 15, .aload_n 0, 1, 0),
  (2, 0, 0, 1, [], 16, .iconst 1, 1, 0),
  (1, 1, 0, 0, [], 17, .iload_n 1, 1, 0),
  (2, 0, 0, 2, [], 18, .iconst 2, 1, 0),
  (18, 19, 0, 0, [], 19, .if_icmp .ne 12, 3, 0),
  (0, 0, 0, 0, [], 22, .aload_n 0, 1, 0),
  (3, 9, 0, 0, [], 23, .getfield 64, 3, 782),
  (2, 0, 0, 1, [], 26, .iconst 1, 1, 0),
  (10, 0, 0, 0, [], 27, .isub, 1, 0),
  (6, 21, 0, 0, [], 28, .goto 7, 3, 0),
  (0, 0, 0, 0, [], 31, .aload_n 0, 1, 0),
  (3, 9, 0, 0, [], 32, .getfield 64, 3, 782),
  (4, 154, 9, 2, [], 35, .invokevirtual 203, 3, 1014),
  (9, 3, 0, 0, [], 38, .istore_n 3, 1, 0),
  (0, 0, 0, 0, [], 39, .aload_n 0, 1, 0),
  (3, 9, 19, 0, [], 40, .getfield 189, 3, 801),
  (29, 27, 0, 0, [], 43, .ifCond .le 4, 3, 0),
  (21, 0, 0, 0, [], 46, .return_, 1, 0),
  (0, 0, 0, 0, [], 47, .aload_n 0, 1, 0),
  (4, 152, 9, 0, [], 48, .invokevirtual 192, 3, 1002),
  (2, 0, 0, 45, [], 51, .bipush 45, 2, 0),
  (18, 33, 0, 0, [], 53, .if_icmp .ne 7, 3, 0),
  (2, 0, 0, 1, [], 56, .iconst 1, 1, 0),
  (6, 34, 0, 0, [], 57, .goto 4, 3, 0),
  (2, 0, 0, 0, [], 60, .iconst 0, 1, 0),
  (9, 4, 0, 0, [], 61, .istore 4, 2, 0),
  (0, 0, 0, 0, [], 63, .aload_n 0, 1, 0),
  (23, 0, 0, 0, [], 64, .dup, 1, 0),
  (3, 9, 18, 0, [], 65, .getfield 186, 3, 800),
  (1, 4, 0, 0, [], 68, .iload 4, 2, 0),
  (17, 111, 0, 1, [], 70, .invokestatic 112, 3, 924),
  (7, 0, 0, 0, [], 73, .iadd, 1, 0),
  (14, 9, 18, 0, [], 74, .putfield 186, 3, 800),
  (0, 0, 0, 0, [], 77, .aload_n 0, 1, 0),
  (0, 0, 0, 0, [], 78, .aload_n 0, 1, 0),
  (3, 9, 24, 0, [], 79, .getfield 206, 3, 806),
  (2, 0, 0, 60, [], 82, .bipush 60, 2, 0),
  (13, 49, 0, 0, [], 84, .if_icmp .ge 7, 3, 0),
  (2, 0, 0, 1, [], 87, .iconst 1, 1, 0),
  (6, 50, 0, 0, [], 88, .goto 4, 3, 0),
  (2, 0, 0, 0, [], 91, .iconst 0, 1, 0),
  (2, 0, 0, 3, [], 92, .iconst 3, 1, 0),
  (1, 2, 0, 0, [], 93, .iload_n 2, 1, 0),
  (4, 153, 9, 3, [], 94, .invokevirtual 199, 3, 1020),
  (11, 78, 0, 0, [], 97, .ifCond .eq 40, 3, 0),
  (0, 0, 0, 0, [], 100, .aload_n 0, 1, 0),
  (3, 9, 23, 0, [], 101, .getfield 47, 3, 805),
  (0, 0, 0, 0, [], 104, .aload_n 0, 1, 0),
  (3, 9, 24, 0, [], 105, .getfield 206, 3, 806),
  (2, 0, 0, 2, [], 108, .iconst 2, 1, 0),
  (1, 1, 0, 0, [], 109, .iload_n 1, 1, 0),
  (0, 0, 0, 0, [], 110, .aload_n 0, 1, 0),
  (3, 9, 0, 0, [], 111, .getfield 64, 3, 782),
  (15, 0, 0, 0, [], 114, .imul, 1, 0),
  (1, 3, 0, 0, [], 115, .iload_n 3, 1, 0),
  (7, 0, 0, 0, [], 116, .iadd, 1, 0),
  (2, 0, 0, 1, [], 117, .iconst 1, 1, 0),
  (10, 0, 0, 0, [], 118, .isub, 1, 0),
  (15, 0, 0, 0, [], 119, .imul, 1, 0),
  (1, 4, 0, 0, [], 120, .iload 4, 2, 0),
  (17, 111, 0, 1, [], 122, .invokestatic 112, 3, 924),
  (7, 0, 0, 0, [], 125, .iadd, 1, 0),
  (22, 0, 0, 0, [], 126, .iastore, 1, 0),
  (0, 0, 0, 0, [], 127, .aload_n 0, 1, 0),
  (23, 0, 0, 0, [], 128, .dup, 1, 0),
  (3, 9, 24, 0, [], 129, .getfield 206, 3, 806),
  (2, 0, 0, 1, [], 132, .iconst 1, 1, 0),
  (7, 0, 0, 0, [], 133, .iadd, 1, 0),
  (14, 9, 24, 0, [], 134, .putfield 206, 3, 806),
  (21, 0, 0, 0, [], 137, .return_, 1, 0)]
def m_X9_readTwist : am_M := (yX9_readTwist, cX9_readTwist, 5, none)
def t_X9_closeBracket : List ri_row := [(0, 0, 0, 0, [], 0, .aload_n 0, 1, 0),
  (23, 0, 0, 0, [], 1, .dup, 1, 0),
  (3, 9, 18, 0, [], 2, .getfield 186, 3, 800),
  (2, 0, 0, 1, [], 5, .iconst 1, 1, 0),
  (7, 0, 0, 0, [], 6, .iadd, 1, 0),
  (14, 9, 18, 0, [], 7, .putfield 186, 3, 800),
  (0, 0, 0, 0, [], 10, .aload_n 0, 1, 0),
  (4, 152, 9, 0, [], 11, .invokevirtual 192, 3, 1002),
  (9, 1, 0, 0, [], 14, .istore_n 1, 1, 0),
  (0, 0, 0, 0, [], 15, .aload_n 0, 1, 0),
  (3, 9, 18, 0, [], 16, .getfield 186, 3, 800),
  (9, 2, 0, 0, [], 19, .istore_n 2, 1, 0),
  (0, 0, 0, 0, [], 20, .aload_n 0, 1, 0),
  (2, 0, 0, 1, [], 21, .iconst 1, 1, 0),
  (2, 0, 0, 9, [], 22, .bipush 9, 2, 0),
  (4, 154, 9, 2, [], 24, .invokevirtual 203, 3, 1014),
  (9, 3, 0, 0, [], 27, .istore_n 3, 1, 0),
  (0, 0, 0, 0, [], 28, .aload_n 0, 1, 0),
  (3, 9, 19, 0, [], 29, .getfield 189, 3, 801),
  (29, 21, 0, 0, [], 32, .ifCond .le 4, 3, 0),
  (21, 0, 0, 0, [], 35, .return_, 1, 0),
  (0, 0, 0, 0, [], 36, .aload_n 0, 1, 0),
  (23, 0, 0, 0, [], 37, .dup, 1, 0),
  (3, 9, 22, 0, [], 38, .getfield 209, 3, 804),
  (2, 0, 0, 1, [], 41, .iconst 1, 1, 0),
  (10, 0, 0, 0, [], 42, .isub, 1, 0),
  (14, 9, 22, 0, [], 43, .putfield 209, 3, 804),
  (0, 0, 0, 0, [], 46, .aload_n 0, 1, 0),
  (3, 9, 21, 0, [], 47, .getfield 44, 3, 803),
  (0, 0, 0, 0, [], 50, .aload_n 0, 1, 0),
  (3, 9, 22, 0, [], 51, .getfield 209, 3, 804),
  (8, 0, 0, 0, [], 54, .iaload, 1, 0),
  (9, 4, 0, 0, [], 55, .istore 4, 2, 0),
  (0, 0, 0, 0, [], 57, .aload_n 0, 1, 0),
  (3, 9, 24, 0, [], 58, .getfield 206, 3, 806),
  (1, 4, 0, 0, [], 61, .iload 4, 2, 0),
  (10, 0, 0, 0, [], 63, .isub, 1, 0),
  (9, 5, 0, 0, [], 64, .istore 5, 2, 0),
  (0, 0, 0, 0, [], 66, .aload_n 0, 1, 0),
  (1, 4, 0, 0, [], 67, .iload 4, 2, 0),
  (1, 5, 0, 0, [], 69, .iload 5, 2, 0),
  (1, 3, 0, 0, [], 71, .iload_n 3, 1, 0),
  (15, 0, 0, 0, [], 72, .imul, 1, 0),
  (7, 0, 0, 0, [], 73, .iadd, 1, 0),
  (2, 0, 0, 60, [], 74, .bipush 60, 2, 0),
  (25, 48, 0, 0, [], 76, .if_icmp .gt 7, 3, 0),
  (2, 0, 0, 1, [], 79, .iconst 1, 1, 0),
  (6, 49, 0, 0, [], 80, .goto 4, 3, 0),
  (2, 0, 0, 0, [], 83, .iconst 0, 1, 0),
  (2, 0, 0, 3, [], 84, .iconst 3, 1, 0),
  (1, 2, 0, 0, [], 85, .iload_n 2, 1, 0),
  (4, 153, 9, 3, [], 86, .invokevirtual 199, 3, 1020),
  (11, 83, 0, 0, [], 89, .ifCond .eq 56, 3, 0),
  (1, 4, 0, 0, [], 92, .iload 4, 2, 0),
  (1, 5, 0, 0, [], 94, .iload 5, 2, 0),
  (7, 0, 0, 0, [], 96, .iadd, 1, 0),
  (9, 6, 0, 0, [], 97, .istore 6, 2, 0),
  (1, 6, 0, 0, [], 99, .iload 6, 2, 0),
  (1, 4, 0, 0, [], 101, .iload 4, 2, 0),
  (1, 5, 0, 0, [], 103, .iload 5, 2, 0),
  (1, 3, 0, 0, [], 105, .iload_n 3, 1, 0),
  (15, 0, 0, 0, [], 106, .imul, 1, 0),
  (7, 0, 0, 0, [], 107, .iadd, 1, 0),
  (13, 76, 0, 0, [], 108, .if_icmp .ge 26, 3, 0),
  (0, 0, 0, 0, [], 111, .aload_n 0, 1, 0),
  (3, 9, 23, 0, [], 112, .getfield 47, 3, 805),
  (1, 6, 0, 0, [], 115, .iload 6, 2, 0),
  (0, 0, 0, 0, [], 117, .aload_n 0, 1, 0),
  (3, 9, 23, 0, [], 118, .getfield 47, 3, 805),
  (1, 6, 0, 0, [], 121, .iload 6, 2, 0),
  (1, 5, 0, 0, [], 123, .iload 5, 2, 0),
  (10, 0, 0, 0, [], 125, .isub, 1, 0),
  (8, 0, 0, 0, [], 126, .iaload, 1, 0),
  (22, 0, 0, 0, [], 127, .iastore, 1, 0),
  (16, 6, 0, 1, [], 128, .iinc 6 1, 3, 0),
  (6, 57, 0, 0, [], 131, .goto (-32), 3, 0),
  (0, 0, 0, 0, [], 134, .aload_n 0, 1, 0),
  (1, 4, 0, 0, [], 135, .iload 4, 2, 0),
  (1, 5, 0, 0, [], 137, .iload 5, 2, 0),
  (1, 3, 0, 0, [], 139, .iload_n 3, 1, 0),
  (15, 0, 0, 0, [], 140, .imul, 1, 0),
  (7, 0, 0, 0, [], 141, .iadd, 1, 0),
  (14, 9, 24, 0, [], 142, .putfield 206, 3, 806),
  (21, 0, 0, 0, [], 145, .return_, 1, 0)]
def m_X9_closeBracket : am_M := (yX9_closeBracket, cX9_closeBracket, 7, none)
def t_X9_readItem : List ri_row := [(1, 1, 0, 0, [], 0, .iload_n 1, 1, 0),
  (2, 0, 0, 97, [], 1, .bipush 97, 2, 0),
  (19, 9, 0, 0, [], 3, .if_icmp .eq 15, 3, 0),
  (1, 1, 0, 0, [], 6, .iload_n 1, 1, 0),
  (2, 0, 0, 98, [], 7, .bipush 98, 2, 0),
  (19, 9, 0, 0, [], 9, .if_icmp .eq 9, 3, 0),
  (1, 1, 0, 0, [], 12, .iload_n 1, 1, 0),
  (2, 0, 0, 99, [], 13, .bipush 99, 2, 0),
  (18, 15, 0, 0, [], 15, .if_icmp .ne 14, 3, 0),
  (0, 0, 0, 0, [], 18, .aload_n 0, 1, 0),
  (1, 1, 0, 0, [], 19, .iload_n 1, 1, 0),
  (2, 0, 0, 97, [], 20, .bipush 97, 2, 0),
  (10, 0, 0, 0, [], 22, .isub, 1, 0),
  (4, 155, 9, 1, [], 23, .invokevirtual 212, 3, 1010),
  (6, 68, 0, 0, [], 26, .goto 104, 3, 0),
  (1, 1, 0, 0, [], 29, .iload_n 1, 1, 0),
  (2, 0, 0, 40, [], 30, .bipush 40, 2, 0),
  (18, 51, 0, 0, [], 32, .if_icmp .ne 64, 3, 0),
  (0, 0, 0, 0, [], 35, .aload_n 0, 1, 0),
  (0, 0, 0, 0, [], 36, .aload_n 0, 1, 0),
  (3, 9, 22, 0, [], 37, .getfield 209, 3, 804),
  (2, 0, 0, 4, [], 40, .iconst 4, 1, 0),
  (13, 25, 0, 0, [], 41, .if_icmp .ge 7, 3, 0),
  (2, 0, 0, 1, [], 44, .iconst 1, 1, 0),
  (6, 26, 0, 0, [], 45, .goto 4, 3, 0),
  (2, 0, 0, 0, [], 48, .iconst 0, 1, 0),
  (2, 0, 0, 4, [], 49, .iconst 4, 1, 0),
  (0, 0, 0, 0, [], 50, .aload_n 0, 1, 0),
  (3, 9, 18, 0, [], 51, .getfield 186, 3, 800),
  (4, 153, 9, 3, [], 54, .invokevirtual 199, 3, 1020),
  (11, 68, 0, 0, [], 57, .ifCond .eq 73, 3, 0),
  (0, 0, 0, 0, [], 60, .aload_n 0, 1, 0),
  (3, 9, 21, 0, [], 61, .getfield 44, 3, 803),
  (0, 0, 0, 0, [], 64, .aload_n 0, 1, 0),
  (3, 9, 22, 0, [], 65, .getfield 209, 3, 804),
  (0, 0, 0, 0, [], 68, .aload_n 0, 1, 0),
  (3, 9, 24, 0, [], 69, .getfield 206, 3, 806),
  (22, 0, 0, 0, [], 72, .iastore, 1, 0),
  (0, 0, 0, 0, [], 73, .aload_n 0, 1, 0),
  (23, 0, 0, 0, [], 74, .dup, 1, 0),
  (3, 9, 22, 0, [], 75, .getfield 209, 3, 804),
  (2, 0, 0, 1, [], 78, .iconst 1, 1, 0),
  (7, 0, 0, 0, [], 79, .iadd, 1, 0),
  (14, 9, 22, 0, [], 80, .putfield 209, 3, 804),
  (0, 0, 0, 0, [], 83, .aload_n 0, 1, 0),
  (23, 0, 0, 0, [], 84, .dup, 1, 0),
  (3, 9, 18, 0, [], 85, .getfield 186, 3, 800),
  (2, 0, 0, 1, [], 88, .iconst 1, 1, 0),
  (7, 0, 0, 0, [], 89, .iadd, 1, 0),
  (14, 9, 18, 0, [], 90, .putfield 186, 3, 800),
  (6, 68, 0, 0, [], 93, .goto 37, 3, 0),
  (0, 0, 0, 0, [], 96, .aload_n 0, 1, 0),
  (1, 1, 0, 0, [], 97, .iload_n 1, 1, 0),
  (2, 0, 0, 41, [], 98, .bipush 41, 2, 0),
  (18, 60, 0, 0, [], 100, .if_icmp .ne 14, 3, 0),
  (0, 0, 0, 0, [], 103, .aload_n 0, 1, 0),
  (3, 9, 22, 0, [], 104, .getfield 209, 3, 804),
  (29, 60, 0, 0, [], 107, .ifCond .le 7, 3, 0),
  (2, 0, 0, 1, [], 110, .iconst 1, 1, 0),
  (6, 61, 0, 0, [], 111, .goto 4, 3, 0),
  (2, 0, 0, 0, [], 114, .iconst 0, 1, 0),
  (2, 0, 0, 1, [], 115, .iconst 1, 1, 0),
  (0, 0, 0, 0, [], 116, .aload_n 0, 1, 0),
  (3, 9, 18, 0, [], 117, .getfield 186, 3, 800),
  (4, 153, 9, 3, [], 120, .invokevirtual 199, 3, 1020),
  (11, 68, 0, 0, [], 123, .ifCond .eq 7, 3, 0),
  (0, 0, 0, 0, [], 126, .aload_n 0, 1, 0),
  (4, 156, 9, 0, [], 127, .invokevirtual 215, 3, 1024),
  (21, 0, 0, 0, [], 130, .return_, 1, 0)]
def m_X9_readItem : am_M := (yX9_readItem, cX9_readItem, 2, none)
def t_X9_read : List ri_row := [(0, 0, 0, 0, [], 0, .aload_n 0, 1, 0),
  (1, 1, 0, 0, [], 1, .iload_n 1, 1, 0),
  (4, 150, 9, 1, [], 2, .invokevirtual 218, 3, 997),
  (11, 6, 0, 0, [], 5, .ifCond .eq 7, 3, 0),
  (2, 0, 0, 4294966295, [], 8, .sipush (-1001), 3, 0),
  (5, 0, 0, 0, [], 11, .ireturn, 1, 0),
  (0, 0, 0, 0, [], 12, .aload_n 0, 1, 0),
  (2, 0, 0, 0, [], 13, .iconst 0, 1, 0),
  (14, 9, 18, 0, [], 14, .putfield 186, 3, 800),
  (0, 0, 0, 0, [], 17, .aload_n 0, 1, 0),
  (2, 0, 0, 0, [], 18, .iconst 0, 1, 0),
  (14, 9, 19, 0, [], 19, .putfield 189, 3, 801),
  (0, 0, 0, 0, [], 22, .aload_n 0, 1, 0),
  (2, 0, 0, 4294967295, [], 23, .iconst (-1), 1, 0),
  (14, 9, 20, 0, [], 24, .putfield 40, 3, 802),
  (0, 0, 0, 0, [], 27, .aload_n 0, 1, 0),
  (2, 0, 0, 0, [], 28, .iconst 0, 1, 0),
  (14, 9, 22, 0, [], 29, .putfield 209, 3, 804),
  (0, 0, 0, 0, [], 32, .aload_n 0, 1, 0),
  (2, 0, 0, 0, [], 33, .iconst 0, 1, 0),
  (14, 9, 24, 0, [], 34, .putfield 206, 3, 806),
  (0, 0, 0, 0, [], 37, .aload_n 0, 1, 0),
  (4, 152, 9, 0, [], 38, .invokevirtual 192, 3, 1002),
  (9, 2, 0, 0, [], 41, .istore_n 2, 1, 0),
  (0, 0, 0, 0, [], 42, .aload_n 0, 1, 0),
  (3, 9, 19, 0, [], 43, .getfield 189, 3, 801),
  (12, 36, 0, 0, [], 46, .ifCond .ne 20, 3, 0),
  (1, 2, 0, 0, [], 49, .iload_n 2, 1, 0),
  (28, 36, 0, 0, [], 50, .ifCond .lt 16, 3, 0),
  (0, 0, 0, 0, [], 53, .aload_n 0, 1, 0),
  (1, 2, 0, 0, [], 54, .iload_n 2, 1, 0),
  (4, 157, 9, 1, [], 55, .invokevirtual 221, 3, 1006),
  (0, 0, 0, 0, [], 58, .aload_n 0, 1, 0),
  (4, 152, 9, 0, [], 59, .invokevirtual 192, 3, 1002),
  (9, 2, 0, 0, [], 62, .istore_n 2, 1, 0),
  (6, 24, 0, 0, [], 63, .goto (-21), 3, 0),
  (0, 0, 0, 0, [], 66, .aload_n 0, 1, 0),
  (0, 0, 0, 0, [], 67, .aload_n 0, 1, 0),
  (3, 9, 22, 0, [], 68, .getfield 209, 3, 804),
  (12, 42, 0, 0, [], 71, .ifCond .ne 7, 3, 0),
  (2, 0, 0, 1, [], 74, .iconst 1, 1, 0),
  (6, 43, 0, 0, [], 75, .goto 4, 3, 0),
  (2, 0, 0, 0, [], 78, .iconst 0, 1, 0),
  (2, 0, 0, 1, [], 79, .iconst 1, 1, 0),
  (0, 0, 0, 0, [], 80, .aload_n 0, 1, 0),
  (3, 9, 17, 0, [], 81, .getfield 181, 3, 799),
  (4, 153, 9, 3, [], 84, .invokevirtual 199, 3, 1020),
  (9, 3, 0, 0, [], 87, .istore_n 3, 1, 0),
  (0, 0, 0, 0, [], 88, .aload_n 0, 1, 0),
  (2, 0, 0, 0, [], 89, .iconst 0, 1, 0),
  (14, 9, 17, 0, [], 90, .putfield 181, 3, 799),
  (0, 0, 0, 0, [], 93, .aload_n 0, 1, 0),
  (3, 9, 19, 0, [], 94, .getfield 189, 3, 801),
  (29, 59, 0, 0, [], 97, .ifCond .le 11, 3, 0),
  (2, 0, 0, 4294967286, [], 100, .bipush (-10), 2, 0),
  (0, 0, 0, 0, [], 102, .aload_n 0, 1, 0),
  (3, 9, 19, 0, [], 103, .getfield 189, 3, 801),
  (10, 0, 0, 0, [], 106, .isub, 1, 0),
  (5, 0, 0, 0, [], 107, .ireturn, 1, 0),
  (0, 0, 0, 0, [], 108, .aload_n 0, 1, 0),
  (3, 9, 6, 0, [], 109, .getfield 19, 3, 788),
  (1, 1, 0, 0, [], 112, .iload_n 1, 1, 0),
  (0, 0, 0, 0, [], 113, .aload_n 0, 1, 0),
  (3, 9, 24, 0, [], 114, .getfield 206, 3, 806),
  (22, 0, 0, 0, [], 117, .iastore, 1, 0),
  (2, 0, 0, 0, [], 118, .iconst 0, 1, 0),
  (9, 4, 0, 0, [], 119, .istore 4, 2, 0),
  (1, 4, 0, 0, [], 121, .iload 4, 2, 0),
  (0, 0, 0, 0, [], 123, .aload_n 0, 1, 0),
  (3, 9, 24, 0, [], 124, .getfield 206, 3, 806),
  (13, 85, 0, 0, [], 127, .if_icmp .ge 28, 3, 0),
  (0, 0, 0, 0, [], 130, .aload_n 0, 1, 0),
  (3, 9, 7, 0, [], 131, .getfield 22, 3, 789),
  (2, 0, 0, 60, [], 134, .bipush 60, 2, 0),
  (1, 1, 0, 0, [], 136, .iload_n 1, 1, 0),
  (15, 0, 0, 0, [], 137, .imul, 1, 0),
  (1, 4, 0, 0, [], 138, .iload 4, 2, 0),
  (7, 0, 0, 0, [], 140, .iadd, 1, 0),
  (0, 0, 0, 0, [], 141, .aload_n 0, 1, 0),
  (3, 9, 23, 0, [], 142, .getfield 47, 3, 805),
  (1, 4, 0, 0, [], 145, .iload 4, 2, 0),
  (8, 0, 0, 0, [], 147, .iaload, 1, 0),
  (22, 0, 0, 0, [], 148, .iastore, 1, 0),
  (16, 4, 0, 1, [], 149, .iinc 4 1, 3, 0),
  (6, 67, 0, 0, [], 152, .goto (-31), 3, 0),
  (0, 0, 0, 0, [], 155, .aload_n 0, 1, 0),
  (3, 9, 24, 0, [], 156, .getfield 206, 3, 806),
  (5, 0, 0, 0, [], 159, .ireturn, 1, 0)]
def m_X9_read : am_M := (yX9_read, cX9_read, 5, some .int)
def t_X9_fault : List ri_row := [(0, 0, 0, 0, [], 0, .aload_n 0, 1, 0),
  (3, 9, 20, 0, [], 1, .getfield 40, 3, 802),
  (5, 0, 0, 0, [], 4, .ireturn, 1, 0)]
def m_X9_fault : am_M := (yX9_fault, cX9_fault, 1, some .int)
def t_X9_twist : List ri_row := [(0, 0, 0, 0, [], 0, .aload_n 0, 1, 0),
  (1, 1, 0, 0, [], 1, .iload_n 1, 1, 0),
  (4, 150, 9, 1, [], 2, .invokevirtual 218, 3, 997),
  (11, 6, 0, 0, [], 5, .ifCond .eq 7, 3, 0),
  (2, 0, 0, 4294966295, [], 8, .sipush (-1001), 3, 0),
  (5, 0, 0, 0, [], 11, .ireturn, 1, 0),
  (1, 2, 0, 0, [], 12, .iload_n 2, 1, 0),
  (2, 0, 0, 4294967295, [], 13, .iconst (-1), 1, 0),
  (18, 14, 0, 0, [], 14, .if_icmp .ne 12, 3, 0),
  (0, 0, 0, 0, [], 17, .aload_n 0, 1, 0),
  (3, 9, 6, 0, [], 18, .getfield 19, 3, 788),
  (1, 1, 0, 0, [], 21, .iload_n 1, 1, 0),
  (8, 0, 0, 0, [], 22, .iaload, 1, 0),
  (6, 36, 0, 0, [], 23, .goto 36, 3, 0),
  (1, 2, 0, 0, [], 26, .iload_n 2, 1, 0),
  (24, 0, 0, 0, [], 27, .i2l, 1, 0),
  (38, 0, 0, 0, [], 28, .lconst 0, 1, 0),
  (0, 0, 0, 0, [], 29, .aload_n 0, 1, 0),
  (3, 9, 6, 0, [], 30, .getfield 19, 3, 788),
  (1, 1, 0, 0, [], 33, .iload_n 1, 1, 0),
  (8, 0, 0, 0, [], 34, .iaload, 1, 0),
  (2, 0, 0, 1, [], 35, .iconst 1, 1, 0),
  (10, 0, 0, 0, [], 36, .isub, 1, 0),
  (24, 0, 0, 0, [], 37, .i2l, 1, 0),
  (17, 110, 0, 3, [], 38, .invokestatic 75, 3, 873),
  (11, 35, 0, 0, [], 41, .ifCond .eq 17, 3, 0),
  (0, 0, 0, 0, [], 44, .aload_n 0, 1, 0),
  (3, 9, 7, 0, [], 45, .getfield 22, 3, 789),
  (2, 0, 0, 60, [], 48, .bipush 60, 2, 0),
  (1, 1, 0, 0, [], 50, .iload_n 1, 1, 0),
  (15, 0, 0, 0, [], 51, .imul, 1, 0),
  (1, 2, 0, 0, [], 52, .iload_n 2, 1, 0),
  (7, 0, 0, 0, [], 53, .iadd, 1, 0),
  (8, 0, 0, 0, [], 54, .iaload, 1, 0),
  (6, 36, 0, 0, [], 55, .goto 4, 3, 0),
  (2, 0, 0, 4294967295, [], 58, .iconst (-1), 1, 0),
  (5, 0, 0, 0, [], 59, .ireturn, 1, 0)]
def m_X9_twist : am_M := (yX9_twist, cX9_twist, 3, some .int)
def t_X9_chain : List ri_row := [(0, 0, 0, 0, [], 0, .aload_n 0, 1, 0),
  (1, 1, 0, 0, [], 1, .iload_n 1, 1, 0),
  (4, 150, 9, 1, [], 2, .invokevirtual 218, 3, 997),
  (12, 12, 0, 0, [], 5, .ifCond .ne 19, 3, 0),
  (0, 0, 0, 0, [], 8, .aload_n 0, 1, 0),
  (1, 2, 0, 0, [], 9, .iload_n 2, 1, 0),
  (4, 150, 9, 1, [], 10, .invokevirtual 218, 3, 997),
  (12, 12, 0, 0, [], 13, .ifCond .ne 11, 3, 0),
  (0, 0, 0, 0, [], 16, .aload_n 0, 1, 0),
  (1, 3, 0, 0, [], 17, .iload_n 3, 1, 0),
  (4, 150, 9, 1, [], 18, .invokevirtual 218, 3, 997),
  (11, 14, 0, 0, [], 21, .ifCond .eq 7, 3, 0),
  (2, 0, 0, 4294966295, [], 24, .sipush (-1001), 3, 0),
  (5, 0, 0, 0, [], 27, .ireturn, 1, 0),
  (0, 0, 0, 0, [], 28, .aload_n 0, 1, 0),
  (3, 9, 6, 0, [], 29, .getfield 19, 3, 788),
  (1, 2, 0, 0, [], 32, .iload_n 2, 1, 0),
  (8, 0, 0, 0, [], 33, .iaload, 1, 0),
  (0, 0, 0, 0, [], 34, .aload_n 0, 1, 0),
  (3, 9, 6, 0, [], 35, .getfield 19, 3, 788),
  (1, 3, 0, 0, [], 38, .iload_n 3, 1, 0),
  (8, 0, 0, 0, [], 39, .iaload, 1, 0),
  (7, 0, 0, 0, [], 40, .iadd, 1, 0),
  (9, 4, 0, 0, [], 41, .istore 4, 2, 0),
  (1, 4, 0, 0, [], 43, .iload 4, 2, 0),
  (2, 0, 0, 60, [], 45, .bipush 60, 2, 0),
  (27, 29, 0, 0, [], 47, .if_icmp .le 7, 3, 0),
  (2, 0, 0, 4294966292, [], 50, .sipush (-1004), 3, 0),
  (5, 0, 0, 0, [], 53, .ireturn, 1, 0),
  (2, 0, 0, 0, [], 54, .iconst 0, 1, 0),
  (9, 5, 0, 0, [], 55, .istore 5, 2, 0),
  (1, 5, 0, 0, [], 57, .iload 5, 2, 0),
  (1, 4, 0, 0, [], 59, .iload 4, 2, 0),
  (13, 68, 0, 0, [], 61, .if_icmp .ge 61, 3, 0),
  (0, 0, 0, 0, [], 64, .aload_n 0, 1, 0),
  (3, 9, 23, 0, [], 65, .getfield 47, 3, 805),
  (1, 5, 0, 0, [], 68, .iload 5, 2, 0),
  (1, 5, 0, 0, [], 70, .iload 5, 2, 0),
  (0, 0, 0, 0, [], 72, .aload_n 0, 1, 0),
  (3, 9, 6, 0, [], 73, .getfield 19, 3, 788),
  (1, 2, 0, 0, [], 76, .iload_n 2, 1, 0),
  (8, 0, 0, 0, [], 77, .iaload, 1, 0),
  (13, 52, 0, 0, [], 78, .if_icmp .ge 18, 3, 0),
  (0, 0, 0, 0, [], 81, .aload_n 0, 1, 0),
  (3, 9, 7, 0, [], 82, .getfield 22, 3, 789),
  (2, 0, 0, 60, [], 85, .bipush 60, 2, 0),
  (1, 2, 0, 0, [], 87, .iload_n 2, 1, 0),
  (15, 0, 0, 0, [], 88, .imul, 1, 0),
  (1, 5, 0, 0, [], 89, .iload 5, 2, 0),
  (7, 0, 0, 0, [], 91, .iadd, 1, 0),
  (8, 0, 0, 0, [], 92, .iaload, 1, 0),
  (6, 65, 0, 0, [], 93, .goto 22, 3, 0),
  (0, 0, 0, 0, [], 96, .aload_n 0, 1, 0),
  (3, 9, 7, 0, [], 97, .getfield 22, 3, 789),
  (2, 0, 0, 60, [], 100, .bipush 60, 2, 0),
  (1, 3, 0, 0, [], 102, .iload_n 3, 1, 0),
  (15, 0, 0, 0, [], 103, .imul, 1, 0),
  (1, 5, 0, 0, [], 104, .iload 5, 2, 0),
  (7, 0, 0, 0, [], 106, .iadd, 1, 0),
  (0, 0, 0, 0, [], 107, .aload_n 0, 1, 0),
  (3, 9, 6, 0, [], 108, .getfield 19, 3, 788),
  (1, 2, 0, 0, [], 111, .iload_n 2, 1, 0),
  (8, 0, 0, 0, [], 112, .iaload, 1, 0),
  (10, 0, 0, 0, [], 113, .isub, 1, 0),
  (8, 0, 0, 0, [], 114, .iaload, 1, 0),
  (22, 0, 0, 0, [], 115, .iastore, 1, 0),
  (16, 5, 0, 1, [], 116, .iinc 5 1, 3, 0),
  (6, 31, 0, 0, [], 119, .goto (-62), 3, 0),
  (0, 0, 0, 0, [], 122, .aload_n 0, 1, 0),
  (3, 9, 6, 0, [], 123, .getfield 19, 3, 788),
  (1, 1, 0, 0, [], 126, .iload_n 1, 1, 0),
  (1, 4, 0, 0, [], 127, .iload 4, 2, 0),
  (22, 0, 0, 0, [], 129, .iastore, 1, 0),
  (2, 0, 0, 0, [], 130, .iconst 0, 1, 0),
  (9, 5, 0, 0, [], 131, .istore 5, 2, 0),
  (1, 5, 0, 0, [], 133, .iload 5, 2, 0),
  (1, 4, 0, 0, [], 135, .iload 4, 2, 0),
  (13, 92, 0, 0, [], 137, .if_icmp .ge 28, 3, 0),
  (0, 0, 0, 0, [], 140, .aload_n 0, 1, 0),
  (3, 9, 7, 0, [], 141, .getfield 22, 3, 789),
  (2, 0, 0, 60, [], 144, .bipush 60, 2, 0),
  (1, 1, 0, 0, [], 146, .iload_n 1, 1, 0),
  (15, 0, 0, 0, [], 147, .imul, 1, 0),
  (1, 5, 0, 0, [], 148, .iload 5, 2, 0),
  (7, 0, 0, 0, [], 150, .iadd, 1, 0),
  (0, 0, 0, 0, [], 151, .aload_n 0, 1, 0),
  (3, 9, 23, 0, [], 152, .getfield 47, 3, 805),
  (1, 5, 0, 0, [], 155, .iload 5, 2, 0),
  (8, 0, 0, 0, [], 157, .iaload, 1, 0),
  (22, 0, 0, 0, [], 158, .iastore, 1, 0),
  (16, 5, 0, 1, [], 159, .iinc 5 1, 3, 0),
  (6, 75, 0, 0, [], 162, .goto (-29), 3, 0),
  (1, 4, 0, 0, [], 165, .iload 4, 2, 0),
  (5, 0, 0, 0, [], 167, .ireturn, 1, 0)]
def m_X9_chain : am_M := (yX9_chain, cX9_chain, 6, some .int)
def t_X9_turn : List ri_row := [(0, 0, 0, 0, [], 0, .aload_n 0, 1, 0),
  (1, 1, 0, 0, [], 1, .iload_n 1, 1, 0),
  (4, 150, 9, 1, [], 2, .invokevirtual 218, 3, 997),
  (12, 8, 0, 0, [], 5, .ifCond .ne 11, 3, 0),
  (0, 0, 0, 0, [], 8, .aload_n 0, 1, 0),
  (1, 2, 0, 0, [], 9, .iload_n 2, 1, 0),
  (4, 150, 9, 1, [], 10, .invokevirtual 218, 3, 997),
  (11, 10, 0, 0, [], 13, .ifCond .eq 7, 3, 0),
  (2, 0, 0, 4294966295, [], 16, .sipush (-1001), 3, 0),
  (5, 0, 0, 0, [], 19, .ireturn, 1, 0),
  (0, 0, 0, 0, [], 20, .aload_n 0, 1, 0),
  (3, 9, 6, 0, [], 21, .getfield 19, 3, 788),
  (1, 2, 0, 0, [], 24, .iload_n 2, 1, 0),
  (8, 0, 0, 0, [], 25, .iaload, 1, 0),
  (9, 3, 0, 0, [], 26, .istore_n 3, 1, 0),
  (2, 0, 0, 0, [], 27, .iconst 0, 1, 0),
  (9, 4, 0, 0, [], 28, .istore 4, 2, 0),
  (1, 4, 0, 0, [], 30, .iload 4, 2, 0),
  (1, 3, 0, 0, [], 32, .iload_n 3, 1, 0),
  (13, 38, 0, 0, [], 33, .if_icmp .ge 32, 3, 0),
  (0, 0, 0, 0, [], 36, .aload_n 0, 1, 0),
  (3, 9, 23, 0, [], 37, .getfield 47, 3, 805),
  (1, 4, 0, 0, [], 40, .iload 4, 2, 0),
  (0, 0, 0, 0, [], 42, .aload_n 0, 1, 0),
  (3, 9, 7, 0, [], 43, .getfield 22, 3, 789),
  (2, 0, 0, 60, [], 46, .bipush 60, 2, 0),
  (1, 2, 0, 0, [], 48, .iload_n 2, 1, 0),
  (15, 0, 0, 0, [], 49, .imul, 1, 0),
  (1, 3, 0, 0, [], 50, .iload_n 3, 1, 0),
  (7, 0, 0, 0, [], 51, .iadd, 1, 0),
  (2, 0, 0, 1, [], 52, .iconst 1, 1, 0),
  (10, 0, 0, 0, [], 53, .isub, 1, 0),
  (1, 4, 0, 0, [], 54, .iload 4, 2, 0),
  (10, 0, 0, 0, [], 56, .isub, 1, 0),
  (8, 0, 0, 0, [], 57, .iaload, 1, 0),
  (22, 0, 0, 0, [], 58, .iastore, 1, 0),
  (16, 4, 0, 1, [], 59, .iinc 4 1, 3, 0),
  (6, 17, 0, 0, [], 62, .goto (-32), 3, 0),
  (0, 0, 0, 0, [], 65, .aload_n 0, 1, 0),
  (3, 9, 6, 0, [], 66, .getfield 19, 3, 788),
  (1, 1, 0, 0, [], 69, .iload_n 1, 1, 0),
  (1, 3, 0, 0, [], 70, .iload_n 3, 1, 0),
  (22, 0, 0, 0, [], 71, .iastore, 1, 0),
  (2, 0, 0, 0, [], 72, .iconst 0, 1, 0),
  (9, 4, 0, 0, [], 73, .istore 4, 2, 0),
  (1, 4, 0, 0, [], 75, .iload 4, 2, 0),
  (1, 3, 0, 0, [], 77, .iload_n 3, 1, 0),
  (13, 78, 0, 0, [], 78, .if_icmp .ge 54, 3, 0),
  (0, 0, 0, 0, [], 81, .aload_n 0, 1, 0),
  (3, 9, 7, 0, [], 82, .getfield 22, 3, 789),
  (2, 0, 0, 60, [], 85, .bipush 60, 2, 0),
  (1, 1, 0, 0, [], 87, .iload_n 1, 1, 0),
  (15, 0, 0, 0, [], 88, .imul, 1, 0),
  (1, 4, 0, 0, [], 89, .iload 4, 2, 0),
  (7, 0, 0, 0, [], 91, .iadd, 1, 0),
  (0, 0, 0, 0, [], 92, .aload_n 0, 1, 0),
  (3, 9, 23, 0, [], 93, .getfield 47, 3, 805),
  (1, 4, 0, 0, [], 96, .iload 4, 2, 0),
  (8, 0, 0, 0, [], 98, .iaload, 1, 0),
  (2, 0, 0, 2, [], 99, .iconst 2, 1, 0),
  (34, 0, 0, 0, [], 100, .irem, 1, 0),
  (12, 69, 0, 0, [], 101, .ifCond .ne 15, 3, 0),
  (0, 0, 0, 0, [], 104, .aload_n 0, 1, 0),
  (3, 9, 23, 0, [], 105, .getfield 47, 3, 805),
  (1, 4, 0, 0, [], 108, .iload 4, 2, 0),
  (8, 0, 0, 0, [], 110, .iaload, 1, 0),
  (2, 0, 0, 1, [], 111, .iconst 1, 1, 0),
  (7, 0, 0, 0, [], 112, .iadd, 1, 0),
  (6, 75, 0, 0, [], 113, .goto 12, 3, 0),
  (0, 0, 0, 0, [], 116, .aload_n 0, 1, 0),
  (3, 9, 23, 0, [], 117, .getfield 47, 3, 805),
  (1, 4, 0, 0, [], 120, .iload 4, 2, 0),
  (8, 0, 0, 0, [], 122, .iaload, 1, 0),
  (2, 0, 0, 1, [], 123, .iconst 1, 1, 0),
  (10, 0, 0, 0, [], 124, .isub, 1, 0),
  (22, 0, 0, 0, [], 125, .iastore, 1, 0),
  (16, 4, 0, 1, [], 126, .iinc 4 1, 3, 0),
  (6, 45, 0, 0, [], 129, .goto (-54), 3, 0),
  (1, 3, 0, 0, [], 132, .iload_n 3, 1, 0),
  (5, 0, 0, 0, [], 133, .ireturn, 1, 0)]
def m_X9_turn : am_M := (yX9_turn, cX9_turn, 5, some .int)
def t_X9_image : List ri_row := [(0, 0, 0, 0, [], 0, .aload_n 0, 1, 0),
  (1, 1, 0, 0, [], 1, .iload_n 1, 1, 0),
  (4, 150, 9, 1, [], 2, .invokevirtual 218, 3, 997),
  (11, 6, 0, 0, [], 5, .ifCond .eq 7, 3, 0),
  (2, 0, 0, 4294966295, [], 8, .sipush (-1001), 3, 0),
  (5, 0, 0, 0, [], 11, .ireturn, 1, 0),
  (1, 2, 0, 0, [], 12, .iload_n 2, 1, 0),
  (24, 0, 0, 0, [], 13, .i2l, 1, 0),
  (38, 0, 0, 1, [], 14, .lconst 1, 1, 0),
  (2, 0, 0, 2, [], 15, .iconst 2, 1, 0),
  (0, 0, 0, 0, [], 16, .aload_n 0, 1, 0),
  (3, 9, 0, 0, [], 17, .getfield 64, 3, 782),
  (15, 0, 0, 0, [], 20, .imul, 1, 0),
  (24, 0, 0, 0, [], 21, .i2l, 1, 0),
  (17, 110, 0, 3, [], 22, .invokestatic 75, 3, 873),
  (12, 18, 0, 0, [], 25, .ifCond .ne 7, 3, 0),
  (2, 0, 0, 4294966294, [], 28, .sipush (-1002), 3, 0),
  (5, 0, 0, 0, [], 31, .ireturn, 1, 0),
  (0, 0, 0, 0, [], 32, .aload_n 0, 1, 0),
  (1, 2, 0, 0, [], 33, .iload_n 2, 1, 0),
  (4, 147, 9, 1, [], 34, .invokevirtual 224, 3, 1048),
  (0, 0, 0, 0, [], 37, .aload_n 0, 1, 0),
  (1, 1, 0, 0, [], 38, .iload_n 1, 1, 0),
  (4, 146, 9, 1, [], 39, .invokevirtual 227, 3, 1052),
  (12, 27, 0, 0, [], 42, .ifCond .ne 7, 3, 0),
  (2, 0, 0, 4294966291, [], 45, .sipush (-1005), 3, 0),
  (5, 0, 0, 0, [], 48, .ireturn, 1, 0),
  (1, 3, 0, 0, [], 49, .iload_n 3, 1, 0),
  (2, 0, 0, 4294967295, [], 50, .iconst (-1), 1, 0),
  (18, 33, 0, 0, [], 51, .if_icmp .ne 10, 3, 0),
  (0, 0, 0, 0, [], 54, .aload_n 0, 1, 0),
  (3, 9, 13, 0, [], 55, .getfield 167, 3, 795),
  (6, 49, 0, 0, [], 58, .goto 29, 3, 0),
  (1, 3, 0, 0, [], 61, .iload_n 3, 1, 0),
  (24, 0, 0, 0, [], 62, .i2l, 1, 0),
  (38, 0, 0, 0, [], 63, .lconst 0, 1, 0),
  (0, 0, 0, 0, [], 64, .aload_n 0, 1, 0),
  (3, 9, 13, 0, [], 65, .getfield 167, 3, 795),
  (2, 0, 0, 1, [], 68, .iconst 1, 1, 0),
  (10, 0, 0, 0, [], 69, .isub, 1, 0),
  (24, 0, 0, 0, [], 70, .i2l, 1, 0),
  (17, 110, 0, 3, [], 71, .invokestatic 75, 3, 873),
  (11, 48, 0, 0, [], 74, .ifCond .eq 12, 3, 0),
  (0, 0, 0, 0, [], 77, .aload_n 0, 1, 0),
  (3, 9, 12, 0, [], 78, .getfield 31, 3, 794),
  (1, 3, 0, 0, [], 81, .iload_n 3, 1, 0),
  (8, 0, 0, 0, [], 82, .iaload, 1, 0),
  (6, 49, 0, 0, [], 83, .goto 4, 3, 0),
  (2, 0, 0, 0, [], 86, .iconst 0, 1, 0),
  (5, 0, 0, 0, [], 87, .ireturn, 1, 0)]
def m_X9_image : am_M := (yX9_image, cX9_image, 4, some .int)
def t_X9_carried : List ri_row := [(0, 0, 0, 0, [], 0, .aload_n 0, 1, 0),
  (1, 1, 0, 0, [], 1, .iload_n 1, 1, 0),
  (4, 150, 9, 1, [], 2, .invokevirtual 218, 3, 997),
  (12, 15, 0, 0, [], 5, .ifCond .ne 24, 3, 0),
  (0, 0, 0, 0, [], 8, .aload_n 0, 1, 0),
  (1, 2, 0, 0, [], 9, .iload_n 2, 1, 0),
  (4, 118, 9, 1, [], 10, .invokevirtual 100, 3, 896),
  (12, 15, 0, 0, [], 13, .ifCond .ne 16, 3, 0),
  (1, 3, 0, 0, [], 16, .iload_n 3, 1, 0),
  (2, 0, 0, 4294967295, [], 17, .iconst (-1), 1, 0),
  (19, 17, 0, 0, [], 18, .if_icmp .eq 15, 3, 0),
  (0, 0, 0, 0, [], 21, .aload_n 0, 1, 0),
  (1, 3, 0, 0, [], 22, .iload_n 3, 1, 0),
  (4, 118, 9, 1, [], 23, .invokevirtual 100, 3, 896),
  (11, 17, 0, 0, [], 26, .ifCond .eq 7, 3, 0),
  (2, 0, 0, 4294966295, [], 29, .sipush (-1001), 3, 0),
  (5, 0, 0, 0, [], 32, .ireturn, 1, 0),
  (0, 0, 0, 0, [], 33, .aload_n 0, 1, 0),
  (1, 2, 0, 0, [], 34, .iload_n 2, 1, 0),
  (4, 148, 9, 1, [], 35, .invokevirtual 230, 3, 1076),
  (0, 0, 0, 0, [], 38, .aload_n 0, 1, 0),
  (1, 1, 0, 0, [], 39, .iload_n 1, 1, 0),
  (4, 146, 9, 1, [], 40, .invokevirtual 227, 3, 1052),
  (12, 26, 0, 0, [], 43, .ifCond .ne 7, 3, 0),
  (2, 0, 0, 4294966291, [], 46, .sipush (-1005), 3, 0),
  (5, 0, 0, 0, [], 49, .ireturn, 1, 0),
  (0, 0, 0, 0, [], 50, .aload_n 0, 1, 0),
  (4, 149, 9, 0, [], 51, .invokevirtual 233, 3, 1080),
  (1, 3, 0, 0, [], 54, .iload_n 3, 1, 0),
  (2, 0, 0, 4294967295, [], 55, .iconst (-1), 1, 0),
  (18, 34, 0, 0, [], 56, .if_icmp .ne 8, 3, 0),
  (0, 0, 0, 0, [], 59, .aload_n 0, 1, 0),
  (3, 9, 9, 0, [], 60, .getfield 83, 3, 791),
  (5, 0, 0, 0, [], 63, .ireturn, 1, 0),
  (0, 0, 0, 0, [], 64, .aload_n 0, 1, 0),
  (1, 3, 0, 0, [], 65, .iload_n 3, 1, 0),
  (4, 121, 9, 1, [], 66, .invokevirtual 106, 3, 904),
  (0, 0, 0, 0, [], 69, .aload_n 0, 1, 0),
  (4, 126, 9, 0, [], 70, .invokevirtual 109, 3, 908),
  (17, 111, 0, 1, [], 73, .invokestatic 112, 3, 924),
  (5, 0, 0, 0, [], 76, .ireturn, 1, 0)]
def m_X9_carried : am_M := (yX9_carried, cX9_carried, 4, some .int)
def t_X9_meetsThen : List ri_row := [(0, 0, 0, 0, [], 0, .aload_n 0, 1, 0),
  (1, 1, 0, 0, [], 1, .iload_n 1, 1, 0),
  (4, 150, 9, 1, [], 2, .invokevirtual 218, 3, 997),
  (12, 12, 0, 0, [], 5, .ifCond .ne 19, 3, 0),
  (0, 0, 0, 0, [], 8, .aload_n 0, 1, 0),
  (1, 2, 0, 0, [], 9, .iload_n 2, 1, 0),
  (4, 118, 9, 1, [], 10, .invokevirtual 100, 3, 896),
  (12, 12, 0, 0, [], 13, .ifCond .ne 11, 3, 0),
  (0, 0, 0, 0, [], 16, .aload_n 0, 1, 0),
  (1, 3, 0, 0, [], 17, .iload_n 3, 1, 0),
  (4, 118, 9, 1, [], 18, .invokevirtual 100, 3, 896),
  (11, 14, 0, 0, [], 21, .ifCond .eq 7, 3, 0),
  (2, 0, 0, 4294966295, [], 24, .sipush (-1001), 3, 0),
  (5, 0, 0, 0, [], 27, .ireturn, 1, 0),
  (0, 0, 0, 0, [], 28, .aload_n 0, 1, 0),
  (1, 2, 0, 0, [], 29, .iload_n 2, 1, 0),
  (4, 128, 9, 1, [], 30, .invokevirtual 145, 3, 931),
  (12, 22, 0, 0, [], 33, .ifCond .ne 11, 3, 0),
  (0, 0, 0, 0, [], 36, .aload_n 0, 1, 0),
  (1, 3, 0, 0, [], 37, .iload_n 3, 1, 0),
  (4, 128, 9, 1, [], 38, .invokevirtual 145, 3, 931),
  (11, 24, 0, 0, [], 41, .ifCond .eq 7, 3, 0),
  (2, 0, 0, 4294966293, [], 44, .sipush (-1003), 3, 0),
  (5, 0, 0, 0, [], 47, .ireturn, 1, 0),
  (0, 0, 0, 0, [], 48, .aload_n 0, 1, 0),
  (1, 2, 0, 0, [], 49, .iload_n 2, 1, 0),
  (4, 148, 9, 1, [], 50, .invokevirtual 230, 3, 1076),
  (0, 0, 0, 0, [], 53, .aload_n 0, 1, 0),
  (1, 1, 0, 0, [], 54, .iload_n 1, 1, 0),
  (4, 146, 9, 1, [], 55, .invokevirtual 227, 3, 1052),
  (12, 33, 0, 0, [], 58, .ifCond .ne 7, 3, 0),
  (2, 0, 0, 4294966291, [], 61, .sipush (-1005), 3, 0),
  (5, 0, 0, 0, [], 64, .ireturn, 1, 0),
  (0, 0, 0, 0, [], 65, .aload_n 0, 1, 0),
  (4, 149, 9, 0, [], 66, .invokevirtual 233, 3, 1080),
  (0, 0, 0, 0, [], 69, .aload_n 0, 1, 0),
  (1, 3, 0, 0, [], 70, .iload_n 3, 1, 0),
  (4, 121, 9, 1, [], 71, .invokevirtual 106, 3, 904),
  (0, 0, 0, 0, [], 74, .aload_n 0, 1, 0),
  (4, 135, 9, 0, [], 75, .invokevirtual 141, 3, 939),
  (5, 0, 0, 0, [], 78, .ireturn, 1, 0)]
def m_X9_meetsThen : am_M := (yX9_meetsThen, cX9_meetsThen, 4, some .int)
def t_X9_startImages : List ri_row := [(2, 0, 0, 0, [], 0, .iconst 0, 1, 0),
  (9, 1, 0, 0, [], 1, .istore_n 1, 1, 0),
  (1, 1, 0, 0, [], 2, .iload_n 1, 1, 0),
  (2, 0, 0, 2, [], 3, .iconst 2, 1, 0),
  (0, 0, 0, 0, [], 4, .aload_n 0, 1, 0),
  (3, 9, 0, 0, [], 5, .getfield 64, 3, 782),
  (15, 0, 0, 0, [], 8, .imul, 1, 0),
  (13, 24, 0, 0, [], 9, .if_icmp .ge 29, 3, 0),
  (0, 0, 0, 0, [], 12, .aload_n 0, 1, 0),
  (3, 9, 26, 0, [], 13, .getfield 53, 3, 808),
  (1, 1, 0, 0, [], 16, .iload_n 1, 1, 0),
  (2, 0, 0, 1, [], 17, .iconst 1, 1, 0),
  (22, 0, 0, 0, [], 18, .iastore, 1, 0),
  (0, 0, 0, 0, [], 19, .aload_n 0, 1, 0),
  (3, 9, 25, 0, [], 20, .getfield 50, 3, 807),
  (2, 0, 0, 400, [], 23, .sipush 400, 3, 0),
  (1, 1, 0, 0, [], 26, .iload_n 1, 1, 0),
  (15, 0, 0, 0, [], 27, .imul, 1, 0),
  (1, 1, 0, 0, [], 28, .iload_n 1, 1, 0),
  (2, 0, 0, 1, [], 29, .iconst 1, 1, 0),
  (7, 0, 0, 0, [], 30, .iadd, 1, 0),
  (22, 0, 0, 0, [], 31, .iastore, 1, 0),
  (16, 1, 0, 1, [], 32, .iinc 1 1, 3, 0),
  (6, 2, 0, 0, [], 35, .goto (-33), 3, 0),
  (21, 0, 0, 0, [], 38, .return_, 1, 0)]
def m_X9_startImages : am_M := (yX9_startImages, cX9_startImages, 2, none)
def t_X9_goOn : List ri_row := [(2, 0, 0, 0, [], 0, .iconst 0, 1, 0),
  (9, 2, 0, 0, [], 1, .istore_n 2, 1, 0),
  (1, 2, 0, 0, [], 2, .iload_n 2, 1, 0),
  (2, 0, 0, 2, [], 3, .iconst 2, 1, 0),
  (0, 0, 0, 0, [], 4, .aload_n 0, 1, 0),
  (3, 9, 0, 0, [], 5, .getfield 64, 3, 782),
  (15, 0, 0, 0, [], 8, .imul, 1, 0),
  (13, 68, 0, 0, [], 9, .if_icmp .ge 107, 3, 0),
  (0, 0, 0, 0, [], 12, .aload_n 0, 1, 0),
  (0, 0, 0, 0, [], 13, .aload_n 0, 1, 0),
  (3, 9, 26, 0, [], 14, .getfield 53, 3, 808),
  (1, 2, 0, 0, [], 17, .iload_n 2, 1, 0),
  (8, 0, 0, 0, [], 18, .iaload, 1, 0),
  (14, 9, 13, 0, [], 19, .putfield 167, 3, 795),
  (2, 0, 0, 0, [], 22, .iconst 0, 1, 0),
  (9, 3, 0, 0, [], 23, .istore_n 3, 1, 0),
  (1, 3, 0, 0, [], 24, .iload_n 3, 1, 0),
  (0, 0, 0, 0, [], 25, .aload_n 0, 1, 0),
  (3, 9, 13, 0, [], 26, .getfield 167, 3, 795),
  (13, 34, 0, 0, [], 29, .if_icmp .ge 27, 3, 0),
  (0, 0, 0, 0, [], 32, .aload_n 0, 1, 0),
  (3, 9, 12, 0, [], 33, .getfield 31, 3, 794),
  (1, 3, 0, 0, [], 36, .iload_n 3, 1, 0),
  (0, 0, 0, 0, [], 37, .aload_n 0, 1, 0),
  (3, 9, 25, 0, [], 38, .getfield 50, 3, 807),
  (2, 0, 0, 400, [], 41, .sipush 400, 3, 0),
  (1, 2, 0, 0, [], 44, .iload_n 2, 1, 0),
  (15, 0, 0, 0, [], 45, .imul, 1, 0),
  (1, 3, 0, 0, [], 46, .iload_n 3, 1, 0),
  (7, 0, 0, 0, [], 47, .iadd, 1, 0),
  (8, 0, 0, 0, [], 48, .iaload, 1, 0),
  (22, 0, 0, 0, [], 49, .iastore, 1, 0),
  (16, 3, 0, 1, [], 50, .iinc 3 1, 3, 0),
  (6, 16, 0, 0, [], 53, .goto (-29), 3, 0),
  (0, 0, 0, 0, [], 56, .aload_n 0, 1, 0),
  (1, 1, 0, 0, [], 57, .iload_n 1, 1, 0),
  (4, 146, 9, 1, [], 58, .invokevirtual 227, 3, 1052),
  (12, 40, 0, 0, [], 61, .ifCond .ne 5, 3, 0),
  (2, 0, 0, 0, [], 64, .iconst 0, 1, 0),
  (5, 0, 1, 0, [], 65, .ireturn, 1, 0),
  (0, 0, 0, 0, [], 66, .aload_n 0, 1, 0),
  (3, 9, 26, 0, [], 67, .getfield 53, 3, 808),
  (1, 2, 0, 0, [], 70, .iload_n 2, 1, 0),
  (0, 0, 0, 0, [], 71, .aload_n 0, 1, 0),
  (3, 9, 13, 0, [], 72, .getfield 167, 3, 795),
  (22, 0, 0, 0, [], 75, .iastore, 1, 0),
  (2, 0, 0, 0, [], 76, .iconst 0, 1, 0),
  (9, 3, 0, 0, [], 77, .istore_n 3, 1, 0),
  (1, 3, 0, 0, [], 78, .iload_n 3, 1, 0),
  (0, 0, 0, 0, [], 79, .aload_n 0, 1, 0),
  (3, 9, 13, 0, [], 80, .getfield 167, 3, 795),
  (13, 66, 0, 0, [], 83, .if_icmp .ge 27, 3, 0),
  (0, 0, 0, 0, [], 86, .aload_n 0, 1, 0),
  (3, 9, 25, 0, [], 87, .getfield 50, 3, 807),
  (2, 0, 0, 400, [], 90, .sipush 400, 3, 0),
  (1, 2, 0, 0, [], 93, .iload_n 2, 1, 0),
  (15, 0, 0, 0, [], 94, .imul, 1, 0),
  (1, 3, 0, 0, [], 95, .iload_n 3, 1, 0),
  (7, 0, 0, 0, [], 96, .iadd, 1, 0),
  (0, 0, 0, 0, [], 97, .aload_n 0, 1, 0),
  (3, 9, 12, 0, [], 98, .getfield 31, 3, 794),
  (1, 3, 0, 0, [], 101, .iload_n 3, 1, 0),
  (8, 0, 0, 0, [], 102, .iaload, 1, 0),
  (22, 0, 0, 0, [], 103, .iastore, 1, 0),
  (16, 3, 0, 1, [], 104, .iinc 3 1, 3, 0),
  (6, 48, 0, 0, [], 107, .goto (-29), 3, 0),
  (16, 2, 0, 1, [], 110, .iinc 2 1, 3, 0),
  (6, 2, 0, 0, [], 113, .goto (-111), 3, 0),
  (2, 0, 0, 1, [], 116, .iconst 1, 1, 0),
  (5, 0, 1, 0, [], 117, .ireturn, 1, 0)]
def m_X9_goOn : am_M := (yX9_goOn, cX9_goOn, 4, some .boolean)
def t_X9_findImages : List ri_row := [(0, 0, 0, 0, [], 0, .aload_n 0, 1, 0),
  (4, 166, 9, 0, [], 1, .invokevirtual 236, 3, 1096),
  (0, 0, 0, 0, [], 4, .aload_n 0, 1, 0),
  (1, 1, 0, 0, [], 5, .iload_n 1, 1, 0),
  (4, 167, 9, 1, [], 6, .invokevirtual 239, 3, 1100),
  (5, 0, 1, 0, [], 9, .ireturn, 1, 0)]
def m_X9_findImages : am_M := (yX9_findImages, cX9_findImages, 2, some .boolean)
def t_X9_isImage : List ri_row := [(0, 0, 0, 0, [], 0, .aload_n 0, 1, 0),
  (3, 9, 13, 0, [], 1, .getfield 167, 3, 795),
  (0, 0, 0, 0, [], 4, .aload_n 0, 1, 0),
  (3, 9, 26, 0, [], 5, .getfield 53, 3, 808),
  (1, 1, 0, 0, [], 8, .iload_n 1, 1, 0),
  (8, 0, 0, 0, [], 9, .iaload, 1, 0),
  (18, 9, 0, 0, [], 10, .if_icmp .ne 7, 3, 0),
  (2, 0, 0, 1, [], 13, .iconst 1, 1, 0),
  (6, 10, 0, 0, [], 14, .goto 4, 3, 0),
  (2, 0, 0, 0, [], 17, .iconst 0, 1, 0),
  (9, 2, 0, 0, [], 18, .istore_n 2, 1, 0),
  (2, 0, 0, 0, [], 19, .iconst 0, 1, 0),
  (9, 3, 0, 0, [], 20, .istore_n 3, 1, 0),
  (1, 3, 0, 0, [], 21, .iload_n 3, 1, 0),
  (0, 0, 0, 0, [], 22, .aload_n 0, 1, 0),
  (3, 9, 13, 0, [], 23, .getfield 167, 3, 795),
  (13, 38, 0, 0, [], 26, .if_icmp .ge 40, 3, 0),
  (1, 2, 0, 0, [], 29, .iload_n 2, 1, 0),
  (11, 38, 0, 0, [], 30, .ifCond .eq 36, 3, 0),
  (0, 0, 0, 0, [], 33, .aload_n 0, 1, 0),
  (3, 9, 12, 0, [], 34, .getfield 31, 3, 794),
  (1, 3, 0, 0, [], 37, .iload_n 3, 1, 0),
  (8, 0, 0, 0, [], 38, .iaload, 1, 0),
  (0, 0, 0, 0, [], 39, .aload_n 0, 1, 0),
  (3, 9, 25, 0, [], 40, .getfield 50, 3, 807),
  (2, 0, 0, 400, [], 43, .sipush 400, 3, 0),
  (1, 1, 0, 0, [], 46, .iload_n 1, 1, 0),
  (15, 0, 0, 0, [], 47, .imul, 1, 0),
  (1, 3, 0, 0, [], 48, .iload_n 3, 1, 0),
  (7, 0, 0, 0, [], 49, .iadd, 1, 0),
  (8, 0, 0, 0, [], 50, .iaload, 1, 0),
  (18, 34, 0, 0, [], 51, .if_icmp .ne 7, 3, 0),
  (2, 0, 0, 1, [], 54, .iconst 1, 1, 0),
  (6, 35, 0, 0, [], 55, .goto 4, 3, 0),
  (2, 0, 0, 0, [], 58, .iconst 0, 1, 0),
  (9, 2, 0, 0, [], 59, .istore_n 2, 1, 0),
  (16, 3, 0, 1, [], 60, .iinc 3 1, 3, 0),
  (6, 13, 0, 0, [], 63, .goto (-42), 3, 0),
  (1, 2, 0, 0, [], 66, .iload_n 2, 1, 0),
  (5, 0, 1, 0, [], 67, .ireturn, 1, 0)]
def m_X9_isImage : am_M := (yX9_isImage, cX9_isImage, 4, some .boolean)
def t_X9_same : List ri_row := [(0, 0, 0, 0, [], 0, .aload_n 0, 1, 0),
  (1, 1, 0, 0, [], 1, .iload_n 1, 1, 0),
  (4, 150, 9, 1, [], 2, .invokevirtual 218, 3, 997),
  (12, 8, 0, 0, [], 5, .ifCond .ne 11, 3, 0),
  (0, 0, 0, 0, [], 8, .aload_n 0, 1, 0),
  (1, 2, 0, 0, [], 9, .iload_n 2, 1, 0),
  (4, 150, 9, 1, [], 10, .invokevirtual 218, 3, 997),
  (11, 10, 0, 0, [], 13, .ifCond .eq 7, 3, 0),
  (2, 0, 0, 4294966295, [], 16, .sipush (-1001), 3, 0),
  (5, 0, 0, 0, [], 19, .ireturn, 1, 0),
  (0, 0, 0, 0, [], 20, .aload_n 0, 1, 0),
  (1, 1, 0, 0, [], 21, .iload_n 1, 1, 0),
  (4, 168, 9, 1, [], 22, .invokevirtual 242, 3, 1092),
  (12, 16, 0, 0, [], 25, .ifCond .ne 7, 3, 0),
  (2, 0, 0, 4294966291, [], 28, .sipush (-1005), 3, 0),
  (5, 0, 0, 0, [], 31, .ireturn, 1, 0),
  (2, 0, 0, 4294967295, [], 32, .iconst (-1), 1, 0),
  (9, 3, 0, 0, [], 33, .istore_n 3, 1, 0),
  (2, 0, 0, 2, [], 34, .iconst 2, 1, 0),
  (0, 0, 0, 0, [], 35, .aload_n 0, 1, 0),
  (3, 9, 0, 0, [], 36, .getfield 64, 3, 782),
  (15, 0, 0, 0, [], 39, .imul, 1, 0),
  (2, 0, 0, 1, [], 40, .iconst 1, 1, 0),
  (10, 0, 0, 0, [], 41, .isub, 1, 0),
  (9, 4, 0, 0, [], 42, .istore 4, 2, 0),
  (1, 4, 0, 0, [], 44, .iload 4, 2, 0),
  (28, 50, 0, 0, [], 46, .ifCond .lt 47, 3, 0),
  (0, 0, 0, 0, [], 49, .aload_n 0, 1, 0),
  (1, 4, 0, 0, [], 50, .iload 4, 2, 0),
  (2, 0, 0, 1, [], 52, .iconst 1, 1, 0),
  (7, 0, 0, 0, [], 53, .iadd, 1, 0),
  (4, 147, 9, 1, [], 54, .invokevirtual 224, 3, 1048),
  (0, 0, 0, 0, [], 57, .aload_n 0, 1, 0),
  (1, 2, 0, 0, [], 58, .iload_n 2, 1, 0),
  (4, 146, 9, 1, [], 59, .invokevirtual 227, 3, 1052),
  (12, 38, 0, 0, [], 62, .ifCond .ne 7, 3, 0),
  (2, 0, 0, 4294966291, [], 65, .sipush (-1005), 3, 0),
  (5, 0, 0, 0, [], 68, .ireturn, 1, 0),
  (0, 0, 0, 0, [], 69, .aload_n 0, 1, 0),
  (1, 4, 0, 0, [], 70, .iload 4, 2, 0),
  (4, 169, 9, 1, [], 72, .invokevirtual 245, 3, 1104),
  (11, 44, 0, 0, [], 75, .ifCond .eq 7, 3, 0),
  (1, 3, 0, 0, [], 78, .iload_n 3, 1, 0),
  (6, 47, 0, 0, [], 79, .goto 7, 3, 0),
  (1, 4, 0, 0, [], 82, .iload 4, 2, 0),
  (2, 0, 0, 1, [], 84, .iconst 1, 1, 0),
  (7, 0, 0, 0, [], 85, .iadd, 1, 0),
  (9, 3, 0, 0, [], 86, .istore_n 3, 1, 0),
  (16, 4, 0, 4294967295, [], 87, .iinc 4 (-1), 3, 0),
  (6, 25, 0, 0, [], 90, .goto (-46), 3, 0),
  (1, 3, 0, 0, [], 93, .iload_n 3, 1, 0),
  (5, 0, 0, 0, [], 94, .ireturn, 1, 0)]
def m_X9_same : am_M := (yX9_same, cX9_same, 5, some .int)
def t_X9_putRim : List ri_row := [(2, 0, 0, 0, [], 0, .iconst 0, 1, 0),
  (9, 2, 0, 0, [], 1, .istore_n 2, 1, 0),
  (1, 2, 0, 0, [], 2, .iload_n 2, 1, 0),
  (0, 0, 0, 0, [], 3, .aload_n 0, 1, 0),
  (3, 9, 0, 0, [], 4, .getfield 64, 3, 782),
  (13, 79, 0, 0, [], 7, .if_icmp .ge 114, 3, 0),
  (1, 1, 0, 0, [], 10, .iload_n 1, 1, 0),
  (11, 15, 0, 0, [], 11, .ifCond .eq 14, 3, 0),
  (0, 0, 0, 0, [], 14, .aload_n 0, 1, 0),
  (3, 9, 0, 0, [], 15, .getfield 64, 3, 782),
  (2, 0, 0, 1, [], 18, .iconst 1, 1, 0),
  (10, 0, 0, 0, [], 19, .isub, 1, 0),
  (1, 2, 0, 0, [], 20, .iload_n 2, 1, 0),
  (10, 0, 0, 0, [], 21, .isub, 1, 0),
  (6, 16, 0, 0, [], 22, .goto 4, 3, 0),
  (1, 2, 0, 0, [], 25, .iload_n 2, 1, 0),
  (9, 3, 0, 0, [], 26, .istore_n 3, 1, 0),
  (0, 0, 0, 0, [], 27, .aload_n 0, 1, 0),
  (1, 1, 0, 0, [], 28, .iload_n 1, 1, 0),
  (11, 26, 0, 0, [], 29, .ifCond .eq 11, 3, 0),
  (2, 0, 0, 2, [], 32, .iconst 2, 1, 0),
  (1, 3, 0, 0, [], 33, .iload_n 3, 1, 0),
  (15, 0, 0, 0, [], 34, .imul, 1, 0),
  (2, 0, 0, 2, [], 35, .iconst 2, 1, 0),
  (7, 0, 0, 0, [], 36, .iadd, 1, 0),
  (6, 31, 0, 0, [], 37, .goto 8, 3, 0),
  (2, 0, 0, 2, [], 40, .iconst 2, 1, 0),
  (1, 3, 0, 0, [], 41, .iload_n 3, 1, 0),
  (15, 0, 0, 0, [], 42, .imul, 1, 0),
  (2, 0, 0, 1, [], 43, .iconst 1, 1, 0),
  (7, 0, 0, 0, [], 44, .iadd, 1, 0),
  (4, 142, 9, 1, [], 45, .invokevirtual 160, 3, 1064),
  (0, 0, 0, 0, [], 48, .aload_n 0, 1, 0),
  (1, 1, 0, 0, [], 49, .iload_n 1, 1, 0),
  (11, 41, 0, 0, [], 50, .ifCond .eq 11, 3, 0),
  (2, 0, 0, 2, [], 53, .iconst 2, 1, 0),
  (1, 3, 0, 0, [], 54, .iload_n 3, 1, 0),
  (15, 0, 0, 0, [], 55, .imul, 1, 0),
  (2, 0, 0, 1, [], 56, .iconst 1, 1, 0),
  (7, 0, 0, 0, [], 57, .iadd, 1, 0),
  (6, 46, 0, 0, [], 58, .goto 8, 3, 0),
  (2, 0, 0, 2, [], 61, .iconst 2, 1, 0),
  (1, 3, 0, 0, [], 62, .iload_n 3, 1, 0),
  (15, 0, 0, 0, [], 63, .imul, 1, 0),
  (2, 0, 0, 2, [], 64, .iconst 2, 1, 0),
  (7, 0, 0, 0, [], 65, .iadd, 1, 0),
  (4, 142, 9, 1, [], 66, .invokevirtual 160, 3, 1064),
  (0, 0, 0, 0, [], 69, .aload_n 0, 1, 0),
  (1, 1, 0, 0, [], 70, .iload_n 1, 1, 0),
  (11, 56, 0, 0, [], 71, .ifCond .eq 12, 3, 0),
  (2, 0, 0, 4294967294, [], 74, .bipush (-2), 2, 0),
  (1, 3, 0, 0, [], 76, .iload_n 3, 1, 0),
  (15, 0, 0, 0, [], 77, .imul, 1, 0),
  (2, 0, 0, 2, [], 78, .iconst 2, 1, 0),
  (10, 0, 0, 0, [], 79, .isub, 1, 0),
  (6, 61, 0, 0, [], 80, .goto 9, 3, 0),
  (2, 0, 0, 4294967294, [], 83, .bipush (-2), 2, 0),
  (1, 3, 0, 0, [], 85, .iload_n 3, 1, 0),
  (15, 0, 0, 0, [], 86, .imul, 1, 0),
  (2, 0, 0, 1, [], 87, .iconst 1, 1, 0),
  (10, 0, 0, 0, [], 88, .isub, 1, 0),
  (4, 142, 9, 1, [], 89, .invokevirtual 160, 3, 1064),
  (0, 0, 0, 0, [], 92, .aload_n 0, 1, 0),
  (1, 1, 0, 0, [], 93, .iload_n 1, 1, 0),
  (11, 71, 0, 0, [], 94, .ifCond .eq 12, 3, 0),
  (2, 0, 0, 4294967294, [], 97, .bipush (-2), 2, 0),
  (1, 3, 0, 0, [], 99, .iload_n 3, 1, 0),
  (15, 0, 0, 0, [], 100, .imul, 1, 0),
  (2, 0, 0, 1, [], 101, .iconst 1, 1, 0),
  (10, 0, 0, 0, [], 102, .isub, 1, 0),
  (6, 76, 0, 0, [], 103, .goto 9, 3, 0),
  (2, 0, 0, 4294967294, [], 106, .bipush (-2), 2, 0),
  (1, 3, 0, 0, [], 108, .iload_n 3, 1, 0),
  (15, 0, 0, 0, [], 109, .imul, 1, 0),
  (2, 0, 0, 2, [], 110, .iconst 2, 1, 0),
  (10, 0, 0, 0, [], 111, .isub, 1, 0),
  (4, 142, 9, 1, [], 112, .invokevirtual 160, 3, 1064),
  (16, 2, 0, 1, [], 115, .iinc 2 1, 3, 0),
  (6, 2, 0, 0, [], 118, .goto (-116), 3, 0),
  (21, 0, 0, 0, [], 121, .return_, 1, 0)]
def m_X9_putRim : am_M := (yX9_putRim, cX9_putRim, 4, none)
def t_X9_isTurns : List ri_row := [(2, 0, 0, 1, [], 0, .iconst 1, 1, 0),
  (9, 2, 0, 0, [], 1, .istore_n 2, 1, 0),
  (2, 0, 0, 0, [], 2, .iconst 0, 1, 0),
  (9, 3, 0, 0, [], 3, .istore_n 3, 1, 0),
  (1, 3, 0, 0, [], 4, .iload_n 3, 1, 0),
  (2, 0, 0, 2, [], 5, .iconst 2, 1, 0),
  (0, 0, 0, 0, [], 6, .aload_n 0, 1, 0),
  (3, 9, 0, 0, [], 7, .getfield 64, 3, 782),
  (15, 0, 0, 0, [], 10, .imul, 1, 0),
  (13, 82, 0, 0, [], 11, .if_icmp .ge 142, 3, 0),
  (1, 2, 0, 0, [], 14, .iload_n 2, 1, 0),
  (11, 82, 0, 0, [], 15, .ifCond .eq 138, 3, 0),
  (0, 0, 0, 0, [], 18, .aload_n 0, 1, 0),
  (2, 0, 0, 0, [], 19, .iconst 0, 1, 0),
  (14, 9, 15, 0, [], 20, .putfield 157, 3, 797),
  (1, 1, 0, 0, [], 23, .iload_n 1, 1, 0),
  (30, 21, 0, 0, [], 24, .ifCond .ge 9, 3, 0),
  (2, 0, 0, 0, [], 27, .iconst 0, 1, 0),
  (1, 1, 0, 0, [], 28, .iload_n 1, 1, 0),
  (10, 0, 0, 0, [], 29, .isub, 1, 0),
  (6, 22, 0, 0, [], 30, .goto 4, 3, 0),
  (1, 1, 0, 0, [], 33, .iload_n 1, 1, 0),
  (9, 4, 0, 0, [], 34, .istore 4, 2, 0),
  (2, 0, 0, 0, [], 36, .iconst 0, 1, 0),
  (9, 5, 0, 0, [], 37, .istore 5, 2, 0),
  (1, 5, 0, 0, [], 39, .iload 5, 2, 0),
  (1, 4, 0, 0, [], 41, .iload 4, 2, 0),
  (13, 37, 0, 0, [], 43, .if_icmp .ge 22, 3, 0),
  (0, 0, 0, 0, [], 46, .aload_n 0, 1, 0),
  (1, 1, 0, 0, [], 47, .iload_n 1, 1, 0),
  (30, 33, 0, 0, [], 48, .ifCond .ge 7, 3, 0),
  (2, 0, 0, 1, [], 51, .iconst 1, 1, 0),
  (6, 34, 0, 0, [], 52, .goto 4, 3, 0),
  (2, 0, 0, 0, [], 55, .iconst 0, 1, 0),
  (4, 171, 9, 1, [], 56, .invokevirtual 248, 3, 1120),
  (16, 5, 0, 1, [], 59, .iinc 5 1, 3, 0),
  (6, 25, 0, 0, [], 62, .goto (-23), 3, 0),
  (0, 0, 0, 0, [], 65, .aload_n 0, 1, 0),
  (1, 3, 0, 0, [], 66, .iload_n 3, 1, 0),
  (2, 0, 0, 1, [], 67, .iconst 1, 1, 0),
  (7, 0, 0, 0, [], 68, .iadd, 1, 0),
  (4, 142, 9, 1, [], 69, .invokevirtual 160, 3, 1064),
  (2, 0, 0, 0, [], 72, .iconst 0, 1, 0),
  (9, 5, 0, 0, [], 73, .istore 5, 2, 0),
  (1, 5, 0, 0, [], 75, .iload 5, 2, 0),
  (1, 4, 0, 0, [], 77, .iload 4, 2, 0),
  (13, 56, 0, 0, [], 79, .if_icmp .ge 22, 3, 0),
  (0, 0, 0, 0, [], 82, .aload_n 0, 1, 0),
  (1, 1, 0, 0, [], 83, .iload_n 1, 1, 0),
  (29, 52, 0, 0, [], 84, .ifCond .le 7, 3, 0),
  (2, 0, 0, 1, [], 87, .iconst 1, 1, 0),
  (6, 53, 0, 0, [], 88, .goto 4, 3, 0),
  (2, 0, 0, 0, [], 91, .iconst 0, 1, 0),
  (4, 171, 9, 1, [], 92, .invokevirtual 248, 3, 1120),
  (16, 5, 0, 1, [], 95, .iinc 5 1, 3, 0),
  (6, 44, 0, 0, [], 98, .goto (-23), 3, 0),
  (0, 0, 0, 0, [], 101, .aload_n 0, 1, 0),
  (0, 0, 0, 0, [], 102, .aload_n 0, 1, 0),
  (3, 9, 15, 0, [], 103, .getfield 157, 3, 797),
  (14, 9, 13, 0, [], 106, .putfield 167, 3, 795),
  (2, 0, 0, 0, [], 109, .iconst 0, 1, 0),
  (9, 5, 0, 0, [], 110, .istore 5, 2, 0),
  (1, 5, 0, 0, [], 112, .iload 5, 2, 0),
  (0, 0, 0, 0, [], 114, .aload_n 0, 1, 0),
  (3, 9, 15, 0, [], 115, .getfield 157, 3, 797),
  (13, 76, 0, 0, [], 118, .if_icmp .ge 23, 3, 0),
  (0, 0, 0, 0, [], 121, .aload_n 0, 1, 0),
  (3, 9, 12, 0, [], 122, .getfield 31, 3, 794),
  (1, 5, 0, 0, [], 125, .iload 5, 2, 0),
  (0, 0, 0, 0, [], 127, .aload_n 0, 1, 0),
  (3, 9, 14, 0, [], 128, .getfield 34, 3, 796),
  (1, 5, 0, 0, [], 131, .iload 5, 2, 0),
  (8, 0, 0, 0, [], 133, .iaload, 1, 0),
  (22, 0, 0, 0, [], 134, .iastore, 1, 0),
  (16, 5, 0, 1, [], 135, .iinc 5 1, 3, 0),
  (6, 62, 0, 0, [], 138, .goto (-26), 3, 0),
  (0, 0, 0, 0, [], 141, .aload_n 0, 1, 0),
  (1, 3, 0, 0, [], 142, .iload_n 3, 1, 0),
  (4, 169, 9, 1, [], 143, .invokevirtual 245, 3, 1104),
  (9, 2, 0, 0, [], 146, .istore_n 2, 1, 0),
  (16, 3, 0, 1, [], 147, .iinc 3 1, 3, 0),
  (6, 4, 0, 0, [], 150, .goto (-146), 3, 0),
  (1, 2, 0, 0, [], 153, .iload_n 2, 1, 0),
  (5, 0, 1, 0, [], 154, .ireturn, 1, 0)]
def m_X9_isTurns : am_M := (yX9_isTurns, cX9_isTurns, 6, some .boolean)
def t_X9_findTurns : List ri_row := [(2, 0, 0, 0, [], 0, .iconst 0, 1, 0),
  (9, 1, 0, 0, [], 1, .istore_n 1, 1, 0),
  (1, 1, 0, 0, [], 2, .iload_n 1, 1, 0),
  (2, 0, 0, 6, [], 3, .bipush 6, 2, 0),
  (13, 23, 0, 0, [], 5, .if_icmp .ge 33, 3, 0),
  (0, 0, 0, 0, [], 8, .aload_n 0, 1, 0),
  (1, 1, 0, 0, [], 9, .iload_n 1, 1, 0),
  (4, 172, 9, 1, [], 10, .invokevirtual 252, 3, 1116),
  (11, 11, 0, 0, [], 13, .ifCond .eq 5, 3, 0),
  (1, 1, 0, 0, [], 16, .iload_n 1, 1, 0),
  (5, 0, 0, 0, [], 17, .ireturn, 1, 0),
  (0, 0, 0, 0, [], 18, .aload_n 0, 1, 0),
  (2, 0, 0, 0, [], 19, .iconst 0, 1, 0),
  (1, 1, 0, 0, [], 20, .iload_n 1, 1, 0),
  (10, 0, 0, 0, [], 21, .isub, 1, 0),
  (4, 172, 9, 1, [], 22, .invokevirtual 252, 3, 1116),
  (11, 21, 0, 0, [], 25, .ifCond .eq 7, 3, 0),
  (2, 0, 0, 0, [], 28, .iconst 0, 1, 0),
  (1, 1, 0, 0, [], 29, .iload_n 1, 1, 0),
  (10, 0, 0, 0, [], 30, .isub, 1, 0),
  (5, 0, 0, 0, [], 31, .ireturn, 1, 0),
  (16, 1, 0, 1, [], 32, .iinc 1 1, 3, 0),
  (6, 2, 0, 0, [], 35, .goto (-33), 3, 0),
  (2, 0, 0, 99, [], 38, .bipush 99, 2, 0),
  (5, 0, 0, 0, [], 40, .ireturn, 1, 0)]
def m_X9_findTurns : am_M := (yX9_findTurns, cX9_findTurns, 2, some .int)
def t_X9_turns : List ri_row := [(0, 0, 0, 0, [], 0, .aload_n 0, 1, 0),
  (1, 1, 0, 0, [], 1, .iload_n 1, 1, 0),
  (4, 150, 9, 1, [], 2, .invokevirtual 218, 3, 997),
  (11, 6, 0, 0, [], 5, .ifCond .eq 7, 3, 0),
  (2, 0, 0, 4294966295, [], 8, .sipush (-1001), 3, 0),
  (5, 0, 0, 0, [], 11, .ireturn, 1, 0),
  (0, 0, 0, 0, [], 12, .aload_n 0, 1, 0),
  (1, 1, 0, 0, [], 13, .iload_n 1, 1, 0),
  (4, 168, 9, 1, [], 14, .invokevirtual 242, 3, 1092),
  (11, 13, 0, 0, [], 17, .ifCond .eq 10, 3, 0),
  (0, 0, 0, 0, [], 20, .aload_n 0, 1, 0),
  (4, 173, 9, 0, [], 21, .invokevirtual 255, 3, 1112),
  (6, 14, 0, 0, [], 24, .goto 6, 3, 0),
  (2, 0, 0, 4294966291, [], 27, .sipush (-1005), 3, 0),
  (5, 0, 0, 0, [], 30, .ireturn, 1, 0)]
def m_X9_turns : am_M := (yX9_turns, cX9_turns, 2, some .int)
def t_X9_findOrder : List ri_row := [(0, 0, 0, 0, [], 0, .aload_n 0, 1, 0),
  (4, 166, 9, 0, [], 1, .invokevirtual 236, 3, 1096),
  (2, 0, 0, 1, [], 4, .iconst 1, 1, 0),
  (9, 3, 0, 0, [], 5, .istore_n 3, 1, 0),
  (1, 3, 0, 0, [], 6, .iload_n 3, 1, 0),
  (1, 2, 0, 0, [], 7, .iload_n 2, 1, 0),
  (25, 21, 0, 0, [], 8, .if_icmp .gt 32, 3, 0),
  (0, 0, 0, 0, [], 11, .aload_n 0, 1, 0),
  (1, 1, 0, 0, [], 12, .iload_n 1, 1, 0),
  (4, 167, 9, 1, [], 13, .invokevirtual 239, 3, 1100),
  (12, 13, 0, 0, [], 16, .ifCond .ne 7, 3, 0),
  (2, 0, 0, 4294966291, [], 19, .sipush (-1005), 3, 0),
  (5, 0, 0, 0, [], 22, .ireturn, 1, 0),
  (0, 0, 0, 0, [], 23, .aload_n 0, 1, 0),
  (4, 173, 9, 0, [], 24, .invokevirtual 255, 3, 1112),
  (2, 0, 0, 99, [], 27, .bipush 99, 2, 0),
  (19, 19, 0, 0, [], 29, .if_icmp .eq 5, 3, 0),
  (1, 3, 0, 0, [], 32, .iload_n 3, 1, 0),
  (5, 0, 0, 0, [], 33, .ireturn, 1, 0),
  (16, 3, 0, 1, [], 34, .iinc 3 1, 3, 0),
  (6, 4, 0, 0, [], 37, .goto (-31), 3, 0),
  (2, 0, 0, 4294967295, [], 40, .iconst (-1), 1, 0),
  (5, 0, 0, 0, [], 41, .ireturn, 1, 0)]
def m_X9_findOrder : am_M := (yX9_findOrder, cX9_findOrder, 4, some .int)
def t_X9_order : List ri_row := [(0, 0, 0, 0, [], 0, .aload_n 0, 1, 0),
  (1, 1, 0, 0, [], 1, .iload_n 1, 1, 0),
  (4, 150, 9, 1, [], 2, .invokevirtual 218, 3, 997),
  (11, 6, 0, 0, [], 5, .ifCond .eq 7, 3, 0),
  (2, 0, 0, 4294966295, [], 8, .sipush (-1001), 3, 0),
  (5, 0, 0, 0, [], 11, .ireturn, 1, 0),
  (1, 2, 0, 0, [], 12, .iload_n 2, 1, 0),
  (24, 0, 0, 0, [], 13, .i2l, 1, 0),
  (38, 0, 0, 1, [], 14, .lconst 1, 1, 0),
  (38, 0, 0, 24, [], 15, .ldc2_w 258, 3, 1128),
  (17, 110, 0, 3, [], 18, .invokestatic 75, 3, 873),
  (11, 17, 0, 0, [], 21, .ifCond .eq 12, 3, 0),
  (0, 0, 0, 0, [], 24, .aload_n 0, 1, 0),
  (1, 1, 0, 0, [], 25, .iload_n 1, 1, 0),
  (1, 2, 0, 0, [], 26, .iload_n 2, 1, 0),
  (4, 175, 9, 2, [], 27, .invokevirtual 260, 3, 1129),
  (6, 18, 0, 0, [], 30, .goto 6, 3, 0),
  (2, 0, 0, 4294966294, [], 33, .sipush (-1002), 3, 0),
  (5, 0, 0, 0, [], 36, .ireturn, 1, 0)]
def m_X9_order : am_M := (yX9_order, cX9_order, 3, some .int)
def t_X9_tableOf : List ri_row := [(2, 0, 0, 0, [], 0, .iconst 0, 1, 0),
  (9, 3, 0, 0, [], 1, .istore_n 3, 1, 0),
  (2, 0, 0, 0, [], 2, .iconst 0, 1, 0),
  (9, 4, 0, 0, [], 3, .istore 4, 2, 0),
  (1, 4, 0, 0, [], 5, .iload 4, 2, 0),
  (0, 0, 0, 0, [], 7, .aload_n 0, 1, 0),
  (3, 9, 26, 0, [], 8, .getfield 53, 3, 808),
  (1, 1, 0, 0, [], 11, .iload_n 1, 1, 0),
  (2, 0, 0, 1, [], 12, .iconst 1, 1, 0),
  (10, 0, 0, 0, [], 13, .isub, 1, 0),
  (8, 0, 0, 0, [], 14, .iaload, 1, 0),
  (13, 45, 0, 0, [], 15, .if_icmp .ge 60, 3, 0),
  (0, 0, 0, 0, [], 18, .aload_n 0, 1, 0),
  (3, 9, 25, 0, [], 19, .getfield 50, 3, 807),
  (2, 0, 0, 400, [], 22, .sipush 400, 3, 0),
  (1, 1, 0, 0, [], 25, .iload_n 1, 1, 0),
  (2, 0, 0, 1, [], 26, .iconst 1, 1, 0),
  (10, 0, 0, 0, [], 27, .isub, 1, 0),
  (15, 0, 0, 0, [], 28, .imul, 1, 0),
  (1, 4, 0, 0, [], 29, .iload 4, 2, 0),
  (7, 0, 0, 0, [], 31, .iadd, 1, 0),
  (8, 0, 0, 0, [], 32, .iaload, 1, 0),
  (9, 5, 0, 0, [], 33, .istore 5, 2, 0),
  (1, 3, 0, 0, [], 35, .iload_n 3, 1, 0),
  (1, 5, 0, 0, [], 36, .iload 5, 2, 0),
  (1, 2, 0, 0, [], 38, .iload_n 2, 1, 0),
  (18, 29, 0, 0, [], 39, .if_icmp .ne 7, 3, 0),
  (2, 0, 0, 1, [], 42, .iconst 1, 1, 0),
  (6, 30, 0, 0, [], 43, .goto 4, 3, 0),
  (2, 0, 0, 0, [], 46, .iconst 0, 1, 0),
  (17, 111, 0, 1, [], 47, .invokestatic 112, 3, 924),
  (1, 5, 0, 0, [], 50, .iload 5, 2, 0),
  (2, 0, 0, 0, [], 52, .iconst 0, 1, 0),
  (1, 2, 0, 0, [], 53, .iload_n 2, 1, 0),
  (10, 0, 0, 0, [], 54, .isub, 1, 0),
  (18, 38, 0, 0, [], 55, .if_icmp .ne 7, 3, 0),
  (2, 0, 0, 1, [], 58, .iconst 1, 1, 0),
  (6, 39, 0, 0, [], 59, .goto 4, 3, 0),
  (2, 0, 0, 0, [], 62, .iconst 0, 1, 0),
  (17, 111, 0, 1, [], 63, .invokestatic 112, 3, 924),
  (10, 0, 0, 0, [], 66, .isub, 1, 0),
  (7, 0, 0, 0, [], 67, .iadd, 1, 0),
  (9, 3, 0, 0, [], 68, .istore_n 3, 1, 0),
  (16, 4, 0, 1, [], 69, .iinc 4 1, 3, 0),
  (6, 4, 0, 0, [], 72, .goto (-67), 3, 0),
  (1, 3, 0, 0, [], 75, .iload_n 3, 1, 0),
  (5, 0, 0, 0, [], 76, .ireturn, 1, 0)]
def m_X9_tableOf : am_M := (yX9_tableOf, cX9_tableOf, 6, some .int)
def t_X9_table : List ri_row := [(0, 0, 0, 0, [], 0, .aload_n 0, 1, 0),
  (1, 1, 0, 0, [], 1, .iload_n 1, 1, 0),
  (4, 150, 9, 1, [], 2, .invokevirtual 218, 3, 997),
  (11, 6, 0, 0, [], 5, .ifCond .eq 7, 3, 0),
  (2, 0, 0, 4294966295, [], 8, .sipush (-1001), 3, 0),
  (5, 0, 0, 0, [], 11, .ireturn, 1, 0),
  (1, 2, 0, 0, [], 12, .iload_n 2, 1, 0),
  (24, 0, 0, 0, [], 13, .i2l, 1, 0),
  (38, 0, 0, 1, [], 14, .lconst 1, 1, 0),
  (2, 0, 0, 2, [], 15, .iconst 2, 1, 0),
  (0, 0, 0, 0, [], 16, .aload_n 0, 1, 0),
  (3, 9, 0, 0, [], 17, .getfield 64, 3, 782),
  (15, 0, 0, 0, [], 20, .imul, 1, 0),
  (24, 0, 0, 0, [], 21, .i2l, 1, 0),
  (17, 110, 0, 3, [], 22, .invokestatic 75, 3, 873),
  (11, 26, 0, 0, [], 25, .ifCond .eq 19, 3, 0),
  (1, 3, 0, 0, [], 28, .iload_n 3, 1, 0),
  (24, 0, 0, 0, [], 29, .i2l, 1, 0),
  (38, 0, 0, 1, [], 30, .lconst 1, 1, 0),
  (2, 0, 0, 2, [], 31, .iconst 2, 1, 0),
  (0, 0, 0, 0, [], 32, .aload_n 0, 1, 0),
  (3, 9, 0, 0, [], 33, .getfield 64, 3, 782),
  (15, 0, 0, 0, [], 36, .imul, 1, 0),
  (24, 0, 0, 0, [], 37, .i2l, 1, 0),
  (17, 110, 0, 3, [], 38, .invokestatic 75, 3, 873),
  (12, 28, 0, 0, [], 41, .ifCond .ne 7, 3, 0),
  (2, 0, 0, 4294966294, [], 44, .sipush (-1002), 3, 0),
  (5, 0, 0, 0, [], 47, .ireturn, 1, 0),
  (0, 0, 0, 0, [], 48, .aload_n 0, 1, 0),
  (1, 1, 0, 0, [], 49, .iload_n 1, 1, 0),
  (4, 168, 9, 1, [], 50, .invokevirtual 242, 3, 1092),
  (11, 37, 0, 0, [], 53, .ifCond .eq 12, 3, 0),
  (0, 0, 0, 0, [], 56, .aload_n 0, 1, 0),
  (1, 2, 0, 0, [], 57, .iload_n 2, 1, 0),
  (1, 3, 0, 0, [], 58, .iload_n 3, 1, 0),
  (4, 177, 9, 2, [], 59, .invokevirtual 263, 3, 1137),
  (6, 38, 0, 0, [], 62, .goto 6, 3, 0),
  (2, 0, 0, 4294966291, [], 65, .sipush (-1005), 3, 0),
  (5, 0, 0, 0, [], 68, .ireturn, 1, 0)]
def m_X9_table : am_M := (yX9_table, cX9_table, 4, some .int)
def t_X9_determinant : List ri_row := [(2, 0, 0, 0, [], 0, .iconst 0, 1, 0),
  (9, 2, 0, 0, [], 1, .istore_n 2, 1, 0),
  (2, 0, 0, 0, [], 2, .iconst 0, 1, 0),
  (9, 3, 0, 0, [], 3, .istore_n 3, 1, 0),
  (1, 3, 0, 0, [], 4, .iload_n 3, 1, 0),
  (2, 0, 0, 64, [], 5, .bipush 64, 2, 0),
  (13, 18, 0, 0, [], 7, .if_icmp .ge 24, 3, 0),
  (0, 0, 0, 0, [], 10, .aload_n 0, 1, 0),
  (3, 9, 27, 0, [], 11, .getfield 56, 3, 809),
  (1, 3, 0, 0, [], 14, .iload_n 3, 1, 0),
  (1, 3, 0, 0, [], 15, .iload_n 3, 1, 0),
  (12, 14, 0, 0, [], 16, .ifCond .ne 7, 3, 0),
  (38, 0, 0, 1, [], 19, .lconst 1, 1, 0),
  (6, 15, 0, 0, [], 20, .goto 4, 3, 0),
  (38, 0, 0, 0, [], 23, .lconst 0, 1, 0),
  (55, 0, 0, 0, [], 24, .lastore, 1, 0),
  (16, 3, 0, 1, [], 25, .iinc 3 1, 3, 0),
  (6, 4, 0, 0, [], 28, .goto (-24), 3, 0),
  (2, 0, 0, 1, [], 31, .iconst 1, 1, 0),
  (9, 3, 0, 0, [], 32, .istore_n 3, 1, 0),
  (1, 3, 0, 0, [], 33, .iload_n 3, 1, 0),
  (2, 0, 0, 2, [], 34, .iconst 2, 1, 0),
  (0, 0, 0, 0, [], 35, .aload_n 0, 1, 0),
  (3, 9, 0, 0, [], 36, .getfield 64, 3, 782),
  (15, 0, 0, 0, [], 39, .imul, 1, 0),
  (25, 114, 0, 0, [], 40, .if_icmp .gt 156, 3, 0),
  (1, 1, 0, 0, [], 43, .iload_n 1, 1, 0),
  (1, 3, 0, 0, [], 44, .iload_n 3, 1, 0),
  (2, 0, 0, 1, [], 45, .iconst 1, 1, 0),
  (10, 0, 0, 0, [], 46, .isub, 1, 0),
  (35, 0, 0, 0, [], 47, .ishr, 1, 0),
  (2, 0, 0, 1, [], 48, .iconst 1, 1, 0),
  (33, 0, 0, 0, [], 49, .iand, 1, 0),
  (2, 0, 0, 1, [], 50, .iconst 1, 1, 0),
  (18, 112, 0, 0, [], 51, .if_icmp .ne 139, 3, 0),
  (16, 2, 0, 1, [], 54, .iinc 2 1, 3, 0),
  (2, 0, 0, 63, [], 57, .bipush 63, 2, 0),
  (9, 4, 0, 0, [], 59, .istore 4, 2, 0),
  (1, 4, 0, 0, [], 61, .iload 4, 2, 0),
  (29, 112, 0, 0, [], 63, .ifCond .le 127, 3, 0),
  (1, 4, 0, 0, [], 66, .iload 4, 2, 0),
  (17, 180, 0, 1, [], 68, .invokestatic 266, 3, 1148),
  (1, 2, 0, 0, [], 71, .iload_n 2, 1, 0),
  (18, 110, 0, 0, [], 72, .if_icmp .ne 112, 3, 0),
  (1, 4, 0, 0, [], 75, .iload 4, 2, 0),
  (1, 1, 0, 0, [], 77, .iload_n 1, 1, 0),
  (2, 0, 0, 4294967295, [], 78, .iconst (-1), 1, 0),
  (45, 0, 0, 0, [], 79, .ixor, 1, 0),
  (33, 0, 0, 0, [], 80, .iand, 1, 0),
  (12, 110, 0, 0, [], 81, .ifCond .ne 103, 3, 0),
  (38, 0, 0, 0, [], 84, .lconst 0, 1, 0),
  (40, 5, 0, 0, [], 85, .lstore 5, 2, 0),
  (2, 0, 0, 1, [], 87, .iconst 1, 1, 0),
  (9, 7, 0, 0, [], 88, .istore 7, 2, 0),
  (1, 7, 0, 0, [], 90, .iload 7, 2, 0),
  (2, 0, 0, 2, [], 92, .iconst 2, 1, 0),
  (0, 0, 0, 0, [], 93, .aload_n 0, 1, 0),
  (3, 9, 0, 0, [], 94, .getfield 64, 3, 782),
  (15, 0, 0, 0, [], 97, .imul, 1, 0),
  (25, 105, 0, 0, [], 98, .if_icmp .gt 77, 3, 0),
  (1, 4, 0, 0, [], 101, .iload 4, 2, 0),
  (1, 7, 0, 0, [], 103, .iload 7, 2, 0),
  (2, 0, 0, 1, [], 105, .iconst 1, 1, 0),
  (10, 0, 0, 0, [], 106, .isub, 1, 0),
  (35, 0, 0, 0, [], 107, .ishr, 1, 0),
  (2, 0, 0, 1, [], 108, .iconst 1, 1, 0),
  (33, 0, 0, 0, [], 109, .iand, 1, 0),
  (2, 0, 0, 1, [], 110, .iconst 1, 1, 0),
  (18, 103, 0, 0, [], 111, .if_icmp .ne 58, 3, 0),
  (1, 4, 0, 0, [], 114, .iload 4, 2, 0),
  (1, 7, 0, 0, [], 116, .iload 7, 2, 0),
  (35, 0, 0, 0, [], 118, .ishr, 1, 0),
  (17, 180, 0, 1, [], 119, .invokestatic 266, 3, 1148),
  (9, 8, 0, 0, [], 122, .istore 8, 2, 0),
  (39, 5, 0, 0, [], 124, .lload 5, 2, 0),
  (1, 8, 0, 0, [], 126, .iload 8, 2, 0),
  (2, 0, 0, 2, [], 128, .iconst 2, 1, 0),
  (34, 0, 0, 0, [], 129, .irem, 1, 0),
  (12, 81, 0, 0, [], 130, .ifCond .ne 7, 3, 0),
  (38, 0, 0, 1, [], 133, .lconst 1, 1, 0),
  (6, 82, 0, 0, [], 134, .goto 6, 3, 0),
  (38, 0, 0, 18446744073709551615, [], 137, .ldc2_w 269, 3, 1155),
  (0, 0, 0, 0, [], 140, .aload_n 0, 1, 0),
  (1, 3, 0, 0, [], 141, .iload_n 3, 1, 0),
  (1, 7, 0, 0, [], 142, .iload 7, 2, 0),
  (4, 177, 9, 2, [], 144, .invokevirtual 263, 3, 1137),
  (24, 0, 0, 0, [], 147, .i2l, 1, 0),
  (44, 0, 0, 0, [], 148, .lmul, 1, 0),
  (0, 0, 0, 0, [], 149, .aload_n 0, 1, 0),
  (3, 9, 27, 0, [], 150, .getfield 56, 3, 809),
  (1, 4, 0, 0, [], 153, .iload 4, 2, 0),
  (2, 0, 0, 1, [], 155, .iconst 1, 1, 0),
  (1, 7, 0, 0, [], 156, .iload 7, 2, 0),
  (2, 0, 0, 1, [], 158, .iconst 1, 1, 0),
  (10, 0, 0, 0, [], 159, .isub, 1, 0),
  (46, 0, 0, 0, [], 160, .ishl, 1, 0),
  (2, 0, 0, 4294967295, [], 161, .iconst (-1), 1, 0),
  (45, 0, 0, 0, [], 162, .ixor, 1, 0),
  (33, 0, 0, 0, [], 163, .iand, 1, 0),
  (54, 0, 0, 0, [], 164, .laload, 1, 0),
  (44, 0, 0, 0, [], 165, .lmul, 1, 0),
  (43, 0, 0, 0, [], 166, .ladd, 1, 0),
  (40, 5, 0, 0, [], 167, .lstore 5, 2, 0),
  (16, 7, 0, 1, [], 169, .iinc 7 1, 3, 0),
  (6, 54, 0, 0, [], 172, .goto (-82), 3, 0),
  (0, 0, 0, 0, [], 175, .aload_n 0, 1, 0),
  (3, 9, 27, 0, [], 176, .getfield 56, 3, 809),
  (1, 4, 0, 0, [], 179, .iload 4, 2, 0),
  (39, 5, 0, 0, [], 181, .lload 5, 2, 0),
  (55, 0, 0, 0, [], 183, .lastore, 1, 0),
  (16, 4, 0, 4294967295, [], 184, .iinc 4 (-1), 3, 0),
  (6, 38, 0, 0, [], 187, .goto (-126), 3, 0),
  (16, 3, 0, 1, [], 190, .iinc 3 1, 3, 0),
  (6, 20, 0, 0, [], 193, .goto (-160), 3, 0),
  (0, 0, 0, 0, [], 196, .aload_n 0, 1, 0),
  (3, 9, 27, 0, [], 197, .getfield 56, 3, 809),
  (1, 1, 0, 0, [], 200, .iload_n 1, 1, 0),
  (54, 0, 0, 0, [], 201, .laload, 1, 0),
  (58, 0, 0, 0, [], 202, .lreturn, 1, 0)]
def m_X9_determinant : am_M := (yX9_determinant, cX9_determinant, 9, some .long)
def t_X9_onesOf : List ri_row := [(2, 0, 0, 0, [], 0, .iconst 0, 1, 0),
  (9, 1, 0, 0, [], 1, .istore_n 1, 1, 0),
  (2, 0, 0, 0, [], 2, .iconst 0, 1, 0),
  (9, 2, 0, 0, [], 3, .istore_n 2, 1, 0),
  (1, 2, 0, 0, [], 4, .iload_n 2, 1, 0),
  (2, 0, 0, 12, [], 5, .bipush 12, 2, 0),
  (13, 17, 0, 0, [], 7, .if_icmp .ge 17, 3, 0),
  (1, 1, 0, 0, [], 10, .iload_n 1, 1, 0),
  (1, 0, 0, 0, [], 11, .iload_n 0, 1, 0),
  (1, 2, 0, 0, [], 12, .iload_n 2, 1, 0),
  (35, 0, 0, 0, [], 13, .ishr, 1, 0),
  (2, 0, 0, 1, [], 14, .iconst 1, 1, 0),
  (33, 0, 0, 0, [], 15, .iand, 1, 0),
  (7, 0, 0, 0, [], 16, .iadd, 1, 0),
  (9, 1, 0, 0, [], 17, .istore_n 1, 1, 0),
  (16, 2, 0, 1, [], 18, .iinc 2 1, 3, 0),
  (6, 4, 0, 0, [], 21, .goto (-17), 3, 0),
  (1, 1, 0, 0, [], 24, .iload_n 1, 1, 0),
  (5, 0, 0, 0, [], 25, .ireturn, 1, 0)]
def m_X9_onesOf : am_M := (yX9_onesOf, cX9_onesOf, 3, some .int)
def t_X9_character : List ri_row := [(0, 0, 0, 0, [], 0, .aload_n 0, 1, 0),
  (1, 1, 0, 0, [], 1, .iload_n 1, 1, 0),
  (4, 150, 9, 1, [], 2, .invokevirtual 218, 3, 997),
  (11, 6, 0, 0, [], 5, .ifCond .eq 7, 3, 0),
  (38, 0, 0, 18446744073709550615, [], 8, .ldc2_w 271, 3, 1145),
  (58, 0, 0, 0, [], 11, .lreturn, 1, 0),
  (1, 2, 0, 0, [], 12, .iload_n 2, 1, 0),
  (24, 0, 0, 0, [], 13, .i2l, 1, 0),
  (38, 0, 0, 0, [], 14, .lconst 0, 1, 0),
  (2, 0, 0, 2, [], 15, .iconst 2, 1, 0),
  (0, 0, 0, 0, [], 16, .aload_n 0, 1, 0),
  (3, 9, 0, 0, [], 17, .getfield 64, 3, 782),
  (15, 0, 0, 0, [], 20, .imul, 1, 0),
  (24, 0, 0, 0, [], 21, .i2l, 1, 0),
  (17, 110, 0, 3, [], 22, .invokestatic 75, 3, 873),
  (12, 18, 0, 0, [], 25, .ifCond .ne 7, 3, 0),
  (38, 0, 0, 18446744073709550614, [], 28, .ldc2_w 273, 3, 1146),
  (58, 0, 0, 0, [], 31, .lreturn, 1, 0),
  (0, 0, 0, 0, [], 32, .aload_n 0, 1, 0),
  (1, 1, 0, 0, [], 33, .iload_n 1, 1, 0),
  (4, 168, 9, 1, [], 34, .invokevirtual 242, 3, 1092),
  (12, 24, 0, 0, [], 37, .ifCond .ne 7, 3, 0),
  (38, 0, 0, 18446744073709550611, [], 40, .ldc2_w 275, 3, 1147),
  (58, 0, 0, 0, [], 43, .lreturn, 1, 0),
  (38, 0, 0, 0, [], 44, .lconst 0, 1, 0),
  (40, 3, 0, 0, [], 45, .lstore_n 3, 1, 0),
  (2, 0, 0, 0, [], 46, .iconst 0, 1, 0),
  (9, 5, 0, 0, [], 47, .istore 5, 2, 0),
  (1, 5, 0, 0, [], 49, .iload 5, 2, 0),
  (2, 0, 0, 1, [], 51, .iconst 1, 1, 0),
  (2, 0, 0, 2, [], 52, .iconst 2, 1, 0),
  (0, 0, 0, 0, [], 53, .aload_n 0, 1, 0),
  (3, 9, 0, 0, [], 54, .getfield 64, 3, 782),
  (15, 0, 0, 0, [], 57, .imul, 1, 0),
  (46, 0, 0, 0, [], 58, .ishl, 1, 0),
  (13, 50, 0, 0, [], 59, .if_icmp .ge 31, 3, 0),
  (39, 3, 0, 0, [], 62, .lload_n 3, 1, 0),
  (1, 5, 0, 0, [], 63, .iload 5, 2, 0),
  (17, 180, 0, 1, [], 65, .invokestatic 266, 3, 1148),
  (1, 2, 0, 0, [], 68, .iload_n 2, 1, 0),
  (18, 45, 0, 0, [], 69, .if_icmp .ne 12, 3, 0),
  (0, 0, 0, 0, [], 72, .aload_n 0, 1, 0),
  (1, 5, 0, 0, [], 73, .iload 5, 2, 0),
  (4, 179, 9, 1, [], 75, .invokevirtual 277, 3, 1151),
  (6, 46, 0, 0, [], 78, .goto 4, 3, 0),
  (38, 0, 0, 0, [], 81, .lconst 0, 1, 0),
  (43, 0, 0, 0, [], 82, .ladd, 1, 0),
  (40, 3, 0, 0, [], 83, .lstore_n 3, 1, 0),
  (16, 5, 0, 1, [], 84, .iinc 5 1, 3, 0),
  (6, 28, 0, 0, [], 87, .goto (-38), 3, 0),
  (39, 3, 0, 0, [], 90, .lload_n 3, 1, 0),
  (58, 0, 0, 0, [], 91, .lreturn, 1, 0)]
def m_X9_character : am_M := (yX9_character, cX9_character, 6, some .long)
def t_X9_lengthNow : List ri_row := [(2, 0, 0, 0, [], 0, .iconst 0, 1, 0),
  (9, 1, 0, 0, [], 1, .istore_n 1, 1, 0),
  (2, 0, 0, 0, [], 2, .iconst 0, 1, 0),
  (9, 2, 0, 0, [], 3, .istore_n 2, 1, 0),
  (1, 2, 0, 0, [], 4, .iload_n 2, 1, 0),
  (2, 0, 0, 2, [], 5, .iconst 2, 1, 0),
  (0, 0, 0, 0, [], 6, .aload_n 0, 1, 0),
  (3, 9, 0, 0, [], 7, .getfield 64, 3, 782),
  (15, 0, 0, 0, [], 10, .imul, 1, 0),
  (13, 19, 0, 0, [], 11, .if_icmp .ge 18, 3, 0),
  (1, 1, 0, 0, [], 14, .iload_n 1, 1, 0),
  (0, 0, 0, 0, [], 15, .aload_n 0, 1, 0),
  (3, 9, 26, 0, [], 16, .getfield 53, 3, 808),
  (1, 2, 0, 0, [], 19, .iload_n 2, 1, 0),
  (8, 0, 0, 0, [], 20, .iaload, 1, 0),
  (7, 0, 0, 0, [], 21, .iadd, 1, 0),
  (9, 1, 0, 0, [], 22, .istore_n 1, 1, 0),
  (16, 2, 0, 1, [], 23, .iinc 2 1, 3, 0),
  (6, 4, 0, 0, [], 26, .goto (-22), 3, 0),
  (1, 1, 0, 0, [], 29, .iload_n 1, 1, 0),
  (5, 0, 0, 0, [], 30, .ireturn, 1, 0)]
def m_X9_lengthNow : am_M := (yX9_lengthNow, cX9_lengthNow, 3, some .int)
def t_X9_length : List ri_row := [(0, 0, 0, 0, [], 0, .aload_n 0, 1, 0),
  (1, 1, 0, 0, [], 1, .iload_n 1, 1, 0),
  (4, 150, 9, 1, [], 2, .invokevirtual 218, 3, 997),
  (11, 6, 0, 0, [], 5, .ifCond .eq 7, 3, 0),
  (2, 0, 0, 4294966295, [], 8, .sipush (-1001), 3, 0),
  (5, 0, 0, 0, [], 11, .ireturn, 1, 0),
  (1, 2, 0, 0, [], 12, .iload_n 2, 1, 0),
  (24, 0, 0, 0, [], 13, .i2l, 1, 0),
  (38, 0, 0, 0, [], 14, .lconst 0, 1, 0),
  (38, 0, 0, 24, [], 15, .ldc2_w 258, 3, 1128),
  (17, 110, 0, 3, [], 18, .invokestatic 75, 3, 873),
  (12, 14, 0, 0, [], 21, .ifCond .ne 7, 3, 0),
  (2, 0, 0, 4294966294, [], 24, .sipush (-1002), 3, 0),
  (5, 0, 0, 0, [], 27, .ireturn, 1, 0),
  (0, 0, 0, 0, [], 28, .aload_n 0, 1, 0),
  (4, 166, 9, 0, [], 29, .invokevirtual 236, 3, 1096),
  (2, 0, 0, 0, [], 32, .iconst 0, 1, 0),
  (9, 3, 0, 0, [], 33, .istore_n 3, 1, 0),
  (1, 3, 0, 0, [], 34, .iload_n 3, 1, 0),
  (1, 2, 0, 0, [], 35, .iload_n 2, 1, 0),
  (13, 29, 0, 0, [], 36, .if_icmp .ge 21, 3, 0),
  (0, 0, 0, 0, [], 39, .aload_n 0, 1, 0),
  (1, 1, 0, 0, [], 40, .iload_n 1, 1, 0),
  (4, 167, 9, 1, [], 41, .invokevirtual 239, 3, 1100),
  (12, 27, 0, 0, [], 44, .ifCond .ne 7, 3, 0),
  (2, 0, 0, 4294966291, [], 47, .sipush (-1005), 3, 0),
  (5, 0, 0, 0, [], 50, .ireturn, 1, 0),
  (16, 3, 0, 1, [], 51, .iinc 3 1, 3, 0),
  (6, 18, 0, 0, [], 54, .goto (-20), 3, 0),
  (0, 0, 0, 0, [], 57, .aload_n 0, 1, 0),
  (4, 182, 9, 0, [], 58, .invokevirtual 281, 3, 1160),
  (5, 0, 0, 0, [], 61, .ireturn, 1, 0)]
def m_X9_length : am_M := (yX9_length, cX9_length, 4, some .int)
def t_X9_comesBack : List ri_row := [(0, 0, 0, 0, [], 0, .aload_n 0, 1, 0),
  (1, 1, 0, 0, [], 1, .iload_n 1, 1, 0),
  (4, 148, 9, 1, [], 2, .invokevirtual 230, 3, 1076),
  (2, 0, 0, 1, [], 5, .iconst 1, 1, 0),
  (9, 4, 0, 0, [], 6, .istore 4, 2, 0),
  (1, 4, 0, 0, [], 8, .iload 4, 2, 0),
  (1, 3, 0, 0, [], 10, .iload_n 3, 1, 0),
  (25, 26, 0, 0, [], 11, .if_icmp .gt 37, 3, 0),
  (0, 0, 0, 0, [], 14, .aload_n 0, 1, 0),
  (1, 2, 0, 0, [], 15, .iload_n 2, 1, 0),
  (4, 146, 9, 1, [], 16, .invokevirtual 227, 3, 1052),
  (12, 14, 0, 0, [], 19, .ifCond .ne 5, 3, 0),
  (2, 0, 0, 0, [], 22, .iconst 0, 1, 0),
  (5, 0, 1, 0, [], 23, .ireturn, 1, 0),
  (0, 0, 0, 0, [], 24, .aload_n 0, 1, 0),
  (4, 149, 9, 0, [], 25, .invokevirtual 233, 3, 1080),
  (0, 0, 0, 0, [], 28, .aload_n 0, 1, 0),
  (1, 1, 0, 0, [], 29, .iload_n 1, 1, 0),
  (4, 121, 9, 1, [], 30, .invokevirtual 106, 3, 904),
  (0, 0, 0, 0, [], 33, .aload_n 0, 1, 0),
  (4, 126, 9, 0, [], 34, .invokevirtual 109, 3, 908),
  (11, 24, 0, 0, [], 37, .ifCond .eq 5, 3, 0),
  (2, 0, 0, 1, [], 40, .iconst 1, 1, 0),
  (5, 0, 1, 0, [], 41, .ireturn, 1, 0),
  (16, 4, 0, 1, [], 42, .iinc 4 1, 3, 0),
  (6, 5, 0, 0, [], 45, .goto (-37), 3, 0),
  (2, 0, 0, 0, [], 48, .iconst 0, 1, 0),
  (5, 0, 1, 0, [], 49, .ireturn, 1, 0)]
def m_X9_comesBack : am_M := (yX9_comesBack, cX9_comesBack, 5, some .boolean)
def t_X9_sort : List ri_row := [(0, 0, 0, 0, [], 0, .aload_n 0, 1, 0),
  (1, 1, 0, 0, [], 1, .iload_n 1, 1, 0),
  (4, 150, 9, 1, [], 2, .invokevirtual 218, 3, 997),
  (11, 6, 0, 0, [], 5, .ifCond .eq 7, 3, 0),
  (2, 0, 0, 4294966295, [], 8, .sipush (-1001), 3, 0),
  (5, 0, 0, 0, [], 11, .ireturn, 1, 0),
  (1, 2, 0, 0, [], 12, .iload_n 2, 1, 0),
  (24, 0, 0, 0, [], 13, .i2l, 1, 0),
  (38, 0, 0, 1, [], 14, .lconst 1, 1, 0),
  (38, 0, 0, 12, [], 15, .ldc2_w 284, 3, 1168),
  (17, 110, 0, 3, [], 18, .invokestatic 75, 3, 873),
  (12, 14, 0, 0, [], 21, .ifCond .ne 7, 3, 0),
  (2, 0, 0, 4294966294, [], 24, .sipush (-1002), 3, 0),
  (5, 0, 0, 0, [], 27, .ireturn, 1, 0),
  (0, 0, 0, 0, [], 28, .aload_n 0, 1, 0),
  (1, 1, 0, 0, [], 29, .iload_n 1, 1, 0),
  (1, 2, 0, 0, [], 30, .iload_n 2, 1, 0),
  (4, 175, 9, 2, [], 31, .invokevirtual 260, 3, 1129),
  (9, 3, 0, 0, [], 34, .istore_n 3, 1, 0),
  (1, 3, 0, 0, [], 35, .iload_n 3, 1, 0),
  (2, 0, 0, 4294967295, [], 36, .iconst (-1), 1, 0),
  (19, 29, 0, 0, [], 37, .if_icmp .eq 18, 3, 0),
  (1, 3, 0, 0, [], 40, .iload_n 3, 1, 0),
  (2, 0, 0, 4294966291, [], 41, .sipush (-1005), 3, 0),
  (18, 27, 0, 0, [], 44, .if_icmp .ne 9, 3, 0),
  (2, 0, 0, 4294966291, [], 47, .sipush (-1005), 3, 0),
  (6, 28, 0, 0, [], 50, .goto 4, 3, 0),
  (2, 0, 0, 0, [], 53, .iconst 0, 1, 0),
  (5, 0, 0, 0, [], 54, .ireturn, 1, 0),
  (0, 0, 0, 0, [], 55, .aload_n 0, 1, 0),
  (4, 166, 9, 0, [], 56, .invokevirtual 236, 3, 1096),
  (2, 0, 0, 1, [], 59, .iconst 1, 1, 0),
  (9, 4, 0, 0, [], 60, .istore 4, 2, 0),
  (2, 0, 0, 0, [], 62, .iconst 0, 1, 0),
  (9, 5, 0, 0, [], 63, .istore 5, 2, 0),
  (2, 0, 0, 1, [], 65, .iconst 1, 1, 0),
  (9, 6, 0, 0, [], 66, .istore 6, 2, 0),
  (1, 6, 0, 0, [], 68, .iload 6, 2, 0),
  (1, 2, 0, 0, [], 70, .iload_n 2, 1, 0),
  (25, 62, 0, 0, [], 71, .if_icmp .gt 49, 3, 0),
  (0, 0, 0, 0, [], 74, .aload_n 0, 1, 0),
  (1, 1, 0, 0, [], 75, .iload_n 1, 1, 0),
  (4, 167, 9, 1, [], 76, .invokevirtual 239, 3, 1100),
  (9, 7, 0, 0, [], 79, .istore 7, 2, 0),
  (1, 4, 0, 0, [], 81, .iload 4, 2, 0),
  (11, 55, 0, 0, [], 83, .ifCond .eq 22, 3, 0),
  (1, 6, 0, 0, [], 86, .iload 6, 2, 0),
  (2, 0, 0, 1, [], 88, .iconst 1, 1, 0),
  (19, 53, 0, 0, [], 89, .if_icmp .eq 12, 3, 0),
  (0, 0, 0, 0, [], 92, .aload_n 0, 1, 0),
  (4, 182, 9, 0, [], 93, .invokevirtual 281, 3, 1160),
  (1, 5, 0, 0, [], 96, .iload 5, 2, 0),
  (27, 55, 0, 0, [], 98, .if_icmp .le 7, 3, 0),
  (2, 0, 0, 1, [], 101, .iconst 1, 1, 0),
  (6, 56, 0, 0, [], 102, .goto 4, 3, 0),
  (2, 0, 0, 0, [], 105, .iconst 0, 1, 0),
  (9, 4, 0, 0, [], 106, .istore 4, 2, 0),
  (0, 0, 0, 0, [], 108, .aload_n 0, 1, 0),
  (4, 182, 9, 0, [], 109, .invokevirtual 281, 3, 1160),
  (9, 5, 0, 0, [], 112, .istore 5, 2, 0),
  (16, 6, 0, 1, [], 114, .iinc 6 1, 3, 0),
  (6, 37, 0, 0, [], 117, .goto (-49), 3, 0),
  (2, 0, 0, 0, [], 120, .iconst 0, 1, 0),
  (9, 6, 0, 0, [], 121, .istore 6, 2, 0),
  (1, 6, 0, 0, [], 123, .iload 6, 2, 0),
  (0, 0, 0, 0, [], 125, .aload_n 0, 1, 0),
  (3, 9, 3, 0, [], 126, .getfield 70, 3, 785),
  (13, 82, 0, 0, [], 129, .if_icmp .ge 31, 3, 0),
  (0, 0, 0, 0, [], 132, .aload_n 0, 1, 0),
  (1, 6, 0, 0, [], 133, .iload 6, 2, 0),
  (4, 137, 9, 1, [], 135, .invokevirtual 151, 3, 982),
  (11, 80, 0, 0, [], 138, .ifCond .eq 16, 3, 0),
  (0, 0, 0, 0, [], 141, .aload_n 0, 1, 0),
  (1, 6, 0, 0, [], 142, .iload 6, 2, 0),
  (1, 1, 0, 0, [], 144, .iload_n 1, 1, 0),
  (1, 2, 0, 0, [], 145, .iload_n 2, 1, 0),
  (4, 184, 9, 3, [], 146, .invokevirtual 286, 3, 1169),
  (11, 80, 0, 0, [], 149, .ifCond .eq 5, 3, 0),
  (2, 0, 0, 1, [], 152, .iconst 1, 1, 0),
  (5, 0, 0, 0, [], 153, .ireturn, 1, 0),
  (16, 6, 0, 1, [], 154, .iinc 6 1, 3, 0),
  (6, 64, 0, 0, [], 157, .goto (-34), 3, 0),
  (1, 4, 0, 0, [], 160, .iload 4, 2, 0),
  (11, 86, 0, 0, [], 162, .ifCond .eq 7, 3, 0),
  (2, 0, 0, 2, [], 165, .iconst 2, 1, 0),
  (6, 87, 0, 0, [], 166, .goto 4, 3, 0),
  (2, 0, 0, 3, [], 169, .iconst 3, 1, 0),
  (5, 0, 0, 0, [], 170, .ireturn, 1, 0)]
def m_X9_sort : am_M := (yX9_sort, cX9_sort, 8, some .int)
def t_X9_draftPlan : List ri_row := [(0, 0, 0, 0, [], 0, .aload_n 0, 1, 0),
  (3, 9, 6, 0, [], 1, .getfield 19, 3, 788),
  (2, 0, 0, 8, [], 4, .bipush 8, 2, 0),
  (1, 3, 0, 0, [], 6, .iload_n 3, 1, 0),
  (30, 7, 0, 0, [], 7, .ifCond .ge 7, 3, 0),
  (2, 0, 0, 2, [], 10, .iconst 2, 1, 0),
  (6, 8, 0, 0, [], 11, .goto 4, 3, 0),
  (2, 0, 0, 3, [], 14, .iconst 3, 1, 0),
  (22, 0, 0, 0, [], 15, .iastore, 1, 0),
  (0, 0, 0, 0, [], 16, .aload_n 0, 1, 0),
  (3, 9, 7, 0, [], 17, .getfield 22, 3, 789),
  (2, 0, 0, 480, [], 20, .sipush 480, 3, 0),
  (1, 1, 0, 0, [], 23, .iload_n 1, 1, 0),
  (22, 0, 0, 0, [], 24, .iastore, 1, 0),
  (0, 0, 0, 0, [], 25, .aload_n 0, 1, 0),
  (3, 9, 7, 0, [], 26, .getfield 22, 3, 789),
  (2, 0, 0, 481, [], 29, .sipush 481, 3, 0),
  (1, 2, 0, 0, [], 32, .iload_n 2, 1, 0),
  (22, 0, 0, 0, [], 33, .iastore, 1, 0),
  (0, 0, 0, 0, [], 34, .aload_n 0, 1, 0),
  (3, 9, 7, 0, [], 35, .getfield 22, 3, 789),
  (2, 0, 0, 482, [], 38, .sipush 482, 3, 0),
  (1, 3, 0, 0, [], 41, .iload_n 3, 1, 0),
  (22, 0, 0, 0, [], 42, .iastore, 1, 0),
  (21, 0, 0, 0, [], 43, .return_, 1, 0)]
def m_X9_draftPlan : am_M := (yX9_draftPlan, cX9_draftPlan, 4, none)
def t_X9_isDraftLike : List ri_row := [(2, 0, 0, 1, [], 0, .iconst 1, 1, 0),
  (9, 1, 0, 0, [], 1, .istore_n 1, 1, 0),
  (2, 0, 0, 0, [], 2, .iconst 0, 1, 0),
  (9, 2, 0, 0, [], 3, .istore_n 2, 1, 0),
  (1, 2, 0, 0, [], 4, .iload_n 2, 1, 0),
  (2, 0, 0, 2, [], 5, .iconst 2, 1, 0),
  (0, 0, 0, 0, [], 6, .aload_n 0, 1, 0),
  (3, 9, 0, 0, [], 7, .getfield 64, 3, 782),
  (15, 0, 0, 0, [], 10, .imul, 1, 0),
  (13, 31, 0, 0, [], 11, .if_icmp .ge 43, 3, 0),
  (1, 1, 0, 0, [], 14, .iload_n 1, 1, 0),
  (11, 31, 0, 0, [], 15, .ifCond .eq 39, 3, 0),
  (0, 0, 0, 0, [], 18, .aload_n 0, 1, 0),
  (1, 2, 0, 0, [], 19, .iload_n 2, 1, 0),
  (2, 0, 0, 1, [], 20, .iconst 1, 1, 0),
  (7, 0, 0, 0, [], 21, .iadd, 1, 0),
  (4, 147, 9, 1, [], 22, .invokevirtual 224, 3, 1048),
  (0, 0, 0, 0, [], 25, .aload_n 0, 1, 0),
  (2, 0, 0, 8, [], 26, .bipush 8, 2, 0),
  (4, 146, 9, 1, [], 28, .invokevirtual 227, 3, 1052),
  (11, 27, 0, 0, [], 31, .ifCond .eq 15, 3, 0),
  (0, 0, 0, 0, [], 34, .aload_n 0, 1, 0),
  (1, 2, 0, 0, [], 35, .iload_n 2, 1, 0),
  (4, 169, 9, 1, [], 36, .invokevirtual 245, 3, 1104),
  (11, 27, 0, 0, [], 39, .ifCond .eq 7, 3, 0),
  (2, 0, 0, 1, [], 42, .iconst 1, 1, 0),
  (6, 28, 0, 0, [], 43, .goto 4, 3, 0),
  (2, 0, 0, 0, [], 46, .iconst 0, 1, 0),
  (9, 1, 0, 0, [], 47, .istore_n 1, 1, 0),
  (16, 2, 0, 1, [], 48, .iinc 2 1, 3, 0),
  (6, 4, 0, 0, [], 51, .goto (-47), 3, 0),
  (1, 1, 0, 0, [], 54, .iload_n 1, 1, 0),
  (5, 0, 1, 0, [], 55, .ireturn, 1, 0)]
def m_X9_isDraftLike : am_M := (yX9_isDraftLike, cX9_isDraftLike, 3, some .boolean)
def t_X9_law : List ri_row := [(1, 1, 0, 0, [], 0, .iload_n 1, 1, 0),
  (24, 0, 0, 0, [], 1, .i2l, 1, 0),
  (38, 0, 0, 0, [], 2, .lconst 0, 1, 0),
  (0, 0, 0, 0, [], 3, .aload_n 0, 1, 0),
  (4, 114, 9, 0, [], 4, .invokevirtual 289, 3, 1177),
  (2, 0, 0, 1, [], 7, .iconst 1, 1, 0),
  (10, 0, 0, 0, [], 8, .isub, 1, 0),
  (24, 0, 0, 0, [], 9, .i2l, 1, 0),
  (17, 110, 0, 3, [], 10, .invokestatic 75, 3, 873),
  (11, 20, 0, 0, [], 13, .ifCond .eq 19, 3, 0),
  (1, 2, 0, 0, [], 16, .iload_n 2, 1, 0),
  (24, 0, 0, 0, [], 17, .i2l, 1, 0),
  (38, 0, 0, 0, [], 18, .lconst 0, 1, 0),
  (0, 0, 0, 0, [], 19, .aload_n 0, 1, 0),
  (4, 114, 9, 0, [], 20, .invokevirtual 289, 3, 1177),
  (2, 0, 0, 1, [], 23, .iconst 1, 1, 0),
  (10, 0, 0, 0, [], 24, .isub, 1, 0),
  (24, 0, 0, 0, [], 25, .i2l, 1, 0),
  (17, 110, 0, 3, [], 26, .invokestatic 75, 3, 873),
  (12, 22, 0, 0, [], 29, .ifCond .ne 7, 3, 0),
  (2, 0, 0, 4294966295, [], 32, .sipush (-1001), 3, 0),
  (5, 0, 0, 0, [], 35, .ireturn, 1, 0),
  (2, 0, 0, 2, [], 36, .iconst 2, 1, 0),
  (1, 1, 0, 0, [], 37, .iload_n 1, 1, 0),
  (15, 0, 0, 0, [], 38, .imul, 1, 0),
  (9, 3, 0, 0, [], 39, .istore_n 3, 1, 0),
  (2, 0, 0, 2, [], 40, .iconst 2, 1, 0),
  (1, 2, 0, 0, [], 41, .iload_n 2, 1, 0),
  (15, 0, 0, 0, [], 42, .imul, 1, 0),
  (9, 4, 0, 0, [], 43, .istore 4, 2, 0),
  (0, 0, 0, 0, [], 45, .aload_n 0, 1, 0),
  (1, 3, 0, 0, [], 46, .iload_n 3, 1, 0),
  (1, 4, 0, 0, [], 47, .iload 4, 2, 0),
  (2, 0, 0, 4294967295, [], 49, .iconst (-1), 1, 0),
  (4, 186, 9, 3, [], 50, .invokevirtual 292, 3, 1181),
  (0, 0, 0, 0, [], 53, .aload_n 0, 1, 0),
  (2, 0, 0, 8, [], 54, .bipush 8, 2, 0),
  (4, 168, 9, 1, [], 56, .invokevirtual 242, 3, 1092),
  (9, 5, 0, 0, [], 59, .istore 5, 2, 0),
  (0, 0, 0, 0, [], 61, .aload_n 0, 1, 0),
  (1, 4, 0, 0, [], 62, .iload 4, 2, 0),
  (1, 3, 0, 0, [], 64, .iload_n 3, 1, 0),
  (2, 0, 0, 4294967295, [], 65, .iconst (-1), 1, 0),
  (4, 186, 9, 3, [], 66, .invokevirtual 292, 3, 1181),
  (0, 0, 0, 0, [], 69, .aload_n 0, 1, 0),
  (4, 187, 9, 0, [], 70, .invokevirtual 296, 3, 1185),
  (11, 49, 0, 0, [], 73, .ifCond .eq 5, 3, 0),
  (2, 0, 0, 0, [], 76, .iconst 0, 1, 0),
  (5, 0, 0, 0, [], 77, .ireturn, 1, 0),
  (0, 0, 0, 0, [], 78, .aload_n 0, 1, 0),
  (1, 3, 0, 0, [], 79, .iload_n 3, 1, 0),
  (1, 4, 0, 0, [], 80, .iload 4, 2, 0),
  (1, 3, 0, 0, [], 82, .iload_n 3, 1, 0),
  (4, 186, 9, 3, [], 83, .invokevirtual 292, 3, 1181),
  (0, 0, 0, 0, [], 86, .aload_n 0, 1, 0),
  (2, 0, 0, 8, [], 87, .bipush 8, 2, 0),
  (4, 168, 9, 1, [], 89, .invokevirtual 242, 3, 1092),
  (9, 5, 0, 0, [], 92, .istore 5, 2, 0),
  (0, 0, 0, 0, [], 94, .aload_n 0, 1, 0),
  (1, 4, 0, 0, [], 95, .iload 4, 2, 0),
  (1, 3, 0, 0, [], 97, .iload_n 3, 1, 0),
  (1, 4, 0, 0, [], 98, .iload 4, 2, 0),
  (4, 186, 9, 3, [], 100, .invokevirtual 292, 3, 1181),
  (0, 0, 0, 0, [], 103, .aload_n 0, 1, 0),
  (4, 187, 9, 0, [], 104, .invokevirtual 296, 3, 1185),
  (11, 68, 0, 0, [], 107, .ifCond .eq 7, 3, 0),
  (2, 0, 0, 1, [], 110, .iconst 1, 1, 0),
  (6, 69, 0, 0, [], 111, .goto 4, 3, 0),
  (2, 0, 0, 2, [], 114, .iconst 2, 1, 0),
  (5, 0, 0, 0, [], 115, .ireturn, 1, 0)]
def m_X9_law : am_M := (yX9_law, cX9_law, 6, some .int)
def t_X9_power : List ri_row := [(2, 0, 0, 1, [], 0, .iconst 1, 1, 0),
  (9, 2, 0, 0, [], 1, .istore_n 2, 1, 0),
  (2, 0, 0, 0, [], 2, .iconst 0, 1, 0),
  (9, 3, 0, 0, [], 3, .istore_n 3, 1, 0),
  (1, 3, 0, 0, [], 4, .iload_n 3, 1, 0),
  (1, 1, 0, 0, [], 5, .iload_n 1, 1, 0),
  (13, 16, 0, 0, [], 6, .if_icmp .ge 18, 3, 0),
  (1, 2, 0, 0, [], 9, .iload_n 2, 1, 0),
  (2, 0, 0, 2, [], 10, .iconst 2, 1, 0),
  (0, 0, 0, 0, [], 11, .aload_n 0, 1, 0),
  (4, 114, 9, 0, [], 12, .invokevirtual 289, 3, 1177),
  (15, 0, 0, 0, [], 15, .imul, 1, 0),
  (15, 0, 0, 0, [], 16, .imul, 1, 0),
  (9, 2, 0, 0, [], 17, .istore_n 2, 1, 0),
  (16, 3, 0, 1, [], 18, .iinc 3 1, 3, 0),
  (6, 4, 0, 0, [], 21, .goto (-17), 3, 0),
  (1, 2, 0, 0, [], 24, .iload_n 2, 1, 0),
  (5, 0, 0, 0, [], 25, .ireturn, 1, 0)]
def m_X9_power : am_M := (yX9_power, cX9_power, 4, some .int)
def t_X9_numberPlan : List ri_row := [(0, 0, 0, 0, [], 0, .aload_n 0, 1, 0),
  (3, 9, 6, 0, [], 1, .getfield 19, 3, 788),
  (2, 0, 0, 8, [], 4, .bipush 8, 2, 0),
  (1, 1, 0, 0, [], 6, .iload_n 1, 1, 0),
  (22, 0, 0, 0, [], 7, .iastore, 1, 0),
  (1, 2, 0, 0, [], 8, .iload_n 2, 1, 0),
  (9, 3, 0, 0, [], 9, .istore_n 3, 1, 0),
  (1, 1, 0, 0, [], 10, .iload_n 1, 1, 0),
  (2, 0, 0, 1, [], 11, .iconst 1, 1, 0),
  (10, 0, 0, 0, [], 12, .isub, 1, 0),
  (9, 4, 0, 0, [], 13, .istore 4, 2, 0),
  (1, 4, 0, 0, [], 15, .iload 4, 2, 0),
  (28, 34, 0, 0, [], 17, .ifCond .lt 37, 3, 0),
  (0, 0, 0, 0, [], 20, .aload_n 0, 1, 0),
  (3, 9, 7, 0, [], 21, .getfield 22, 3, 789),
  (2, 0, 0, 480, [], 24, .sipush 480, 3, 0),
  (1, 4, 0, 0, [], 27, .iload 4, 2, 0),
  (7, 0, 0, 0, [], 29, .iadd, 1, 0),
  (1, 3, 0, 0, [], 30, .iload_n 3, 1, 0),
  (2, 0, 0, 2, [], 31, .iconst 2, 1, 0),
  (0, 0, 0, 0, [], 32, .aload_n 0, 1, 0),
  (4, 114, 9, 0, [], 33, .invokevirtual 289, 3, 1177),
  (15, 0, 0, 0, [], 36, .imul, 1, 0),
  (34, 0, 0, 0, [], 37, .irem, 1, 0),
  (22, 0, 0, 0, [], 38, .iastore, 1, 0),
  (1, 3, 0, 0, [], 39, .iload_n 3, 1, 0),
  (2, 0, 0, 2, [], 40, .iconst 2, 1, 0),
  (0, 0, 0, 0, [], 41, .aload_n 0, 1, 0),
  (4, 114, 9, 0, [], 42, .invokevirtual 289, 3, 1177),
  (15, 0, 0, 0, [], 45, .imul, 1, 0),
  (36, 0, 0, 0, [], 46, .idiv, 1, 0),
  (9, 3, 0, 0, [], 47, .istore_n 3, 1, 0),
  (16, 4, 0, 4294967295, [], 48, .iinc 4 (-1), 3, 0),
  (6, 11, 0, 0, [], 51, .goto (-36), 3, 0),
  (21, 0, 0, 0, [], 54, .return_, 1, 0)]
def m_X9_numberPlan : am_M := (yX9_numberPlan, cX9_numberPlan, 5, none)
def t_X9_carries : List ri_row := [(0, 0, 0, 0, [], 0, .aload_n 0, 1, 0),
  (1, 1, 0, 0, [], 1, .iload_n 1, 1, 0),
  (4, 148, 9, 1, [], 2, .invokevirtual 230, 3, 1076),
  (0, 0, 0, 0, [], 5, .aload_n 0, 1, 0),
  (2, 0, 0, 8, [], 6, .bipush 8, 2, 0),
  (4, 146, 9, 1, [], 8, .invokevirtual 227, 3, 1052),
  (12, 9, 0, 0, [], 11, .ifCond .ne 5, 3, 0),
  (2, 0, 0, 0, [], 14, .iconst 0, 1, 0),
  (5, 0, 1, 0, [], 15, .ireturn, 1, 0),
  (0, 0, 0, 0, [], 16, .aload_n 0, 1, 0),
  (4, 149, 9, 0, [], 17, .invokevirtual 233, 3, 1080),
  (0, 0, 0, 0, [], 20, .aload_n 0, 1, 0),
  (1, 2, 0, 0, [], 21, .iload_n 2, 1, 0),
  (4, 121, 9, 1, [], 22, .invokevirtual 106, 3, 904),
  (0, 0, 0, 0, [], 25, .aload_n 0, 1, 0),
  (4, 126, 9, 0, [], 26, .invokevirtual 109, 3, 908),
  (5, 0, 1, 0, [], 29, .ireturn, 1, 0)]
def m_X9_carries : am_M := (yX9_carries, cX9_carries, 3, some .boolean)
def t_X9_carry : List ri_row := [(0, 0, 0, 0, [], 0, .aload_n 0, 1, 0),
  (1, 1, 0, 0, [], 1, .iload_n 1, 1, 0),
  (4, 118, 9, 1, [], 2, .invokevirtual 100, 3, 896),
  (12, 8, 0, 0, [], 5, .ifCond .ne 11, 3, 0),
  (0, 0, 0, 0, [], 8, .aload_n 0, 1, 0),
  (1, 2, 0, 0, [], 9, .iload_n 2, 1, 0),
  (4, 118, 9, 1, [], 10, .invokevirtual 100, 3, 896),
  (11, 10, 0, 0, [], 13, .ifCond .eq 7, 3, 0),
  (2, 0, 0, 4294966295, [], 16, .sipush (-1001), 3, 0),
  (5, 0, 0, 0, [], 19, .ireturn, 1, 0),
  (1, 3, 0, 0, [], 20, .iload_n 3, 1, 0),
  (24, 0, 0, 0, [], 21, .i2l, 1, 0),
  (38, 0, 0, 0, [], 22, .lconst 0, 1, 0),
  (38, 0, 0, 3, [], 23, .ldc2_w 73, 3, 872),
  (17, 110, 0, 3, [], 26, .invokestatic 75, 3, 873),
  (11, 22, 0, 0, [], 29, .ifCond .eq 18, 3, 0),
  (1, 4, 0, 0, [], 32, .iload 4, 2, 0),
  (24, 0, 0, 0, [], 34, .i2l, 1, 0),
  (38, 0, 0, 18446744073709551615, [], 35, .ldc2_w 269, 3, 1155),
  (38, 0, 0, 2, [], 38, .ldc2_w 299, 3, 1193),
  (17, 110, 0, 3, [], 41, .invokestatic 75, 3, 873),
  (12, 24, 0, 0, [], 44, .ifCond .ne 7, 3, 0),
  (2, 0, 0, 4294966294, [], 47, .sipush (-1002), 3, 0),
  (5, 0, 0, 0, [], 50, .ireturn, 1, 0),
  (2, 0, 0, 0, [], 51, .iconst 0, 1, 0),
  (9, 5, 0, 0, [], 52, .istore 5, 2, 0),
  (1, 5, 0, 0, [], 54, .iload 5, 2, 0),
  (1, 3, 0, 0, [], 56, .iload_n 3, 1, 0),
  (25, 68, 0, 0, [], 57, .if_icmp .gt 84, 3, 0),
  (0, 0, 0, 0, [], 60, .aload_n 0, 1, 0),
  (1, 5, 0, 0, [], 61, .iload 5, 2, 0),
  (4, 189, 9, 1, [], 63, .invokevirtual 301, 3, 1194),
  (9, 6, 0, 0, [], 66, .istore 6, 2, 0),
  (2, 0, 0, 0, [], 68, .iconst 0, 1, 0),
  (9, 7, 0, 0, [], 69, .istore 7, 2, 0),
  (1, 7, 0, 0, [], 71, .iload 7, 2, 0),
  (1, 6, 0, 0, [], 73, .iload 6, 2, 0),
  (13, 66, 0, 0, [], 75, .if_icmp .ge 60, 3, 0),
  (0, 0, 0, 0, [], 78, .aload_n 0, 1, 0),
  (1, 5, 0, 0, [], 79, .iload 5, 2, 0),
  (1, 7, 0, 0, [], 81, .iload 7, 2, 0),
  (4, 190, 9, 2, [], 83, .invokevirtual 304, 3, 1198),
  (0, 0, 0, 0, [], 86, .aload_n 0, 1, 0),
  (1, 1, 0, 0, [], 87, .iload_n 1, 1, 0),
  (1, 2, 0, 0, [], 88, .iload_n 2, 1, 0),
  (4, 191, 9, 2, [], 89, .invokevirtual 308, 3, 1202),
  (11, 64, 0, 0, [], 92, .ifCond .eq 37, 3, 0),
  (1, 4, 0, 0, [], 95, .iload 4, 2, 0),
  (2, 0, 0, 4294967295, [], 97, .iconst (-1), 1, 0),
  (18, 52, 0, 0, [], 98, .if_icmp .ne 8, 3, 0),
  (1, 5, 0, 0, [], 101, .iload 5, 2, 0),
  (6, 63, 0, 0, [], 103, .goto 25, 3, 0),
  (1, 4, 0, 0, [], 106, .iload 4, 2, 0),
  (1, 5, 0, 0, [], 108, .iload 5, 2, 0),
  (13, 62, 0, 0, [], 110, .if_icmp .ge 17, 3, 0),
  (0, 0, 0, 0, [], 113, .aload_n 0, 1, 0),
  (3, 9, 7, 0, [], 114, .getfield 22, 3, 789),
  (2, 0, 0, 480, [], 117, .sipush 480, 3, 0),
  (1, 4, 0, 0, [], 120, .iload 4, 2, 0),
  (7, 0, 0, 0, [], 122, .iadd, 1, 0),
  (8, 0, 0, 0, [], 123, .iaload, 1, 0),
  (6, 63, 0, 0, [], 124, .goto 4, 3, 0),
  (2, 0, 0, 4294967295, [], 127, .iconst (-1), 1, 0),
  (5, 0, 0, 0, [], 128, .ireturn, 1, 0),
  (16, 7, 0, 1, [], 129, .iinc 7 1, 3, 0),
  (6, 35, 0, 0, [], 132, .goto (-61), 3, 0),
  (16, 5, 0, 1, [], 135, .iinc 5 1, 3, 0),
  (6, 26, 0, 0, [], 138, .goto (-84), 3, 0),
  (2, 0, 0, 4294967295, [], 141, .iconst (-1), 1, 0),
  (5, 0, 0, 0, [], 142, .ireturn, 1, 0)]
def m_X9_carry : am_M := (yX9_carry, cX9_carry, 8, some .int)
def t_X9_fewest : List ri_row := [(0, 0, 0, 0, [], 0, .aload_n 0, 1, 0),
  (1, 1, 0, 0, [], 1, .iload_n 1, 1, 0),
  (4, 150, 9, 1, [], 2, .invokevirtual 218, 3, 997),
  (11, 6, 0, 0, [], 5, .ifCond .eq 7, 3, 0),
  (2, 0, 0, 4294966295, [], 8, .sipush (-1001), 3, 0),
  (5, 0, 0, 0, [], 11, .ireturn, 1, 0),
  (1, 2, 0, 0, [], 12, .iload_n 2, 1, 0),
  (24, 0, 0, 0, [], 13, .i2l, 1, 0),
  (38, 0, 0, 0, [], 14, .lconst 0, 1, 0),
  (38, 0, 0, 3, [], 15, .ldc2_w 73, 3, 872),
  (17, 110, 0, 3, [], 18, .invokestatic 75, 3, 873),
  (11, 18, 0, 0, [], 21, .ifCond .eq 17, 3, 0),
  (1, 3, 0, 0, [], 24, .iload_n 3, 1, 0),
  (24, 0, 0, 0, [], 25, .i2l, 1, 0),
  (38, 0, 0, 18446744073709551615, [], 26, .ldc2_w 269, 3, 1155),
  (38, 0, 0, 2, [], 29, .ldc2_w 299, 3, 1193),
  (17, 110, 0, 3, [], 32, .invokestatic 75, 3, 873),
  (12, 20, 0, 0, [], 35, .ifCond .ne 7, 3, 0),
  (2, 0, 0, 4294966294, [], 38, .sipush (-1002), 3, 0),
  (5, 0, 0, 0, [], 41, .ireturn, 1, 0),
  (0, 0, 0, 0, [], 42, .aload_n 0, 1, 0),
  (1, 1, 0, 0, [], 43, .iload_n 1, 1, 0),
  (4, 168, 9, 1, [], 44, .invokevirtual 242, 3, 1092),
  (12, 26, 0, 0, [], 47, .ifCond .ne 7, 3, 0),
  (2, 0, 0, 4294966291, [], 50, .sipush (-1005), 3, 0),
  (5, 0, 0, 0, [], 53, .ireturn, 1, 0),
  (2, 0, 0, 0, [], 54, .iconst 0, 1, 0),
  (9, 4, 0, 0, [], 55, .istore 4, 2, 0),
  (1, 4, 0, 0, [], 57, .iload 4, 2, 0),
  (1, 2, 0, 0, [], 59, .iload_n 2, 1, 0),
  (25, 68, 0, 0, [], 60, .if_icmp .gt 79, 3, 0),
  (0, 0, 0, 0, [], 63, .aload_n 0, 1, 0),
  (1, 4, 0, 0, [], 64, .iload 4, 2, 0),
  (4, 189, 9, 1, [], 66, .invokevirtual 301, 3, 1194),
  (9, 5, 0, 0, [], 69, .istore 5, 2, 0),
  (2, 0, 0, 0, [], 71, .iconst 0, 1, 0),
  (9, 6, 0, 0, [], 72, .istore 6, 2, 0),
  (1, 6, 0, 0, [], 74, .iload 6, 2, 0),
  (1, 5, 0, 0, [], 76, .iload 5, 2, 0),
  (13, 66, 0, 0, [], 78, .if_icmp .ge 55, 3, 0),
  (0, 0, 0, 0, [], 81, .aload_n 0, 1, 0),
  (1, 4, 0, 0, [], 82, .iload 4, 2, 0),
  (1, 6, 0, 0, [], 84, .iload 6, 2, 0),
  (4, 190, 9, 2, [], 86, .invokevirtual 304, 3, 1198),
  (0, 0, 0, 0, [], 89, .aload_n 0, 1, 0),
  (4, 187, 9, 0, [], 90, .invokevirtual 296, 3, 1185),
  (11, 64, 0, 0, [], 93, .ifCond .eq 34, 3, 0),
  (1, 3, 0, 0, [], 96, .iload_n 3, 1, 0),
  (2, 0, 0, 4294967295, [], 97, .iconst (-1), 1, 0),
  (18, 52, 0, 0, [], 98, .if_icmp .ne 8, 3, 0),
  (1, 4, 0, 0, [], 101, .iload 4, 2, 0),
  (6, 63, 0, 0, [], 103, .goto 23, 3, 0),
  (1, 3, 0, 0, [], 106, .iload_n 3, 1, 0),
  (1, 4, 0, 0, [], 107, .iload 4, 2, 0),
  (13, 62, 0, 0, [], 109, .if_icmp .ge 16, 3, 0),
  (0, 0, 0, 0, [], 112, .aload_n 0, 1, 0),
  (3, 9, 7, 0, [], 113, .getfield 22, 3, 789),
  (2, 0, 0, 480, [], 116, .sipush 480, 3, 0),
  (1, 3, 0, 0, [], 119, .iload_n 3, 1, 0),
  (7, 0, 0, 0, [], 120, .iadd, 1, 0),
  (8, 0, 0, 0, [], 121, .iaload, 1, 0),
  (6, 63, 0, 0, [], 122, .goto 4, 3, 0),
  (2, 0, 0, 4294967295, [], 125, .iconst (-1), 1, 0),
  (5, 0, 0, 0, [], 126, .ireturn, 1, 0),
  (16, 6, 0, 1, [], 127, .iinc 6 1, 3, 0),
  (6, 37, 0, 0, [], 130, .goto (-56), 3, 0),
  (16, 4, 0, 1, [], 133, .iinc 4 1, 3, 0),
  (6, 28, 0, 0, [], 136, .goto (-79), 3, 0),
  (2, 0, 0, 4294967295, [], 139, .iconst (-1), 1, 0),
  (5, 0, 0, 0, [], 140, .ireturn, 1, 0)]
def m_X9_fewest : am_M := (yX9_fewest, cX9_fewest, 7, some .int)
def t_X9_count : List ri_row := [(1, 1, 0, 0, [], 0, .iload_n 1, 1, 0),
  (57, 17, 0, 0, [2, 5, 8, 11, 14], 1, .tableswitch 60 0 4 #[35, 40, 45, 50, 55], 35, 0),
  (0, 0, 0, 0, [], 36, .aload_n 0, 1, 0),
  (3, 9, 0, 0, [], 37, .getfield 64, 3, 782),
  (5, 0, 0, 0, [], 40, .ireturn, 1, 0),
  (0, 0, 0, 0, [], 41, .aload_n 0, 1, 0),
  (3, 9, 3, 0, [], 42, .getfield 70, 3, 785),
  (5, 0, 0, 0, [], 45, .ireturn, 1, 0),
  (0, 0, 0, 0, [], 46, .aload_n 0, 1, 0),
  (3, 9, 1, 0, [], 47, .getfield 67, 3, 783),
  (5, 0, 0, 0, [], 50, .ireturn, 1, 0),
  (0, 0, 0, 0, [], 51, .aload_n 0, 1, 0),
  (4, 114, 9, 0, [], 52, .invokevirtual 289, 3, 1177),
  (5, 0, 0, 0, [], 55, .ireturn, 1, 0),
  (0, 0, 0, 0, [], 56, .aload_n 0, 1, 0),
  (3, 9, 17, 0, [], 57, .getfield 181, 3, 799),
  (5, 0, 0, 0, [], 60, .ireturn, 1, 0),
  (2, 0, 0, 4294966294, [], 61, .sipush (-1002), 3, 0),
  (5, 0, 0, 0, [], 64, .ireturn, 1, 0)]
def m_X9_count : am_M := (yX9_count, cX9_count, 2, some .int)
def t_J6_bitCount_0f7a4 : List ri_row := [(1, 0, 0, 0, [], 0, .iload_n 0, 1, 0),
  (1, 0, 0, 0, [], 1, .iload_n 0, 1, 0),
  (2, 0, 0, 1, [], 2, .iconst 1, 1, 0),
  (47, 0, 0, 0, [], 3, .iushr, 1, 0),
  (2, 0, 0, 1431655765, [], 4, .ldc_w 265, 3, 690),
  (33, 0, 0, 0, [], 7, .iand, 1, 0),
  (10, 0, 0, 0, [], 8, .isub, 1, 0),
  (9, 0, 0, 0, [], 9, .istore_n 0, 1, 0),
  (1, 0, 0, 0, [], 10, .iload_n 0, 1, 0),
  (2, 0, 0, 858993459, [], 11, .ldc_w 266, 3, 691),
  (33, 0, 0, 0, [], 14, .iand, 1, 0),
  (1, 0, 0, 0, [], 15, .iload_n 0, 1, 0),
  (2, 0, 0, 2, [], 16, .iconst 2, 1, 0),
  (47, 0, 0, 0, [], 17, .iushr, 1, 0),
  (2, 0, 0, 858993459, [], 18, .ldc_w 266, 3, 691),
  (33, 0, 0, 0, [], 21, .iand, 1, 0),
  (7, 0, 0, 0, [], 22, .iadd, 1, 0),
  (9, 0, 0, 0, [], 23, .istore_n 0, 1, 0),
  (1, 0, 0, 0, [], 24, .iload_n 0, 1, 0),
  (1, 0, 0, 0, [], 25, .iload_n 0, 1, 0),
  (2, 0, 0, 4, [], 26, .iconst 4, 1, 0),
  (47, 0, 0, 0, [], 27, .iushr, 1, 0),
  (7, 0, 0, 0, [], 28, .iadd, 1, 0),
  (2, 0, 0, 252645135, [], 29, .ldc_w 267, 3, 692),
  (33, 0, 0, 0, [], 32, .iand, 1, 0),
  (9, 0, 0, 0, [], 33, .istore_n 0, 1, 0),
  (1, 0, 0, 0, [], 34, .iload_n 0, 1, 0),
  (1, 0, 0, 0, [], 35, .iload_n 0, 1, 0),
  (2, 0, 0, 8, [], 36, .bipush 8, 2, 0),
  (47, 0, 0, 0, [], 38, .iushr, 1, 0),
  (7, 0, 0, 0, [], 39, .iadd, 1, 0),
  (9, 0, 0, 0, [], 40, .istore_n 0, 1, 0),
  (1, 0, 0, 0, [], 41, .iload_n 0, 1, 0),
  (1, 0, 0, 0, [], 42, .iload_n 0, 1, 0),
  (2, 0, 0, 16, [], 43, .bipush 16, 2, 0),
  (47, 0, 0, 0, [], 45, .iushr, 1, 0),
  (7, 0, 0, 0, [], 46, .iadd, 1, 0),
  (9, 0, 0, 0, [], 47, .istore_n 0, 1, 0),
  (1, 0, 0, 0, [], 48, .iload_n 0, 1, 0),
  (2, 0, 0, 63, [], 49, .bipush 63, 2, 0),
  (33, 0, 0, 0, [], 51, .iand, 1, 0),
  (5, 0, 0, 0, [], 52, .ireturn, 1, 0)]
def m_J6_bitCount_0f7a4 : am_M := (yJ6_bitCount_0f7a4, cJ6_bitCount_0f7a4, 1, some .int)
def ri_m0 : List ri_mi := [(m_X0_init, 1, 2, t_X0_init), (m_X0_begin, 1, 1, t_X0_begin), (m_X0_doPlan, 1, 1, t_X0_doPlan), (m_X0_lettersTogether, 0, 1, t_X0_lettersTogether), (m_X0_fullTurns, 1, 1, t_X0_fullTurns), (m_X0_areTurns, 2, 1, t_X0_areTurns), (m_X0_pushRim, 2, 1, t_X0_pushRim), (m_X0_rimLetter, 1, 0, t_X0_rimLetter), (m_X0_cornerSum, 1, 1, t_X0_cornerSum), (m_X0_corner, 4, 0, t_X0_corner), (m_X1_init, 0, 2, t_X1_init), (m_X1_between, 2, 1, t_X1_between), (m_X1_crossings, 3, 0, t_X1_crossings), (m_X1_cross, 4, 0, t_X1_cross)]
def ri_m1 : List ri_mi := [(m_X1_changeSides, 4, 0, t_X1_changeSides), (m_X1_goRound, 3, 0, t_X1_goRound), (m_X1_stepsRound, 2, 0, t_X1_stepsRound), (m_X2_init, 0, 2, t_X2_init), (m_X2_add, 1, 1, t_X2_add), (m_X2_addAll, 1, 1, t_X2_addAll), (m_X2_copy, 1, 1, t_X2_copy), (m_X2_becomeReversed, 1, 1, t_X2_becomeReversed), (m_X2_codeOrSize, 1, 1, t_X2_codeOrSize), (m_X3_init, 0, 2, t_X3_init), (m_X3_become, 2, 1, t_X3_become), (m_X3_isSimple, 0, 1, t_X3_isSimple), (m_X4_init, 1, 2, t_X4_init), (m_X4_push, 1, 1, t_X4_push)]
def ri_m2 : List ri_mi := [(m_X4_becomeLetter, 1, 1, t_X4_becomeLetter), (m_X4_copy, 1, 1, t_X4_copy), (m_X4_becomeBack, 1, 1, t_X4_becomeBack), (m_X4_looseEnds, 0, 1, t_X4_looseEnds), (m_X4_closedSize, 0, 1, t_X4_closedSize), (m_X4_close, 0, 1, t_X4_close), (m_X4_isLike, 1, 1, t_X4_isLike), (m_X4_isOneWith, 1, 1, t_X4_isOneWith), (m_X4_runsAlong, 3, 1, t_X4_runsAlong), (m_X4_runsAgainst, 3, 1, t_X4_runsAgainst), (m_X4_isPower, 0, 1, t_X4_isPower), (m_X4_repeats, 1, 1, t_X4_repeats), (m_X4_balanceOf, 1, 1, t_X4_balanceOf), (m_X5_init, 2, 2, t_X5_init)]
def ri_m3 : List ri_mi := [(m_X5_forCarrying, 4, 1, t_X5_forCarrying), (m_X5_measureAhead, 0, 1, t_X5_measureAhead), (m_X5_tryTwists, 4, 1, t_X5_tryTwists), (m_X5_spell, 3, 1, t_X5_spell), (m_X5_forImages, 2, 1, t_X5_forImages), (m_X5_doesAsImages, 1, 1, t_X5_doesAsImages), (m_X6_init, 0, 2, t_X6_init), (m_X6_add, 1, 1, t_X6_add), (m_X6_understand, 1, 1, t_X6_understand), (m_X6_take, 2, 1, t_X6_take), (m_X6_isFigure, 1, 0, t_X6_isFigure), (m_X6_takeHandle, 1, 1, t_X6_takeHandle), (m_X6_takeTimes, 1, 1, t_X6_takeTimes), (m_X6_takeItem, 2, 1, t_X6_takeItem)]
def ri_m4 : List ri_mi := [(m_X7_init, 0, 2, t_X7_init), (m_X7_layOut, 1, 1, t_X7_layOut), (m_X7_layWord, 3, 1, t_X7_layWord), (m_X7_spellFirst, 3, 1, t_X7_spellFirst), (m_X7_spellSecond, 3, 1, t_X7_spellSecond), (m_X7_spellThird, 3, 1, t_X7_spellThird), (m_X7_spellBetween, 2, 1, t_X7_spellBetween), (m_X7_slotOf, 2, 0, t_X7_slotOf), (m_X7_keepWord, 3, 1, t_X7_keepWord), (m_X7_doTwist, 2, 1, t_X7_doTwist), (m_X7_doPlan, 2, 1, t_X7_doPlan), (m_X8_init, 0, 2, t_X8_init), (m_X8_skin, 1, 1, t_X8_skin), (m_X8_letter, 1, 1, t_X8_letter)]
def ri_m5 : List ri_mi := [(m_X8_ring, 0, 1, t_X8_ring), (m_X8_told, 2, 1, t_X8_told), (m_X8_at, 2, 1, t_X8_at), (m_X8_meets, 2, 1, t_X8_meets), (m_X8_one, 2, 1, t_X8_one), (m_X8_heap, 1, 1, t_X8_heap), (m_X8_drop, 0, 1, t_X8_drop), (m_X8_count, 1, 1, t_X8_count), (m_X8_feed, 2, 1, t_X8_feed), (m_X8_read, 1, 1, t_X8_read), (m_X8_fault, 0, 1, t_X8_fault), (m_X8_twist, 2, 1, t_X8_twist), (m_X8_chain, 3, 1, t_X8_chain), (m_X8_turn, 2, 1, t_X8_turn)]
def ri_m6 : List ri_mi := [(m_X8_image, 3, 1, t_X8_image), (m_X8_carried, 3, 1, t_X8_carried), (m_X8_meetsThen, 3, 1, t_X8_meetsThen), (m_X8_same, 2, 1, t_X8_same), (m_X8_turns, 1, 1, t_X8_turns), (m_X8_order, 2, 1, t_X8_order), (m_X8_table, 3, 1, t_X8_table), (m_X8_character, 2, 1, t_X8_character), (m_X8_length, 2, 1, t_X8_length), (m_X8_sort, 2, 1, t_X8_sort), (m_X8_law, 2, 1, t_X8_law), (m_X8_carry, 4, 1, t_X8_carry), (m_X8_fewest, 3, 1, t_X8_fewest), (m_X8_layOut, 1, 1, t_X8_layOut)]
def ri_m7 : List ri_mi := [(m_X8_isRing, 1, 1, t_X8_isRing), (m_X8_isPlan, 1, 0, t_X8_isPlan), (m_X8_isTwist, 1, 1, t_X8_isTwist), (m_X8_isLetter, 1, 1, t_X8_isLetter), (m_X8_isSearch, 2, 0, t_X8_isSearch), (m_X8_oneIf, 1, 0, t_X8_oneIf), (m_X8_firstBarring, 2, 1, t_X8_firstBarring), (m_X8_carryToWork, 2, 1, t_X8_carryToWork), (m_X8_firstUnlike, 2, 1, t_X8_firstUnlike), (m_X8_keepsSomeRing, 2, 1, t_X8_keepsSomeRing), (m_X8_keepsRing, 3, 1, t_X8_keepsRing), (m_X9_init, 0, 2, t_X9_init), (m_X9_in, 3, 0, t_X9_in), (m_X9_bit, 1, 0, t_X9_bit)]
def ri_m8 : List ri_mi := [(m_X9_lay, 1, 1, t_X9_lay), (m_X9_skin, 1, 1, t_X9_skin), (m_X9_twists, 0, 1, t_X9_twists), (m_X9_isLetter, 1, 1, t_X9_isLetter), (m_X9_letter, 1, 1, t_X9_letter), (m_X9_ring, 0, 1, t_X9_ring), (m_X9_noRing, 1, 1, t_X9_noRing), (m_X9_drop, 0, 1, t_X9_drop), (m_X9_takeU, 1, 1, t_X9_takeU), (m_X9_takeV, 1, 1, t_X9_takeV), (m_X9_turnV, 0, 1, t_X9_turnV), (m_X9_ofU, 1, 1, t_X9_ofU), (m_X9_ofV, 1, 1, t_X9_ofV), (m_X9_isTurned, 0, 1, t_X9_isTurned)]
def ri_m9 : List ri_mi := [(m_X9_areOne, 0, 1, t_X9_areOne), (m_X9_one, 2, 1, t_X9_one), (m_X9_isPower, 1, 1, t_X9_isPower), (m_X9_placeOf, 1, 0, t_X9_placeOf), (m_X9_farFrom, 2, 1, t_X9_farFrom), (m_X9_goRound, 3, 1, t_X9_goRound), (m_X9_meetAtOnce, 4, 1, t_X9_meetAtOnce), (m_X9_meetAlong, 2, 1, t_X9_meetAlong), (m_X9_countMeetings, 1, 1, t_X9_countMeetings), (m_X9_meetings, 0, 1, t_X9_meetings), (m_X9_meetingsOf, 2, 1, t_X9_meetingsOf), (m_X9_isSimple, 1, 1, t_X9_isSimple), (m_X9_meets, 2, 1, t_X9_meets), (m_X9_told, 2, 1, t_X9_told)]
def ri_m10 : List ri_mi := [(m_X9_at, 2, 1, t_X9_at), (m_X9_heap, 1, 1, t_X9_heap), (m_X9_put, 1, 1, t_X9_put), (m_X9_putC, 2, 1, t_X9_putC), (m_X9_putImage, 4, 1, t_X9_putImage), (m_X9_twistRow, 1, 1, t_X9_twistRow), (m_X9_imageRow, 1, 1, t_X9_imageRow), (m_X9_takeLetter, 1, 1, t_X9_takeLetter), (m_X9_takeRing, 1, 1, t_X9_takeRing), (m_X9_closeToU, 0, 1, t_X9_closeToU), (m_X9_noPlan, 1, 1, t_X9_noPlan), (m_X9_feed, 2, 1, t_X9_feed), (m_X9_look, 0, 1, t_X9_look), (m_X9_want, 3, 1, t_X9_want)]
def ri_m11 : List ri_mi := [(m_X9_takeFigure, 2, 1, t_X9_takeFigure), (m_X9_readTwist, 1, 1, t_X9_readTwist), (m_X9_closeBracket, 0, 1, t_X9_closeBracket), (m_X9_readItem, 1, 1, t_X9_readItem), (m_X9_read, 1, 1, t_X9_read), (m_X9_fault, 0, 1, t_X9_fault), (m_X9_twist, 2, 1, t_X9_twist), (m_X9_chain, 3, 1, t_X9_chain), (m_X9_turn, 2, 1, t_X9_turn), (m_X9_image, 3, 1, t_X9_image), (m_X9_carried, 3, 1, t_X9_carried), (m_X9_meetsThen, 3, 1, t_X9_meetsThen), (m_X9_startImages, 0, 1, t_X9_startImages), (m_X9_goOn, 1, 1, t_X9_goOn)]
def ri_m12 : List ri_mi := [(m_X9_findImages, 1, 1, t_X9_findImages), (m_X9_isImage, 1, 1, t_X9_isImage), (m_X9_same, 2, 1, t_X9_same), (m_X9_putRim, 1, 1, t_X9_putRim), (m_X9_isTurns, 1, 1, t_X9_isTurns), (m_X9_findTurns, 0, 1, t_X9_findTurns), (m_X9_turns, 1, 1, t_X9_turns), (m_X9_findOrder, 2, 1, t_X9_findOrder), (m_X9_order, 2, 1, t_X9_order), (m_X9_tableOf, 2, 1, t_X9_tableOf), (m_X9_table, 3, 1, t_X9_table), (m_X9_determinant, 1, 1, t_X9_determinant), (m_X9_onesOf, 1, 0, t_X9_onesOf), (m_X9_character, 2, 1, t_X9_character)]
def ri_m13 : List ri_mi := [(m_X9_lengthNow, 0, 1, t_X9_lengthNow), (m_X9_length, 2, 1, t_X9_length), (m_X9_comesBack, 3, 1, t_X9_comesBack), (m_X9_sort, 2, 1, t_X9_sort), (m_X9_draftPlan, 3, 1, t_X9_draftPlan), (m_X9_isDraftLike, 0, 1, t_X9_isDraftLike), (m_X9_law, 2, 1, t_X9_law), (m_X9_power, 1, 1, t_X9_power), (m_X9_numberPlan, 2, 1, t_X9_numberPlan), (m_X9_carries, 2, 1, t_X9_carries), (m_X9_carry, 4, 1, t_X9_carry), (m_X9_fewest, 3, 1, t_X9_fewest), (m_X9_count, 1, 1, t_X9_count), (m_J6_bitCount_0f7a4, 1, 0, t_J6_bitCount_0f7a4)]
def ri_ms : List (List ri_mi) := [ri_m0, ri_m1, ri_m2, ri_m3, ri_m4, ri_m5, ri_m6, ri_m7, ri_m8, ri_m9, ri_m10, ri_m11, ri_m12, ri_m13]
def ri_m0d : ri_mi := (m_X0_init, 1, 2, t_X0_init)
def ri_M (j : Nat) : ri_mi := ri_nthD ri_m0d (ri_nthD [] ri_ms (j / 14)) (j % 14)
end
end
section
noncomputable section
def ri_tok (y : am_M) (tb : List ri_row) : Bool := (tb.zipIdx.all (fun q => ri_rok y (ri_pcs tb) q.2 q.1 && ri_rokI ri_M y q.1)) && decide ((ri_pcs tb)[0]? = some 0)
theorem ri_tok_use {y : am_M} {tb : List ri_row} (h : ri_tok y tb = true) : (∀ i r, tb[i]? = some r → ri_rok y (ri_pcs tb) i r = true ∧ ri_rokI ri_M y r = true) ∧ (ri_pcs tb)[0]? = some 0 := by
  unfold ri_tok at h
  rw [Bool.and_eq_true, decide_eq_true_eq, List.all_eq_true] at h
  refine ⟨fun i r hr => ?_, h.2⟩
  have h1 := h.1 (r, i) (by
    rw [List.mem_zipIdx_iff_getElem?]
    exact hr)
  rwa [Bool.and_eq_true] at h1
def ri_mok (y : am_M) (n kd p1 p2 p3 p4 : Nat) : Bool := plainName y.1.cls && (ri_lw p1 (.code y.1 y.2.1 y.2.2.1 y.2.2.2) && (ri_lw p2 (.initialized y.1.cls) && (decide (y.1.cls ≠ "java/lang/invoke/MethodHandle" ∧ y.1.cls ≠ "java/lang/invoke/VarHandle" ∧ (parseMethodDescriptor y.1.desc).map (fun d => d.parameters.length) = some n) && (decide (y.2.2.1 ≤ 60) && (match kd with
  | 0 => ri_lw p3 (.static y.1)
  | 1 => ri_lw p3 (.instanceMethod y.1) && ri_lw p4 (.selects y.1.cls y.1 y.1)
  | 2 => ri_lw p3 (.instanceMethod y.1) && (decide (y.1.name = "<init>") && decide (y.2.2.2 = none))
  | _ => false)))))
def ri_okq (q : ri_mi) : Prop := am_okM q.1 q.2.1 ∧ (q.2.2.1 = 0 → Cond.static q.1.1 ∈ am_tbl) ∧ (q.2.2.1 = 1 → Cond.instanceMethod q.1.1 ∈ am_tbl ∧ Cond.selects q.1.1.cls q.1.1 q.1.1 ∈ am_tbl) ∧ (q.2.2.1 = 2 → Cond.instanceMethod q.1.1 ∈ am_tbl ∧ q.1.1.name = "<init>" ∧ q.1.2.2.2 = none) ∧
  (∀ i r, q.2.2.2[i]? = some r → ri_rok q.1 (ri_pcs q.2.2.2) i r = true ∧ ri_rokI ri_M q.1 r = true) ∧ (ri_pcs q.2.2.2)[0]? = some 0
theorem ri_okq_of {y : am_M} {n kd : Nat} {tb : List ri_row} (p1 p2 p3 p4 : Nat) (h1 : ri_mok y n kd p1 p2 p3 p4 = true) (h2 : ri_tok y tb = true) : ri_okq (y, n, kd, tb) := by
  unfold ri_mok at h1
  simp only [Bool.and_eq_true, decide_eq_true_eq] at h1
  obtain ⟨a1, a2, a3, a4, a5, a6⟩ := h1
  refine ⟨⟨a1, ri_lw_in a2, ri_lw_in a3, a4, a5⟩, fun e => ?_, fun e => ?_, fun e => ?_, ri_tok_use h2⟩
  · have e : kd = 0 := e
    subst e
    exact ri_lw_in a6
  · have e : kd = 1 := e
    subst e
    simp only [Bool.and_eq_true] at a6
    exact ⟨ri_lw_in a6.1, ri_lw_in a6.2⟩
  · have e : kd = 2 := e
    subst e
    simp only [Bool.and_eq_true, decide_eq_true_eq] at a6
    exact ⟨ri_lw_in a6.1, a6.2.1, a6.2.2⟩
set_option maxRecDepth 100000 in
theorem o_X0_init : ri_okq (m_X0_init, 1, 2, t_X0_init) := ri_okq_of 173 87 172 0 (by decide +kernel) (by decide +kernel)
set_option maxRecDepth 100000 in
theorem o_X0_begin : ri_okq (m_X0_begin, 1, 1, t_X0_begin) := ri_okq_of 629 87 627 628 (by decide +kernel) (by decide +kernel)
set_option maxRecDepth 100000 in
theorem o_X0_doPlan : ri_okq (m_X0_doPlan, 1, 1, t_X0_doPlan) := ri_okq_of 634 87 632 633 (by decide +kernel) (by decide +kernel)
set_option maxRecDepth 100000 in
theorem o_X0_lettersTogether : ri_okq (m_X0_lettersTogether, 0, 1, t_X0_lettersTogether) := ri_okq_of 704 87 702 703 (by decide +kernel) (by decide +kernel)
set_option maxRecDepth 100000 in
theorem o_X0_fullTurns : ri_okq (m_X0_fullTurns, 1, 1, t_X0_fullTurns) := ri_okq_of 647 87 645 646 (by decide +kernel) (by decide +kernel)
set_option maxRecDepth 100000 in
theorem o_X0_areTurns : ri_okq (m_X0_areTurns, 2, 1, t_X0_areTurns) := ri_okq_of 651 87 650 20 (by decide +kernel) (by decide +kernel)
set_option maxRecDepth 100000 in
theorem o_X0_pushRim : ri_okq (m_X0_pushRim, 2, 1, t_X0_pushRim) := ri_okq_of 655 87 654 21 (by decide +kernel) (by decide +kernel)
set_option maxRecDepth 100000 in
theorem o_X0_rimLetter : ri_okq (m_X0_rimLetter, 1, 0, t_X0_rimLetter) := ri_okq_of 661 87 660 0 (by decide +kernel) (by decide +kernel)
set_option maxRecDepth 100000 in
theorem o_X0_cornerSum : ri_okq (m_X0_cornerSum, 1, 1, t_X0_cornerSum) := ri_okq_of 685 87 683 684 (by decide +kernel) (by decide +kernel)
set_option maxRecDepth 100000 in
theorem o_X0_corner : ri_okq (m_X0_corner, 4, 0, t_X0_corner) := ri_okq_of 695 87 694 0 (by decide +kernel) (by decide +kernel)
set_option maxRecDepth 100000 in
theorem o_X1_init : ri_okq (m_X1_init, 0, 2, t_X1_init) := ri_okq_of 161 86 160 0 (by decide +kernel) (by decide +kernel)
set_option maxRecDepth 100000 in
theorem o_X1_between : ri_okq (m_X1_between, 2, 1, t_X1_between) := ri_okq_of 432 86 430 431 (by decide +kernel) (by decide +kernel)
set_option maxRecDepth 100000 in
theorem o_X1_crossings : ri_okq (m_X1_crossings, 3, 0, t_X1_crossings) := ri_okq_of 436 86 435 0 (by decide +kernel) (by decide +kernel)
set_option maxRecDepth 100000 in
theorem o_X1_cross : ri_okq (m_X1_cross, 4, 0, t_X1_cross) := ri_okq_of 450 86 449 0 (by decide +kernel) (by decide +kernel)
set_option maxRecDepth 100000 in
theorem o_X1_changeSides : ri_okq (m_X1_changeSides, 4, 0, t_X1_changeSides) := ri_okq_of 439 86 438 0 (by decide +kernel) (by decide +kernel)
set_option maxRecDepth 100000 in
theorem o_X1_goRound : ri_okq (m_X1_goRound, 3, 0, t_X1_goRound) := ri_okq_of 442 86 441 0 (by decide +kernel) (by decide +kernel)
set_option maxRecDepth 100000 in
theorem o_X1_stepsRound : ri_okq (m_X1_stepsRound, 2, 0, t_X1_stepsRound) := ri_okq_of 445 86 444 0 (by decide +kernel) (by decide +kernel)
set_option maxRecDepth 100000 in
theorem o_X2_init : ri_okq (m_X2_init, 0, 2, t_X2_init) := ri_okq_of 231 90 230 0 (by decide +kernel) (by decide +kernel)
set_option maxRecDepth 100000 in
theorem o_X2_add : ri_okq (m_X2_add, 1, 1, t_X2_add) := ri_okq_of 541 90 539 540 (by decide +kernel) (by decide +kernel)
set_option maxRecDepth 100000 in
theorem o_X2_addAll : ri_okq (m_X2_addAll, 1, 1, t_X2_addAll) := ri_okq_of 574 90 572 573 (by decide +kernel) (by decide +kernel)
set_option maxRecDepth 100000 in
theorem o_X2_copy : ri_okq (m_X2_copy, 1, 1, t_X2_copy) := ri_okq_of 553 90 551 552 (by decide +kernel) (by decide +kernel)
set_option maxRecDepth 100000 in
theorem o_X2_becomeReversed : ri_okq (m_X2_becomeReversed, 1, 1, t_X2_becomeReversed) := ri_okq_of 583 90 581 582 (by decide +kernel) (by decide +kernel)
set_option maxRecDepth 100000 in
theorem o_X2_codeOrSize : ri_okq (m_X2_codeOrSize, 1, 1, t_X2_codeOrSize) := ri_okq_of 566 90 564 565 (by decide +kernel) (by decide +kernel)
set_option maxRecDepth 100000 in
theorem o_X3_init : ri_okq (m_X3_init, 0, 2, t_X3_init) := ri_okq_of 285 91 284 0 (by decide +kernel) (by decide +kernel)
set_option maxRecDepth 100000 in
theorem o_X3_become : ri_okq (m_X3_become, 2, 1, t_X3_become) := ri_okq_of 407 91 405 406 (by decide +kernel) (by decide +kernel)
set_option maxRecDepth 100000 in
theorem o_X3_isSimple : ri_okq (m_X3_isSimple, 0, 1, t_X3_isSimple) := ri_okq_of 465 91 463 464 (by decide +kernel) (by decide +kernel)
set_option maxRecDepth 100000 in
theorem o_X4_init : ri_okq (m_X4_init, 1, 2, t_X4_init) := ri_okq_of 111 83 110 0 (by decide +kernel) (by decide +kernel)
set_option maxRecDepth 100000 in
theorem o_X4_push : ri_okq (m_X4_push, 1, 1, t_X4_push) := ri_okq_of 321 83 319 320 (by decide +kernel) (by decide +kernel)
set_option maxRecDepth 100000 in
theorem o_X4_becomeLetter : ri_okq (m_X4_becomeLetter, 1, 1, t_X4_becomeLetter) := ri_okq_of 595 83 593 594 (by decide +kernel) (by decide +kernel)
set_option maxRecDepth 100000 in
theorem o_X4_copy : ri_okq (m_X4_copy, 1, 1, t_X4_copy) := ri_okq_of 411 83 409 410 (by decide +kernel) (by decide +kernel)
set_option maxRecDepth 100000 in
theorem o_X4_becomeBack : ri_okq (m_X4_becomeBack, 1, 1, t_X4_becomeBack) := ri_okq_of 337 83 335 336 (by decide +kernel) (by decide +kernel)
set_option maxRecDepth 100000 in
theorem o_X4_looseEnds : ri_okq (m_X4_looseEnds, 0, 1, t_X4_looseEnds) := ri_okq_of 420 83 419 7 (by decide +kernel) (by decide +kernel)
set_option maxRecDepth 100000 in
theorem o_X4_closedSize : ri_okq (m_X4_closedSize, 0, 1, t_X4_closedSize) := ri_okq_of 746 83 744 745 (by decide +kernel) (by decide +kernel)
set_option maxRecDepth 100000 in
theorem o_X4_close : ri_okq (m_X4_close, 0, 1, t_X4_close) := ri_okq_of 416 83 414 415 (by decide +kernel) (by decide +kernel)
set_option maxRecDepth 100000 in
theorem o_X4_isLike : ri_okq (m_X4_isLike, 1, 1, t_X4_isLike) := ri_okq_of 639 83 637 638 (by decide +kernel) (by decide +kernel)
set_option maxRecDepth 100000 in
theorem o_X4_isOneWith : ri_okq (m_X4_isOneWith, 1, 1, t_X4_isOneWith) := ri_okq_of 482 83 480 481 (by decide +kernel) (by decide +kernel)
set_option maxRecDepth 100000 in
theorem o_X4_runsAlong : ri_okq (m_X4_runsAlong, 3, 1, t_X4_runsAlong) := ri_okq_of 486 83 485 10 (by decide +kernel) (by decide +kernel)
set_option maxRecDepth 100000 in
theorem o_X4_runsAgainst : ri_okq (m_X4_runsAgainst, 3, 1, t_X4_runsAgainst) := ri_okq_of 490 83 489 11 (by decide +kernel) (by decide +kernel)
set_option maxRecDepth 100000 in
theorem o_X4_isPower : ri_okq (m_X4_isPower, 0, 1, t_X4_isPower) := ri_okq_of 424 83 422 423 (by decide +kernel) (by decide +kernel)
set_option maxRecDepth 100000 in
theorem o_X4_repeats : ri_okq (m_X4_repeats, 1, 1, t_X4_repeats) := ri_okq_of 428 83 427 8 (by decide +kernel) (by decide +kernel)
set_option maxRecDepth 100000 in
theorem o_X4_balanceOf : ri_okq (m_X4_balanceOf, 1, 1, t_X4_balanceOf) := ri_okq_of 675 83 673 674 (by decide +kernel) (by decide +kernel)
set_option maxRecDepth 100000 in
theorem o_X5_init : ri_okq (m_X5_init, 2, 2, t_X5_init) := ri_okq_of 198 88 197 0 (by decide +kernel) (by decide +kernel)
set_option maxRecDepth 100000 in
theorem o_X5_forCarrying : ri_okq (m_X5_forCarrying, 4, 1, t_X5_forCarrying) := ri_okq_of 736 88 734 735 (by decide +kernel) (by decide +kernel)
set_option maxRecDepth 100000 in
theorem o_X5_measureAhead : ri_okq (m_X5_measureAhead, 0, 1, t_X5_measureAhead) := ri_okq_of 741 88 740 25 (by decide +kernel) (by decide +kernel)
set_option maxRecDepth 100000 in
theorem o_X5_tryTwists : ri_okq (m_X5_tryTwists, 4, 1, t_X5_tryTwists) := ri_okq_of 751 88 750 26 (by decide +kernel) (by decide +kernel)
end
end
section
noncomputable section
set_option maxRecDepth 100000 in
theorem o_X5_spell : ri_okq (m_X5_spell, 3, 1, t_X5_spell) := ri_okq_of 755 88 754 27 (by decide +kernel) (by decide +kernel)
set_option maxRecDepth 100000 in
theorem o_X5_forImages : ri_okq (m_X5_forImages, 2, 1, t_X5_forImages) := ri_okq_of 764 88 762 763 (by decide +kernel) (by decide +kernel)
set_option maxRecDepth 100000 in
theorem o_X5_doesAsImages : ri_okq (m_X5_doesAsImages, 1, 1, t_X5_doesAsImages) := ri_okq_of 768 88 767 28 (by decide +kernel) (by decide +kernel)
set_option maxRecDepth 100000 in
theorem o_X6_init : ri_okq (m_X6_init, 0, 2, t_X6_init) := ri_okq_of 225 89 224 0 (by decide +kernel) (by decide +kernel)
set_option maxRecDepth 100000 in
theorem o_X6_add : ri_okq (m_X6_add, 1, 1, t_X6_add) := ri_okq_of 515 89 513 514 (by decide +kernel) (by decide +kernel)
set_option maxRecDepth 100000 in
theorem o_X6_understand : ri_okq (m_X6_understand, 1, 1, t_X6_understand) := ri_okq_of 526 89 524 525 (by decide +kernel) (by decide +kernel)
set_option maxRecDepth 100000 in
theorem o_X6_take : ri_okq (m_X6_take, 2, 1, t_X6_take) := ri_okq_of 530 89 529 13 (by decide +kernel) (by decide +kernel)
set_option maxRecDepth 100000 in
theorem o_X6_isFigure : ri_okq (m_X6_isFigure, 1, 0, t_X6_isFigure) := ri_okq_of 537 89 536 0 (by decide +kernel) (by decide +kernel)
set_option maxRecDepth 100000 in
theorem o_X6_takeHandle : ri_okq (m_X6_takeHandle, 1, 1, t_X6_takeHandle) := ri_okq_of 534 89 533 14 (by decide +kernel) (by decide +kernel)
set_option maxRecDepth 100000 in
theorem o_X6_takeTimes : ri_okq (m_X6_takeTimes, 1, 1, t_X6_takeTimes) := ri_okq_of 545 89 544 15 (by decide +kernel) (by decide +kernel)
set_option maxRecDepth 100000 in
theorem o_X6_takeItem : ri_okq (m_X6_takeItem, 2, 1, t_X6_takeItem) := ri_okq_of 549 89 548 16 (by decide +kernel) (by decide +kernel)
set_option maxRecDepth 100000 in
theorem o_X7_init : ri_okq (m_X7_init, 0, 2, t_X7_init) := ri_okq_of 135 85 134 0 (by decide +kernel) (by decide +kernel)
set_option maxRecDepth 100000 in
theorem o_X7_layOut : ri_okq (m_X7_layOut, 1, 1, t_X7_layOut) := ri_okq_of 309 85 307 308 (by decide +kernel) (by decide +kernel)
set_option maxRecDepth 100000 in
theorem o_X7_layWord : ri_okq (m_X7_layWord, 3, 1, t_X7_layWord) := ri_okq_of 313 85 312 1 (by decide +kernel) (by decide +kernel)
set_option maxRecDepth 100000 in
theorem o_X7_spellFirst : ri_okq (m_X7_spellFirst, 3, 1, t_X7_spellFirst) := ri_okq_of 317 85 316 2 (by decide +kernel) (by decide +kernel)
set_option maxRecDepth 100000 in
theorem o_X7_spellSecond : ri_okq (m_X7_spellSecond, 3, 1, t_X7_spellSecond) := ri_okq_of 325 85 324 3 (by decide +kernel) (by decide +kernel)
set_option maxRecDepth 100000 in
theorem o_X7_spellThird : ri_okq (m_X7_spellThird, 3, 1, t_X7_spellThird) := ri_okq_of 329 85 328 4 (by decide +kernel) (by decide +kernel)
set_option maxRecDepth 100000 in
theorem o_X7_spellBetween : ri_okq (m_X7_spellBetween, 2, 1, t_X7_spellBetween) := ri_okq_of 333 85 332 5 (by decide +kernel) (by decide +kernel)
set_option maxRecDepth 100000 in
theorem o_X7_slotOf : ri_okq (m_X7_slotOf, 2, 0, t_X7_slotOf) := ri_okq_of 347 85 346 0 (by decide +kernel) (by decide +kernel)
set_option maxRecDepth 100000 in
theorem o_X7_keepWord : ri_okq (m_X7_keepWord, 3, 1, t_X7_keepWord) := ri_okq_of 344 85 343 6 (by decide +kernel) (by decide +kernel)
set_option maxRecDepth 100000 in
theorem o_X7_doTwist : ri_okq (m_X7_doTwist, 2, 1, t_X7_doTwist) := ri_okq_of 603 85 601 602 (by decide +kernel) (by decide +kernel)
set_option maxRecDepth 100000 in
theorem o_X7_doPlan : ri_okq (m_X7_doPlan, 2, 1, t_X7_doPlan) := ri_okq_of 599 85 597 598 (by decide +kernel) (by decide +kernel)
set_option maxRecDepth 100000 in
theorem o_X8_init : ri_okq (m_X8_init, 0, 2, t_X8_init) := ri_okq_of 99 82 98 0 (by decide +kernel) (by decide +kernel)
set_option maxRecDepth 100000 in
theorem o_X8_skin : ri_okq (m_X8_skin, 1, 1, t_X8_skin) := ri_okq_of 394 82 392 393 (by decide +kernel) (by decide +kernel)
set_option maxRecDepth 100000 in
theorem o_X8_letter : ri_okq (m_X8_letter, 1, 1, t_X8_letter) := ri_okq_of 398 82 396 397 (by decide +kernel) (by decide +kernel)
set_option maxRecDepth 100000 in
theorem o_X8_ring : ri_okq (m_X8_ring, 0, 1, t_X8_ring) := ri_okq_of 403 82 401 402 (by decide +kernel) (by decide +kernel)
set_option maxRecDepth 100000 in
theorem o_X8_told : ri_okq (m_X8_told, 2, 1, t_X8_told) := ri_okq_of 454 82 452 453 (by decide +kernel) (by decide +kernel)
set_option maxRecDepth 100000 in
theorem o_X8_at : ri_okq (m_X8_at, 2, 1, t_X8_at) := ri_okq_of 469 82 467 468 (by decide +kernel) (by decide +kernel)
set_option maxRecDepth 100000 in
theorem o_X8_meets : ri_okq (m_X8_meets, 2, 1, t_X8_meets) := ri_okq_of 473 82 471 472 (by decide +kernel) (by decide +kernel)
set_option maxRecDepth 100000 in
theorem o_X8_one : ri_okq (m_X8_one, 2, 1, t_X8_one) := ri_okq_of 478 82 476 477 (by decide +kernel) (by decide +kernel)
set_option maxRecDepth 100000 in
theorem o_X8_heap : ri_okq (m_X8_heap, 1, 1, t_X8_heap) := ri_okq_of 494 82 492 493 (by decide +kernel) (by decide +kernel)
set_option maxRecDepth 100000 in
theorem o_X8_drop : ri_okq (m_X8_drop, 0, 1, t_X8_drop) := ri_okq_of 502 82 500 501 (by decide +kernel) (by decide +kernel)
set_option maxRecDepth 100000 in
theorem o_X8_count : ri_okq (m_X8_count, 1, 1, t_X8_count) := ri_okq_of 506 82 504 505 (by decide +kernel) (by decide +kernel)
set_option maxRecDepth 100000 in
theorem o_X8_feed : ri_okq (m_X8_feed, 2, 1, t_X8_feed) := ri_okq_of 510 82 508 509 (by decide +kernel) (by decide +kernel)
end
end
section
noncomputable section
set_option maxRecDepth 100000 in
theorem o_X8_read : ri_okq (m_X8_read, 1, 1, t_X8_read) := ri_okq_of 519 82 517 518 (by decide +kernel) (by decide +kernel)
set_option maxRecDepth 100000 in
theorem o_X8_fault : ri_okq (m_X8_fault, 0, 1, t_X8_fault) := ri_okq_of 558 82 556 557 (by decide +kernel) (by decide +kernel)
set_option maxRecDepth 100000 in
theorem o_X8_twist : ri_okq (m_X8_twist, 2, 1, t_X8_twist) := ri_okq_of 562 82 560 561 (by decide +kernel) (by decide +kernel)
set_option maxRecDepth 100000 in
theorem o_X8_chain : ri_okq (m_X8_chain, 3, 1, t_X8_chain) := ri_okq_of 570 82 568 569 (by decide +kernel) (by decide +kernel)
set_option maxRecDepth 100000 in
theorem o_X8_turn : ri_okq (m_X8_turn, 2, 1, t_X8_turn) := ri_okq_of 579 82 577 578 (by decide +kernel) (by decide +kernel)
set_option maxRecDepth 100000 in
theorem o_X8_image : ri_okq (m_X8_image, 3, 1, t_X8_image) := ri_okq_of 587 82 585 586 (by decide +kernel) (by decide +kernel)
set_option maxRecDepth 100000 in
theorem o_X8_carried : ri_okq (m_X8_carried, 3, 1, t_X8_carried) := ri_okq_of 607 82 605 606 (by decide +kernel) (by decide +kernel)
set_option maxRecDepth 100000 in
theorem o_X8_meetsThen : ri_okq (m_X8_meetsThen, 3, 1, t_X8_meetsThen) := ri_okq_of 617 82 615 616 (by decide +kernel) (by decide +kernel)
set_option maxRecDepth 100000 in
theorem o_X8_same : ri_okq (m_X8_same, 2, 1, t_X8_same) := ri_okq_of 621 82 619 620 (by decide +kernel) (by decide +kernel)
set_option maxRecDepth 100000 in
theorem o_X8_turns : ri_okq (m_X8_turns, 1, 1, t_X8_turns) := ri_okq_of 643 82 641 642 (by decide +kernel) (by decide +kernel)
set_option maxRecDepth 100000 in
theorem o_X8_order : ri_okq (m_X8_order, 2, 1, t_X8_order) := ri_okq_of 667 82 665 666 (by decide +kernel) (by decide +kernel)
set_option maxRecDepth 100000 in
theorem o_X8_table : ri_okq (m_X8_table, 3, 1, t_X8_table) := ri_okq_of 671 82 669 670 (by decide +kernel) (by decide +kernel)
set_option maxRecDepth 100000 in
theorem o_X8_character : ri_okq (m_X8_character, 2, 1, t_X8_character) := ri_okq_of 679 82 677 678 (by decide +kernel) (by decide +kernel)
set_option maxRecDepth 100000 in
theorem o_X8_length : ri_okq (m_X8_length, 2, 1, t_X8_length) := ri_okq_of 700 82 698 699 (by decide +kernel) (by decide +kernel)
set_option maxRecDepth 100000 in
theorem o_X8_sort : ri_okq (m_X8_sort, 2, 1, t_X8_sort) := ri_okq_of 708 82 706 707 (by decide +kernel) (by decide +kernel)
set_option maxRecDepth 100000 in
theorem o_X8_law : ri_okq (m_X8_law, 2, 1, t_X8_law) := ri_okq_of 720 82 718 719 (by decide +kernel) (by decide +kernel)
set_option maxRecDepth 100000 in
theorem o_X8_carry : ri_okq (m_X8_carry, 4, 1, t_X8_carry) := ri_okq_of 729 82 727 728 (by decide +kernel) (by decide +kernel)
set_option maxRecDepth 100000 in
theorem o_X8_fewest : ri_okq (m_X8_fewest, 3, 1, t_X8_fewest) := ri_okq_of 760 82 758 759 (by decide +kernel) (by decide +kernel)
set_option maxRecDepth 100000 in
theorem o_X8_layOut : ri_okq (m_X8_layOut, 1, 1, t_X8_layOut) := ri_okq_of 305 82 304 0 (by decide +kernel) (by decide +kernel)
set_option maxRecDepth 100000 in
theorem o_X8_isRing : ri_okq (m_X8_isRing, 1, 1, t_X8_isRing) := ri_okq_of 458 82 457 9 (by decide +kernel) (by decide +kernel)
set_option maxRecDepth 100000 in
theorem o_X8_isPlan : ri_okq (m_X8_isPlan, 1, 0, t_X8_isPlan) := ri_okq_of 522 82 521 0 (by decide +kernel) (by decide +kernel)
set_option maxRecDepth 100000 in
theorem o_X8_isTwist : ri_okq (m_X8_isTwist, 1, 1, t_X8_isTwist) := ri_okq_of 724 82 723 24 (by decide +kernel) (by decide +kernel)
set_option maxRecDepth 100000 in
theorem o_X8_isLetter : ri_okq (m_X8_isLetter, 1, 1, t_X8_isLetter) := ri_okq_of 591 82 590 17 (by decide +kernel) (by decide +kernel)
set_option maxRecDepth 100000 in
theorem o_X8_isSearch : ri_okq (m_X8_isSearch, 2, 0, t_X8_isSearch) := ri_okq_of 732 82 731 0 (by decide +kernel) (by decide +kernel)
set_option maxRecDepth 100000 in
theorem o_X8_oneIf : ri_okq (m_X8_oneIf, 1, 0, t_X8_oneIf) := ri_okq_of 461 82 460 0 (by decide +kernel) (by decide +kernel)
set_option maxRecDepth 100000 in
theorem o_X8_firstBarring : ri_okq (m_X8_firstBarring, 2, 1, t_X8_firstBarring) := ri_okq_of 498 82 497 12 (by decide +kernel) (by decide +kernel)
set_option maxRecDepth 100000 in
theorem o_X8_carryToWork : ri_okq (m_X8_carryToWork, 2, 1, t_X8_carryToWork) := ri_okq_of 611 82 610 18 (by decide +kernel) (by decide +kernel)
set_option maxRecDepth 100000 in
theorem o_X8_firstUnlike : ri_okq (m_X8_firstUnlike, 2, 1, t_X8_firstUnlike) := ri_okq_of 625 82 624 19 (by decide +kernel) (by decide +kernel)
set_option maxRecDepth 100000 in
theorem o_X8_keepsSomeRing : ri_okq (m_X8_keepsSomeRing, 2, 1, t_X8_keepsSomeRing) := ri_okq_of 712 82 711 22 (by decide +kernel) (by decide +kernel)
set_option maxRecDepth 100000 in
theorem o_X8_keepsRing : ri_okq (m_X8_keepsRing, 3, 1, t_X8_keepsRing) := ri_okq_of 716 82 715 23 (by decide +kernel) (by decide +kernel)
set_option maxRecDepth 100000 in
theorem o_X9_init : ri_okq (m_X9_init, 0, 2, t_X9_init) := ri_okq_of 776 93 775 0 (by decide +kernel) (by decide +kernel)
set_option maxRecDepth 100000 in
theorem o_X9_in : ri_okq (m_X9_in, 3, 0, t_X9_in) := ri_okq_of 875 93 874 0 (by decide +kernel) (by decide +kernel)
set_option maxRecDepth 100000 in
theorem o_X9_bit : ri_okq (m_X9_bit, 1, 0, t_X9_bit) := ri_okq_of 926 93 925 0 (by decide +kernel) (by decide +kernel)
set_option maxRecDepth 100000 in
theorem o_X9_lay : ri_okq (m_X9_lay, 1, 1, t_X9_lay) := ri_okq_of 781 93 780 29 (by decide +kernel) (by decide +kernel)
set_option maxRecDepth 100000 in
theorem o_X9_skin : ri_okq (m_X9_skin, 1, 1, t_X9_skin) := ri_okq_of 871 93 869 870 (by decide +kernel) (by decide +kernel)
set_option maxRecDepth 100000 in
theorem o_X9_twists : ri_okq (m_X9_twists, 0, 1, t_X9_twists) := ri_okq_of 1180 93 1179 75 (by decide +kernel) (by decide +kernel)
set_option maxRecDepth 100000 in
theorem o_X9_isLetter : ri_okq (m_X9_isLetter, 1, 1, t_X9_isLetter) := ri_okq_of 883 93 882 30 (by decide +kernel) (by decide +kernel)
set_option maxRecDepth 100000 in
theorem o_X9_letter : ri_okq (m_X9_letter, 1, 1, t_X9_letter) := ri_okq_of 879 93 877 878 (by decide +kernel) (by decide +kernel)
set_option maxRecDepth 100000 in
theorem o_X9_ring : ri_okq (m_X9_ring, 0, 1, t_X9_ring) := ri_okq_of 887 93 885 886 (by decide +kernel) (by decide +kernel)
set_option maxRecDepth 100000 in
theorem o_X9_noRing : ri_okq (m_X9_noRing, 1, 1, t_X9_noRing) := ri_okq_of 899 93 898 31 (by decide +kernel) (by decide +kernel)
set_option maxRecDepth 100000 in
theorem o_X9_drop : ri_okq (m_X9_drop, 0, 1, t_X9_drop) := ri_okq_of 891 93 889 890 (by decide +kernel) (by decide +kernel)
end
end
section
noncomputable section
set_option maxRecDepth 100000 in
theorem o_X9_takeU : ri_okq (m_X9_takeU, 1, 1, t_X9_takeU) := ri_okq_of 903 93 902 32 (by decide +kernel) (by decide +kernel)
set_option maxRecDepth 100000 in
theorem o_X9_takeV : ri_okq (m_X9_takeV, 1, 1, t_X9_takeV) := ri_okq_of 907 93 906 33 (by decide +kernel) (by decide +kernel)
set_option maxRecDepth 100000 in
theorem o_X9_turnV : ri_okq (m_X9_turnV, 0, 1, t_X9_turnV) := ri_okq_of 923 93 922 37 (by decide +kernel) (by decide +kernel)
set_option maxRecDepth 100000 in
theorem o_X9_ofU : ri_okq (m_X9_ofU, 1, 1, t_X9_ofU) := ri_okq_of 919 93 918 36 (by decide +kernel) (by decide +kernel)
set_option maxRecDepth 100000 in
theorem o_X9_ofV : ri_okq (m_X9_ofV, 1, 1, t_X9_ofV) := ri_okq_of 950 93 949 42 (by decide +kernel) (by decide +kernel)
set_option maxRecDepth 100000 in
theorem o_X9_isTurned : ri_okq (m_X9_isTurned, 0, 1, t_X9_isTurned) := ri_okq_of 915 93 914 35 (by decide +kernel) (by decide +kernel)
set_option maxRecDepth 100000 in
theorem o_X9_areOne : ri_okq (m_X9_areOne, 0, 1, t_X9_areOne) := ri_okq_of 911 93 910 34 (by decide +kernel) (by decide +kernel)
set_option maxRecDepth 100000 in
theorem o_X9_one : ri_okq (m_X9_one, 2, 1, t_X9_one) := ri_okq_of 895 93 893 894 (by decide +kernel) (by decide +kernel)
set_option maxRecDepth 100000 in
theorem o_X9_isPower : ri_okq (m_X9_isPower, 1, 1, t_X9_isPower) := ri_okq_of 934 93 933 38 (by decide +kernel) (by decide +kernel)
set_option maxRecDepth 100000 in
theorem o_X9_placeOf : ri_okq (m_X9_placeOf, 1, 0, t_X9_placeOf) := ri_okq_of 961 93 960 0 (by decide +kernel) (by decide +kernel)
set_option maxRecDepth 100000 in
theorem o_X9_farFrom : ri_okq (m_X9_farFrom, 2, 1, t_X9_farFrom) := ri_okq_of 958 93 957 44 (by decide +kernel) (by decide +kernel)
set_option maxRecDepth 100000 in
theorem o_X9_goRound : ri_okq (m_X9_goRound, 3, 1, t_X9_goRound) := ri_okq_of 969 93 968 46 (by decide +kernel) (by decide +kernel)
set_option maxRecDepth 100000 in
theorem o_X9_meetAtOnce : ri_okq (m_X9_meetAtOnce, 4, 1, t_X9_meetAtOnce) := ri_okq_of 954 93 953 43 (by decide +kernel) (by decide +kernel)
set_option maxRecDepth 100000 in
theorem o_X9_meetAlong : ri_okq (m_X9_meetAlong, 2, 1, t_X9_meetAlong) := ri_okq_of 965 93 964 45 (by decide +kernel) (by decide +kernel)
set_option maxRecDepth 100000 in
theorem o_X9_countMeetings : ri_okq (m_X9_countMeetings, 1, 1, t_X9_countMeetings) := ri_okq_of 946 93 945 41 (by decide +kernel) (by decide +kernel)
set_option maxRecDepth 100000 in
theorem o_X9_meetings : ri_okq (m_X9_meetings, 0, 1, t_X9_meetings) := ri_okq_of 942 93 941 40 (by decide +kernel) (by decide +kernel)
set_option maxRecDepth 100000 in
theorem o_X9_meetingsOf : ri_okq (m_X9_meetingsOf, 2, 1, t_X9_meetingsOf) := ri_okq_of 938 93 937 39 (by decide +kernel) (by decide +kernel)
set_option maxRecDepth 100000 in
theorem o_X9_isSimple : ri_okq (m_X9_isSimple, 1, 1, t_X9_isSimple) := ri_okq_of 985 93 984 47 (by decide +kernel) (by decide +kernel)
set_option maxRecDepth 100000 in
theorem o_X9_meets : ri_okq (m_X9_meets, 2, 1, t_X9_meets) := ri_okq_of 930 93 928 929 (by decide +kernel) (by decide +kernel)
set_option maxRecDepth 100000 in
theorem o_X9_told : ri_okq (m_X9_told, 2, 1, t_X9_told) := ri_okq_of 973 93 971 972 (by decide +kernel) (by decide +kernel)
set_option maxRecDepth 100000 in
theorem o_X9_at : ri_okq (m_X9_at, 2, 1, t_X9_at) := ri_okq_of 977 93 975 976 (by decide +kernel) (by decide +kernel)
set_option maxRecDepth 100000 in
theorem o_X9_heap : ri_okq (m_X9_heap, 1, 1, t_X9_heap) := ri_okq_of 981 93 979 980 (by decide +kernel) (by decide +kernel)
set_option maxRecDepth 100000 in
theorem o_X9_put : ri_okq (m_X9_put, 1, 1, t_X9_put) := ri_okq_of 1067 93 1066 59 (by decide +kernel) (by decide +kernel)
set_option maxRecDepth 100000 in
theorem o_X9_putC : ri_okq (m_X9_putC, 2, 1, t_X9_putC) := ri_okq_of 1071 93 1070 60 (by decide +kernel) (by decide +kernel)
set_option maxRecDepth 100000 in
theorem o_X9_putImage : ri_okq (m_X9_putImage, 4, 1, t_X9_putImage) := ri_okq_of 1063 93 1062 58 (by decide +kernel) (by decide +kernel)
set_option maxRecDepth 100000 in
theorem o_X9_twistRow : ri_okq (m_X9_twistRow, 1, 1, t_X9_twistRow) := ri_okq_of 1059 93 1058 57 (by decide +kernel) (by decide +kernel)
set_option maxRecDepth 100000 in
theorem o_X9_imageRow : ri_okq (m_X9_imageRow, 1, 1, t_X9_imageRow) := ri_okq_of 1055 93 1054 56 (by decide +kernel) (by decide +kernel)
set_option maxRecDepth 100000 in
theorem o_X9_takeLetter : ri_okq (m_X9_takeLetter, 1, 1, t_X9_takeLetter) := ri_okq_of 1051 93 1050 55 (by decide +kernel) (by decide +kernel)
set_option maxRecDepth 100000 in
theorem o_X9_takeRing : ri_okq (m_X9_takeRing, 1, 1, t_X9_takeRing) := ri_okq_of 1079 93 1078 61 (by decide +kernel) (by decide +kernel)
set_option maxRecDepth 100000 in
theorem o_X9_closeToU : ri_okq (m_X9_closeToU, 0, 1, t_X9_closeToU) := ri_okq_of 1083 93 1082 62 (by decide +kernel) (by decide +kernel)
set_option maxRecDepth 100000 in
theorem o_X9_noPlan : ri_okq (m_X9_noPlan, 1, 1, t_X9_noPlan) := ri_okq_of 1000 93 999 48 (by decide +kernel) (by decide +kernel)
set_option maxRecDepth 100000 in
theorem o_X9_feed : ri_okq (m_X9_feed, 2, 1, t_X9_feed) := ri_okq_of 990 93 988 989 (by decide +kernel) (by decide +kernel)
set_option maxRecDepth 100000 in
theorem o_X9_look : ri_okq (m_X9_look, 0, 1, t_X9_look) := ri_okq_of 1005 93 1004 49 (by decide +kernel) (by decide +kernel)
end
end
section
noncomputable section
set_option maxRecDepth 100000 in
theorem o_X9_want : ri_okq (m_X9_want, 3, 1, t_X9_want) := ri_okq_of 1023 93 1022 53 (by decide +kernel) (by decide +kernel)
set_option maxRecDepth 100000 in
theorem o_X9_takeFigure : ri_okq (m_X9_takeFigure, 2, 1, t_X9_takeFigure) := ri_okq_of 1017 93 1016 52 (by decide +kernel) (by decide +kernel)
set_option maxRecDepth 100000 in
theorem o_X9_readTwist : ri_okq (m_X9_readTwist, 1, 1, t_X9_readTwist) := ri_okq_of 1013 93 1012 51 (by decide +kernel) (by decide +kernel)
set_option maxRecDepth 100000 in
theorem o_X9_closeBracket : ri_okq (m_X9_closeBracket, 0, 1, t_X9_closeBracket) := ri_okq_of 1027 93 1026 54 (by decide +kernel) (by decide +kernel)
set_option maxRecDepth 100000 in
theorem o_X9_readItem : ri_okq (m_X9_readItem, 1, 1, t_X9_readItem) := ri_okq_of 1009 93 1008 50 (by decide +kernel) (by decide +kernel)
set_option maxRecDepth 100000 in
theorem o_X9_read : ri_okq (m_X9_read, 1, 1, t_X9_read) := ri_okq_of 996 93 994 995 (by decide +kernel) (by decide +kernel)
set_option maxRecDepth 100000 in
theorem o_X9_fault : ri_okq (m_X9_fault, 0, 1, t_X9_fault) := ri_okq_of 1031 93 1029 1030 (by decide +kernel) (by decide +kernel)
set_option maxRecDepth 100000 in
theorem o_X9_twist : ri_okq (m_X9_twist, 2, 1, t_X9_twist) := ri_okq_of 1035 93 1033 1034 (by decide +kernel) (by decide +kernel)
set_option maxRecDepth 100000 in
theorem o_X9_chain : ri_okq (m_X9_chain, 3, 1, t_X9_chain) := ri_okq_of 1039 93 1037 1038 (by decide +kernel) (by decide +kernel)
set_option maxRecDepth 100000 in
theorem o_X9_turn : ri_okq (m_X9_turn, 2, 1, t_X9_turn) := ri_okq_of 1043 93 1041 1042 (by decide +kernel) (by decide +kernel)
set_option maxRecDepth 100000 in
theorem o_X9_image : ri_okq (m_X9_image, 3, 1, t_X9_image) := ri_okq_of 1047 93 1045 1046 (by decide +kernel) (by decide +kernel)
set_option maxRecDepth 100000 in
theorem o_X9_carried : ri_okq (m_X9_carried, 3, 1, t_X9_carried) := ri_okq_of 1075 93 1073 1074 (by decide +kernel) (by decide +kernel)
set_option maxRecDepth 100000 in
theorem o_X9_meetsThen : ri_okq (m_X9_meetsThen, 3, 1, t_X9_meetsThen) := ri_okq_of 1087 93 1085 1086 (by decide +kernel) (by decide +kernel)
set_option maxRecDepth 100000 in
theorem o_X9_startImages : ri_okq (m_X9_startImages, 0, 1, t_X9_startImages) := ri_okq_of 1099 93 1098 64 (by decide +kernel) (by decide +kernel)
set_option maxRecDepth 100000 in
theorem o_X9_goOn : ri_okq (m_X9_goOn, 1, 1, t_X9_goOn) := ri_okq_of 1103 93 1102 65 (by decide +kernel) (by decide +kernel)
set_option maxRecDepth 100000 in
theorem o_X9_findImages : ri_okq (m_X9_findImages, 1, 1, t_X9_findImages) := ri_okq_of 1095 93 1094 63 (by decide +kernel) (by decide +kernel)
set_option maxRecDepth 100000 in
theorem o_X9_isImage : ri_okq (m_X9_isImage, 1, 1, t_X9_isImage) := ri_okq_of 1107 93 1106 66 (by decide +kernel) (by decide +kernel)
set_option maxRecDepth 100000 in
theorem o_X9_same : ri_okq (m_X9_same, 2, 1, t_X9_same) := ri_okq_of 1091 93 1089 1090 (by decide +kernel) (by decide +kernel)
set_option maxRecDepth 100000 in
theorem o_X9_putRim : ri_okq (m_X9_putRim, 1, 1, t_X9_putRim) := ri_okq_of 1123 93 1122 69 (by decide +kernel) (by decide +kernel)
set_option maxRecDepth 100000 in
theorem o_X9_isTurns : ri_okq (m_X9_isTurns, 1, 1, t_X9_isTurns) := ri_okq_of 1119 93 1118 68 (by decide +kernel) (by decide +kernel)
set_option maxRecDepth 100000 in
theorem o_X9_findTurns : ri_okq (m_X9_findTurns, 0, 1, t_X9_findTurns) := ri_okq_of 1115 93 1114 67 (by decide +kernel) (by decide +kernel)
set_option maxRecDepth 100000 in
theorem o_X9_turns : ri_okq (m_X9_turns, 1, 1, t_X9_turns) := ri_okq_of 1111 93 1109 1110 (by decide +kernel) (by decide +kernel)
set_option maxRecDepth 100000 in
theorem o_X9_findOrder : ri_okq (m_X9_findOrder, 2, 1, t_X9_findOrder) := ri_okq_of 1132 93 1131 70 (by decide +kernel) (by decide +kernel)
set_option maxRecDepth 100000 in
theorem o_X9_order : ri_okq (m_X9_order, 2, 1, t_X9_order) := ri_okq_of 1127 93 1125 1126 (by decide +kernel) (by decide +kernel)
set_option maxRecDepth 100000 in
theorem o_X9_tableOf : ri_okq (m_X9_tableOf, 2, 1, t_X9_tableOf) := ri_okq_of 1140 93 1139 71 (by decide +kernel) (by decide +kernel)
set_option maxRecDepth 100000 in
theorem o_X9_table : ri_okq (m_X9_table, 3, 1, t_X9_table) := ri_okq_of 1136 93 1134 1135 (by decide +kernel) (by decide +kernel)
set_option maxRecDepth 100000 in
theorem o_X9_determinant : ri_okq (m_X9_determinant, 1, 1, t_X9_determinant) := ri_okq_of 1154 93 1153 72 (by decide +kernel) (by decide +kernel)
end
end
section
noncomputable section
set_option maxRecDepth 100000 in
theorem o_X9_onesOf : ri_okq (m_X9_onesOf, 1, 0, t_X9_onesOf) := ri_okq_of 1150 93 1149 0 (by decide +kernel) (by decide +kernel)
set_option maxRecDepth 100000 in
theorem o_X9_character : ri_okq (m_X9_character, 2, 1, t_X9_character) := ri_okq_of 1144 93 1142 1143 (by decide +kernel) (by decide +kernel)
set_option maxRecDepth 100000 in
theorem o_X9_lengthNow : ri_okq (m_X9_lengthNow, 0, 1, t_X9_lengthNow) := ri_okq_of 1163 93 1162 73 (by decide +kernel) (by decide +kernel)
set_option maxRecDepth 100000 in
theorem o_X9_length : ri_okq (m_X9_length, 2, 1, t_X9_length) := ri_okq_of 1159 93 1157 1158 (by decide +kernel) (by decide +kernel)
set_option maxRecDepth 100000 in
theorem o_X9_comesBack : ri_okq (m_X9_comesBack, 3, 1, t_X9_comesBack) := ri_okq_of 1172 93 1171 74 (by decide +kernel) (by decide +kernel)
set_option maxRecDepth 100000 in
theorem o_X9_sort : ri_okq (m_X9_sort, 2, 1, t_X9_sort) := ri_okq_of 1167 93 1165 1166 (by decide +kernel) (by decide +kernel)
set_option maxRecDepth 100000 in
theorem o_X9_draftPlan : ri_okq (m_X9_draftPlan, 3, 1, t_X9_draftPlan) := ri_okq_of 1184 93 1183 76 (by decide +kernel) (by decide +kernel)
set_option maxRecDepth 100000 in
theorem o_X9_isDraftLike : ri_okq (m_X9_isDraftLike, 0, 1, t_X9_isDraftLike) := ri_okq_of 1188 93 1187 77 (by decide +kernel) (by decide +kernel)
set_option maxRecDepth 100000 in
theorem o_X9_law : ri_okq (m_X9_law, 2, 1, t_X9_law) := ri_okq_of 1176 93 1174 1175 (by decide +kernel) (by decide +kernel)
set_option maxRecDepth 100000 in
theorem o_X9_power : ri_okq (m_X9_power, 1, 1, t_X9_power) := ri_okq_of 1197 93 1196 78 (by decide +kernel) (by decide +kernel)
set_option maxRecDepth 100000 in
theorem o_X9_numberPlan : ri_okq (m_X9_numberPlan, 2, 1, t_X9_numberPlan) := ri_okq_of 1201 93 1200 79 (by decide +kernel) (by decide +kernel)
set_option maxRecDepth 100000 in
theorem o_X9_carries : ri_okq (m_X9_carries, 2, 1, t_X9_carries) := ri_okq_of 1205 93 1204 80 (by decide +kernel) (by decide +kernel)
set_option maxRecDepth 100000 in
theorem o_X9_carry : ri_okq (m_X9_carry, 4, 1, t_X9_carry) := ri_okq_of 1192 93 1190 1191 (by decide +kernel) (by decide +kernel)
set_option maxRecDepth 100000 in
theorem o_X9_fewest : ri_okq (m_X9_fewest, 3, 1, t_X9_fewest) := ri_okq_of 1209 93 1207 1208 (by decide +kernel) (by decide +kernel)
set_option maxRecDepth 100000 in
theorem o_X9_count : ri_okq (m_X9_count, 1, 1, t_X9_count) := ri_okq_of 1213 93 1211 1212 (by decide +kernel) (by decide +kernel)
set_option maxRecDepth 100000 in
theorem o_J6_bitCount_0f7a4 : ri_okq (m_J6_bitCount_0f7a4, 1, 0, t_J6_bitCount_0f7a4) := ri_okq_of 689 94 688 0 (by decide +kernel) (by decide +kernel)
theorem ri_okl : ∀ l ∈ ri_ms, ∀ q ∈ l, ri_okq q := by
  intro l hl
  simp only [ri_ms, List.mem_cons, List.not_mem_nil, or_false] at hl
  rcases hl with rfl | rfl | rfl | rfl | rfl | rfl | rfl | rfl | rfl | rfl | rfl | rfl | rfl | rfl
  · exact List.forall_mem_cons.mpr ⟨o_X0_init, List.forall_mem_cons.mpr ⟨o_X0_begin, List.forall_mem_cons.mpr ⟨o_X0_doPlan, List.forall_mem_cons.mpr ⟨o_X0_lettersTogether, List.forall_mem_cons.mpr ⟨o_X0_fullTurns, List.forall_mem_cons.mpr ⟨o_X0_areTurns, List.forall_mem_cons.mpr ⟨o_X0_pushRim, List.forall_mem_cons.mpr ⟨o_X0_rimLetter, List.forall_mem_cons.mpr ⟨o_X0_cornerSum, List.forall_mem_cons.mpr ⟨o_X0_corner, List.forall_mem_cons.mpr ⟨o_X1_init, List.forall_mem_cons.mpr ⟨o_X1_between, List.forall_mem_cons.mpr ⟨o_X1_crossings, List.forall_mem_cons.mpr ⟨o_X1_cross, fun _ h => absurd h List.not_mem_nil⟩⟩⟩⟩⟩⟩⟩⟩⟩⟩⟩⟩⟩⟩
  · exact List.forall_mem_cons.mpr ⟨o_X1_changeSides, List.forall_mem_cons.mpr ⟨o_X1_goRound, List.forall_mem_cons.mpr ⟨o_X1_stepsRound, List.forall_mem_cons.mpr ⟨o_X2_init, List.forall_mem_cons.mpr ⟨o_X2_add, List.forall_mem_cons.mpr ⟨o_X2_addAll, List.forall_mem_cons.mpr ⟨o_X2_copy, List.forall_mem_cons.mpr ⟨o_X2_becomeReversed, List.forall_mem_cons.mpr ⟨o_X2_codeOrSize, List.forall_mem_cons.mpr ⟨o_X3_init, List.forall_mem_cons.mpr ⟨o_X3_become, List.forall_mem_cons.mpr ⟨o_X3_isSimple, List.forall_mem_cons.mpr ⟨o_X4_init, List.forall_mem_cons.mpr ⟨o_X4_push, fun _ h => absurd h List.not_mem_nil⟩⟩⟩⟩⟩⟩⟩⟩⟩⟩⟩⟩⟩⟩
  · exact List.forall_mem_cons.mpr ⟨o_X4_becomeLetter, List.forall_mem_cons.mpr ⟨o_X4_copy, List.forall_mem_cons.mpr ⟨o_X4_becomeBack, List.forall_mem_cons.mpr ⟨o_X4_looseEnds, List.forall_mem_cons.mpr ⟨o_X4_closedSize, List.forall_mem_cons.mpr ⟨o_X4_close, List.forall_mem_cons.mpr ⟨o_X4_isLike, List.forall_mem_cons.mpr ⟨o_X4_isOneWith, List.forall_mem_cons.mpr ⟨o_X4_runsAlong, List.forall_mem_cons.mpr ⟨o_X4_runsAgainst, List.forall_mem_cons.mpr ⟨o_X4_isPower, List.forall_mem_cons.mpr ⟨o_X4_repeats, List.forall_mem_cons.mpr ⟨o_X4_balanceOf, List.forall_mem_cons.mpr ⟨o_X5_init, fun _ h => absurd h List.not_mem_nil⟩⟩⟩⟩⟩⟩⟩⟩⟩⟩⟩⟩⟩⟩
  · exact List.forall_mem_cons.mpr ⟨o_X5_forCarrying, List.forall_mem_cons.mpr ⟨o_X5_measureAhead, List.forall_mem_cons.mpr ⟨o_X5_tryTwists, List.forall_mem_cons.mpr ⟨o_X5_spell, List.forall_mem_cons.mpr ⟨o_X5_forImages, List.forall_mem_cons.mpr ⟨o_X5_doesAsImages, List.forall_mem_cons.mpr ⟨o_X6_init, List.forall_mem_cons.mpr ⟨o_X6_add, List.forall_mem_cons.mpr ⟨o_X6_understand, List.forall_mem_cons.mpr ⟨o_X6_take, List.forall_mem_cons.mpr ⟨o_X6_isFigure, List.forall_mem_cons.mpr ⟨o_X6_takeHandle, List.forall_mem_cons.mpr ⟨o_X6_takeTimes, List.forall_mem_cons.mpr ⟨o_X6_takeItem, fun _ h => absurd h List.not_mem_nil⟩⟩⟩⟩⟩⟩⟩⟩⟩⟩⟩⟩⟩⟩
  · exact List.forall_mem_cons.mpr ⟨o_X7_init, List.forall_mem_cons.mpr ⟨o_X7_layOut, List.forall_mem_cons.mpr ⟨o_X7_layWord, List.forall_mem_cons.mpr ⟨o_X7_spellFirst, List.forall_mem_cons.mpr ⟨o_X7_spellSecond, List.forall_mem_cons.mpr ⟨o_X7_spellThird, List.forall_mem_cons.mpr ⟨o_X7_spellBetween, List.forall_mem_cons.mpr ⟨o_X7_slotOf, List.forall_mem_cons.mpr ⟨o_X7_keepWord, List.forall_mem_cons.mpr ⟨o_X7_doTwist, List.forall_mem_cons.mpr ⟨o_X7_doPlan, List.forall_mem_cons.mpr ⟨o_X8_init, List.forall_mem_cons.mpr ⟨o_X8_skin, List.forall_mem_cons.mpr ⟨o_X8_letter, fun _ h => absurd h List.not_mem_nil⟩⟩⟩⟩⟩⟩⟩⟩⟩⟩⟩⟩⟩⟩
  · exact List.forall_mem_cons.mpr ⟨o_X8_ring, List.forall_mem_cons.mpr ⟨o_X8_told, List.forall_mem_cons.mpr ⟨o_X8_at, List.forall_mem_cons.mpr ⟨o_X8_meets, List.forall_mem_cons.mpr ⟨o_X8_one, List.forall_mem_cons.mpr ⟨o_X8_heap, List.forall_mem_cons.mpr ⟨o_X8_drop, List.forall_mem_cons.mpr ⟨o_X8_count, List.forall_mem_cons.mpr ⟨o_X8_feed, List.forall_mem_cons.mpr ⟨o_X8_read, List.forall_mem_cons.mpr ⟨o_X8_fault, List.forall_mem_cons.mpr ⟨o_X8_twist, List.forall_mem_cons.mpr ⟨o_X8_chain, List.forall_mem_cons.mpr ⟨o_X8_turn, fun _ h => absurd h List.not_mem_nil⟩⟩⟩⟩⟩⟩⟩⟩⟩⟩⟩⟩⟩⟩
  · exact List.forall_mem_cons.mpr ⟨o_X8_image, List.forall_mem_cons.mpr ⟨o_X8_carried, List.forall_mem_cons.mpr ⟨o_X8_meetsThen, List.forall_mem_cons.mpr ⟨o_X8_same, List.forall_mem_cons.mpr ⟨o_X8_turns, List.forall_mem_cons.mpr ⟨o_X8_order, List.forall_mem_cons.mpr ⟨o_X8_table, List.forall_mem_cons.mpr ⟨o_X8_character, List.forall_mem_cons.mpr ⟨o_X8_length, List.forall_mem_cons.mpr ⟨o_X8_sort, List.forall_mem_cons.mpr ⟨o_X8_law, List.forall_mem_cons.mpr ⟨o_X8_carry, List.forall_mem_cons.mpr ⟨o_X8_fewest, List.forall_mem_cons.mpr ⟨o_X8_layOut, fun _ h => absurd h List.not_mem_nil⟩⟩⟩⟩⟩⟩⟩⟩⟩⟩⟩⟩⟩⟩
  · exact List.forall_mem_cons.mpr ⟨o_X8_isRing, List.forall_mem_cons.mpr ⟨o_X8_isPlan, List.forall_mem_cons.mpr ⟨o_X8_isTwist, List.forall_mem_cons.mpr ⟨o_X8_isLetter, List.forall_mem_cons.mpr ⟨o_X8_isSearch, List.forall_mem_cons.mpr ⟨o_X8_oneIf, List.forall_mem_cons.mpr ⟨o_X8_firstBarring, List.forall_mem_cons.mpr ⟨o_X8_carryToWork, List.forall_mem_cons.mpr ⟨o_X8_firstUnlike, List.forall_mem_cons.mpr ⟨o_X8_keepsSomeRing, List.forall_mem_cons.mpr ⟨o_X8_keepsRing, List.forall_mem_cons.mpr ⟨o_X9_init, List.forall_mem_cons.mpr ⟨o_X9_in, List.forall_mem_cons.mpr ⟨o_X9_bit, fun _ h => absurd h List.not_mem_nil⟩⟩⟩⟩⟩⟩⟩⟩⟩⟩⟩⟩⟩⟩
  · exact List.forall_mem_cons.mpr ⟨o_X9_lay, List.forall_mem_cons.mpr ⟨o_X9_skin, List.forall_mem_cons.mpr ⟨o_X9_twists, List.forall_mem_cons.mpr ⟨o_X9_isLetter, List.forall_mem_cons.mpr ⟨o_X9_letter, List.forall_mem_cons.mpr ⟨o_X9_ring, List.forall_mem_cons.mpr ⟨o_X9_noRing, List.forall_mem_cons.mpr ⟨o_X9_drop, List.forall_mem_cons.mpr ⟨o_X9_takeU, List.forall_mem_cons.mpr ⟨o_X9_takeV, List.forall_mem_cons.mpr ⟨o_X9_turnV, List.forall_mem_cons.mpr ⟨o_X9_ofU, List.forall_mem_cons.mpr ⟨o_X9_ofV, List.forall_mem_cons.mpr ⟨o_X9_isTurned, fun _ h => absurd h List.not_mem_nil⟩⟩⟩⟩⟩⟩⟩⟩⟩⟩⟩⟩⟩⟩
  · exact List.forall_mem_cons.mpr ⟨o_X9_areOne, List.forall_mem_cons.mpr ⟨o_X9_one, List.forall_mem_cons.mpr ⟨o_X9_isPower, List.forall_mem_cons.mpr ⟨o_X9_placeOf, List.forall_mem_cons.mpr ⟨o_X9_farFrom, List.forall_mem_cons.mpr ⟨o_X9_goRound, List.forall_mem_cons.mpr ⟨o_X9_meetAtOnce, List.forall_mem_cons.mpr ⟨o_X9_meetAlong, List.forall_mem_cons.mpr ⟨o_X9_countMeetings, List.forall_mem_cons.mpr ⟨o_X9_meetings, List.forall_mem_cons.mpr ⟨o_X9_meetingsOf, List.forall_mem_cons.mpr ⟨o_X9_isSimple, List.forall_mem_cons.mpr ⟨o_X9_meets, List.forall_mem_cons.mpr ⟨o_X9_told, fun _ h => absurd h List.not_mem_nil⟩⟩⟩⟩⟩⟩⟩⟩⟩⟩⟩⟩⟩⟩
  · exact List.forall_mem_cons.mpr ⟨o_X9_at, List.forall_mem_cons.mpr ⟨o_X9_heap, List.forall_mem_cons.mpr ⟨o_X9_put, List.forall_mem_cons.mpr ⟨o_X9_putC, List.forall_mem_cons.mpr ⟨o_X9_putImage, List.forall_mem_cons.mpr ⟨o_X9_twistRow, List.forall_mem_cons.mpr ⟨o_X9_imageRow, List.forall_mem_cons.mpr ⟨o_X9_takeLetter, List.forall_mem_cons.mpr ⟨o_X9_takeRing, List.forall_mem_cons.mpr ⟨o_X9_closeToU, List.forall_mem_cons.mpr ⟨o_X9_noPlan, List.forall_mem_cons.mpr ⟨o_X9_feed, List.forall_mem_cons.mpr ⟨o_X9_look, List.forall_mem_cons.mpr ⟨o_X9_want, fun _ h => absurd h List.not_mem_nil⟩⟩⟩⟩⟩⟩⟩⟩⟩⟩⟩⟩⟩⟩
  · exact List.forall_mem_cons.mpr ⟨o_X9_takeFigure, List.forall_mem_cons.mpr ⟨o_X9_readTwist, List.forall_mem_cons.mpr ⟨o_X9_closeBracket, List.forall_mem_cons.mpr ⟨o_X9_readItem, List.forall_mem_cons.mpr ⟨o_X9_read, List.forall_mem_cons.mpr ⟨o_X9_fault, List.forall_mem_cons.mpr ⟨o_X9_twist, List.forall_mem_cons.mpr ⟨o_X9_chain, List.forall_mem_cons.mpr ⟨o_X9_turn, List.forall_mem_cons.mpr ⟨o_X9_image, List.forall_mem_cons.mpr ⟨o_X9_carried, List.forall_mem_cons.mpr ⟨o_X9_meetsThen, List.forall_mem_cons.mpr ⟨o_X9_startImages, List.forall_mem_cons.mpr ⟨o_X9_goOn, fun _ h => absurd h List.not_mem_nil⟩⟩⟩⟩⟩⟩⟩⟩⟩⟩⟩⟩⟩⟩
  · exact List.forall_mem_cons.mpr ⟨o_X9_findImages, List.forall_mem_cons.mpr ⟨o_X9_isImage, List.forall_mem_cons.mpr ⟨o_X9_same, List.forall_mem_cons.mpr ⟨o_X9_putRim, List.forall_mem_cons.mpr ⟨o_X9_isTurns, List.forall_mem_cons.mpr ⟨o_X9_findTurns, List.forall_mem_cons.mpr ⟨o_X9_turns, List.forall_mem_cons.mpr ⟨o_X9_findOrder, List.forall_mem_cons.mpr ⟨o_X9_order, List.forall_mem_cons.mpr ⟨o_X9_tableOf, List.forall_mem_cons.mpr ⟨o_X9_table, List.forall_mem_cons.mpr ⟨o_X9_determinant, List.forall_mem_cons.mpr ⟨o_X9_onesOf, List.forall_mem_cons.mpr ⟨o_X9_character, fun _ h => absurd h List.not_mem_nil⟩⟩⟩⟩⟩⟩⟩⟩⟩⟩⟩⟩⟩⟩
  · exact List.forall_mem_cons.mpr ⟨o_X9_lengthNow, List.forall_mem_cons.mpr ⟨o_X9_length, List.forall_mem_cons.mpr ⟨o_X9_comesBack, List.forall_mem_cons.mpr ⟨o_X9_sort, List.forall_mem_cons.mpr ⟨o_X9_draftPlan, List.forall_mem_cons.mpr ⟨o_X9_isDraftLike, List.forall_mem_cons.mpr ⟨o_X9_law, List.forall_mem_cons.mpr ⟨o_X9_power, List.forall_mem_cons.mpr ⟨o_X9_numberPlan, List.forall_mem_cons.mpr ⟨o_X9_carries, List.forall_mem_cons.mpr ⟨o_X9_carry, List.forall_mem_cons.mpr ⟨o_X9_fewest, List.forall_mem_cons.mpr ⟨o_X9_count, List.forall_mem_cons.mpr ⟨o_J6_bitCount_0f7a4, fun _ h => absurd h List.not_mem_nil⟩⟩⟩⟩⟩⟩⟩⟩⟩⟩⟩⟩⟩⟩
theorem ri_nthD_mem {α : Type} (d : α) : ∀ (l : List α) (n : Nat), ri_nthD d l n = d ∨ ri_nthD d l n ∈ l
  | [], n => Or.inl rfl
  | x :: t, 0 => Or.inr List.mem_cons_self
  | x :: t, n + 1 => (ri_nthD_mem d t n).imp id (fun h => List.mem_cons_of_mem _ h)
theorem ri_all (j : Nat) : ri_okj ri_M j := by
  show ri_okq (ri_M j)
  unfold ri_M
  rcases ri_nthD_mem ri_m0d (ri_nthD [] ri_ms (j / 14)) (j % 14) with h | h
  · rw [h]
    exact o_X0_init
  · rcases ri_nthD_mem [] ri_ms (j / 14) with h2 | h2
    · rw [h2] at h
      exact absurd h List.not_mem_nil
    · exact ri_okl _ h2 _ h
end
end
section
noncomputable section
abbrev am_E : Type := (Nat × vp_A) ⊕ (Nat × List Value)
abbrev am_H : Type := Nat → am_E
def am_df (ci : Nat) : List Value := match ci with
  | 0 => [.null, .int 0, .null, .null]
  | 1 => [.null]
  | 2 => [.null, .int 0]
  | 3 => [.null, .int 0, .int 0]
  | 4 => [.null, .int 0]
  | 5 => [.null, .null, .null, .null, .null, .int 0]
  | 6 => [.int 0, .int 0, .null, .null, .null, .int 0, .int 0, .int 0, .int 0, .int 0]
  | 7 => [.int 0, .null, .null, .null, .null]
  | 8 => [.null, .null, .null, .null, .null, .null, .null, .null, .null, .null, .null, .int 0, .int 0]
  | 9 => [.int 0, .int 0, .null, .int 0, .null, .null, .null, .null, .null, .int 0, .null, .int 0, .null, .int 0, .null, .int 0, .null, .int 0, .int 0, .int 0, .int 0, .null, .int 0, .null, .int 0, .null, .null, .null]
  | _ => []
/-! ===== a machine that the kernel can run: heaps are lists of lists, arrays are lists, known ints are naturals; ints may be unknown, within bounds ===== -/
abbrev ri_A : Type := List Nat ⊕ (List Int64 ⊕ List (Option Nat))
abbrev ri_E : Type := (Nat × ri_A) ⊕ (Nat × List Value)
/-- how many cells, how many slots, the cells in rows of eight -/
abbrev ri_L : Type := Nat × Nat × List (List ri_E)
def ri_nth {α : Type} (l : List α) : Nat → Option α := List.rec (motive := fun _ => Nat → Option α) (fun _ => none) (fun x _ ih n => Nat.rec (motive := fun _ => Option α) (some x) (fun m _ => ih m) n) l
theorem ri_nth_eq {α : Type} : ∀ (l : List α) (n : Nat), ri_nth l n = l[n]?
  | [], n => by simp [ri_nth]
  | x :: t, 0 => rfl
  | x :: t, n + 1 => by
    have := ri_nth_eq t n
    simp only [List.getElem?_cons_succ]
    exact this
def ri_upd {α : Type} (l : List α) : Nat → α → List α := List.rec (motive := fun _ => Nat → α → List α) (fun _ _ => []) (fun x t ih n v => Nat.rec (motive := fun _ => List α) (v :: t) (fun m _ => x :: ih m v) n) l
theorem ri_upd_eq {α : Type} : ∀ (l : List α) (n : Nat) (v : α), ri_upd l n v = l.set n v
  | [], n, v => by simp [ri_upd]
  | x :: t, 0, v => rfl
  | x :: t, n + 1, v => by
    have := ri_upd_eq t n v
    simp only [List.set_cons_succ]
    show x :: ri_upd t n v = _
    rw [this]
def ri_get (C : List (List ri_E)) (k : Nat) : Option ri_E := match ri_nth C (k / 8) with
  | some c => ri_nth c (k % 8)
  | none => none
def ri_put (C : List (List ri_E)) (k : Nat) (e : ri_E) : List (List ri_E) := match ri_nth C (k / 8) with
  | some c => ri_upd C (k / 8) (ri_upd c (k % 8) e)
  | none => C
def ri_va (x : ri_A) : vp_A := match x with
  | .inl l => (l.length, .inl (fun j => nI (l.getD j 0)))
  | .inr (.inl l) => (l.length, .inr (.inl (fun j => l.getD j 0)))
  | .inr (.inr l) => (l.length, .inr (.inr (.inr (.inr (fun j => l.getD j none)))))
def ri_e (e : ri_E) : am_E := match e with
  | .inl (t, x) => .inl (t, ri_va x)
  | .inr (c, fs) => .inr (c, fs)
def ri_h (L : ri_L) : am_H := fun k => match ri_get L.2.2 k with
  | some e => ri_e e
  | none => .inr (0, [])
def ri_fl {α : Type} (x : Int64) (k : Int64 → α) : α := Nat.rec (motive := fun _ => α) (k (Int64.ofNat 0)) (fun m _ => k (Int64.ofNat (m + 1))) x.toBitVec.toNat
theorem ri_fl_eq {α : Type} (x : Int64) (k : Int64 → α) : ri_fl x k = k x := by
  have e : Int64.ofNat x.toBitVec.toNat = x := by
    apply Int64.toBitVec_inj.mp
    show BitVec.ofNat 64 _ = _
    simp
  have h2 : ∀ m : Nat, (Nat.rec (motive := fun _ => α) (k (Int64.ofNat 0)) (fun m _ => k (Int64.ofNat (m + 1))) m : α) = k (Int64.ofNat m) := by
    intro m
    cases m <;> rfl
  unfold ri_fl
  rw [h2, e]
/-- a number as a plain literal -/
def ri_fn {α : Type} (x : Nat) (k : Nat → α) : α := Nat.rec (motive := fun _ => α) (k 0) (fun m _ => k (m + 1)) x
theorem ri_fn_eq {α : Type} (x : Nat) (k : Nat → α) : ri_fn x k = k x := by cases x <;> rfl
def ri_le (m : Nat) {α : Type} (l : List α) : Bool := match m with
  | 0 => true
  | m + 1 => (ri_nth l m).isSome
theorem ri_le_iff {m : Nat} {α : Type} {l : List α} : ri_le m l = true ↔ m ≤ l.length := by
  cases m with
  | zero => simp [ri_le]
  | succ m => simp [ri_le, ri_nth_eq]; omega
/-- locals: a list of values, .null where there is none -/
def ri_lv (ls : List Value) : List (Nat × Value) := (ls.zipIdx.filter (fun q => decide (q.1 ≠ .null))).map (fun q => (q.2, q.1))
theorem ri_lv_mem {ls : List Value} {i : Nat} {v : Value} : (i, v) ∈ ri_lv ls ↔ ls[i]? = some v ∧ v ≠ .null := by
  unfold ri_lv
  simp only [List.mem_map, List.mem_filter, decide_eq_true_eq]
  constructor
  · rintro ⟨⟨w, j⟩, ⟨h1, h2⟩, h3⟩
    cases h3
    rw [List.mem_zipIdx_iff_getElem?] at h1
    exact ⟨h1, h2⟩
  · rintro ⟨h1, h2⟩
    exact ⟨(v, i), ⟨by rw [List.mem_zipIdx_iff_getElem?]; exact h1, h2⟩, rfl⟩
def ri_c2 (v : Value) : Bool := match v with
  | .long _ => true
  | .double _ => true
  | _ => false
/-- a value of one word into place i: a value of two words at i - 1 goes -/
def ri_s1 (ls : List Value) (i : Nat) (v : Value) : List Value := match i with
  | 0 => ri_upd ls 0 v
  | i + 1 => match ri_nth ls i with
    | some w => if ri_c2 w then ri_upd (ri_upd ls i .null) (i + 1) v else ri_upd ls (i + 1) v
    | none => []
def ri_s2 (ls : List Value) (i : Nat) (v : Value) : List Value := ri_upd (ri_s1 ls i v) (i + 1) .null
abbrev ri_N : Type := Option (Option Nat × List Value × List Value × ri_L)
/-- an int on the stack: known or not -/
def ri_isI (v : Value) : Bool := match v with
  | .retAddr _ => true
  | .float b => Nat.ble b.toNat 1000
  | _ => false
def ri_isL (v : Value) : Bool := match v with
  | .long _ => true
  | .double _ => true
  | _ => false
abbrev ri_Env : Type := List (Int × Int)
def ri_sg (n : Nat) : Int := if n % 4294967296 < 2147483648 then ((n % 4294967296 : Nat) : Int) else ((n % 4294967296 : Nat) : Int) - 4294967296
def ri_iv (E : ri_Env) (v : Value) : Option (Int × Int) := match v with
  | .retAddr n => some (ri_sg n, ri_sg n)
  | .float b => ri_nth E b.toNat
  | _ => none
/-- what is known of a comparison -/
def ri_dec (c : ClassFile.Cond) (a b : Int × Int) : Option Bool := match c with
  | .eq => if a.2 < b.1 ∨ b.2 < a.1 then some false else if a.1 = b.1 ∧ a.2 = b.2 ∧ a.1 = a.2 then some true else none
  | .ne => if a.2 < b.1 ∨ b.2 < a.1 then some true else if a.1 = b.1 ∧ a.2 = b.2 ∧ a.1 = a.2 then some false else none
  | .lt => if a.2 < b.1 then some true else if b.2 ≤ a.1 then some false else none
  | .ge => if b.2 ≤ a.1 then some true else if a.2 < b.1 then some false else none
  | .gt => if b.2 < a.1 then some true else if a.2 ≤ b.1 then some false else none
  | .le => if a.2 ≤ b.1 then some true else if b.2 < a.1 then some false else none
def ri_b2 (n : Nat) : Nat := (n + 2147483648) % 4294967296
def ri_cmpn (c : ClassFile.Cond) (x z : Nat) : Bool := match c with
  | .eq => Nat.beq (x % 4294967296) (z % 4294967296)
  | .ne => !Nat.beq (x % 4294967296) (z % 4294967296)
  | .lt => Nat.blt (ri_b2 x) (ri_b2 z)
  | .ge => Nat.ble (ri_b2 z) (ri_b2 x)
  | .gt => Nat.blt (ri_b2 z) (ri_b2 x)
  | .le => Nat.ble (ri_b2 x) (ri_b2 z)
def ri_cmpv (E : ri_Env) (c : ClassFile.Cond) (v w : Value) : Option Bool := if ri_isI v && ri_isI w then match ri_iv E v, ri_iv E w with
    | some a, some b => ri_dec c a b
    | _, _ => none
    else none
def ri_cmp (E : ri_Env) (c : ClassFile.Cond) (v w : Value) : Option Bool := match v with
  | .retAddr x => match w with
    | .retAddr z => some (ri_cmpn c x z)
    | _ => ri_cmpv E c v w
  | _ => ri_cmpv E c v w
/-- an unknown number of a plan -/
def ri_p8 (E : ri_Env) (i : Nat) : Bool := Nat.ble i 900 && (match ri_nth E i with
  | some (lo, hi) => decide (0 ≤ lo ∧ hi ≤ 7)
  | none => false)
def ri_isP (E : ri_Env) (b : UInt32) : Bool := Nat.ble 2000 b.toNat && (Nat.ble b.toNat 2900 && ri_p8 E (b.toNat - 2000))
def ri_isC (E : ri_Env) (b : UInt32) : Bool := Nat.ble 3000 b.toNat && (Nat.ble b.toNat 3900 && ri_p8 E (b.toNat - 3000))
def ri_isPl (e : Option ri_E) (j x : Nat) : Bool := match e with
  | some (.inr (ci, fs)) => Nat.beq ci 2 && decide (fs = [.ref (91 + 2 * j), .retAddr x])
  | _ => false
/-- all plans are there and have x twists -/
def ri_pall (L : ri_L) (x : Nat) : Bool := Nat.ble 106 L.1 && (List.range 8).all (fun j => ri_isPl (ri_get L.2.2 (90 + 2 * j)) j x)
def ri_pcell (L : ri_L) : Option Nat := match ri_get L.2.2 90 with
  | some (.inr (_, [_, .retAddr x])) => if ri_pall L x then some x else none
  | _ => none
/-- an array of ints, known or of an unknown plan -/
def ri_isIA (E : ri_Env) (L : ri_L) (v : Value) : Bool := match v with
  | .ref a => Nat.blt a L.1 && (match ri_get L.2.2 a with
    | some (.inl (0, .inl _)) => true
    | _ => false)
  | .float b => ri_isC E b && (Nat.ble 106 L.1 && (List.range 8).all (fun j => match ri_get L.2.2 (91 + 2 * j) with
    | some (.inl (0, .inl _)) => true
    | _ => false))
  | _ => false
def ri_df (ci : Nat) : List Value := (am_df ci).map (fun v => match v with
  | .int _ => .retAddr 0
  | v => v)
def st_iconst (E : ri_Env) (r : ri_row) (lv st : List Value) (L : ri_L) : ri_N := some (none, lv, .retAddr r.2.2.2.1 :: st, L)
def st_lconst (E : ri_Env) (r : ri_row) (lv st : List Value) (L : ri_L) : ri_N := ri_fl (Int64.ofNat r.2.2.2.1) (fun x => some (none, lv, .long x :: st, L))
def st_iload (E : ri_Env) (r : ri_row) (lv st : List Value) (L : ri_L) : ri_N := match ri_nth lv r.2.1 with
  | some v => if ri_isI v then some (none, lv, v :: st, L) else none
  | none => none
def st_lload (E : ri_Env) (r : ri_row) (lv st : List Value) (L : ri_L) : ri_N := match ri_nth lv r.2.1 with
  | some v => if ri_isL v then some (none, lv, v :: st, L) else none
  | none => none
def st_aload (E : ri_Env) (r : ri_row) (lv st : List Value) (L : ri_L) : ri_N := match ri_nth lv r.2.1 with
  | some (.ref x) => some (none, lv, .ref x :: st, L)
  | some (.float b) => if Nat.ble 2000 b.toNat && Nat.ble b.toNat 3900 then some (none, lv, .float b :: st, L) else none
  | _ => none
def st_istore (E : ri_Env) (r : ri_row) (lv st : List Value) (L : ri_L) : ri_N := match st with
  | v :: st => if ri_isI v then some (none, ri_s1 lv r.2.1 v, st, L) else none
  | _ => none
def st_lstore (E : ri_Env) (r : ri_row) (lv st : List Value) (L : ri_L) : ri_N := match st with
  | v :: st => if ri_isL v then some (none, ri_s2 lv r.2.1 v, st, L) else none
  | _ => none
def st_astore (E : ri_Env) (r : ri_row) (lv st : List Value) (L : ri_L) : ri_N := match st with
  | .ref x :: st => some (none, ri_s1 lv r.2.1 (.ref x), st, L)
  | .float b :: st => if Nat.ble 2000 b.toNat && Nat.ble b.toNat 3900 then some (none, ri_s1 lv r.2.1 (.float b), st, L) else none
  | _ => none
def st_iinc (E : ri_Env) (r : ri_row) (lv st : List Value) (L : ri_L) : ri_N := match ri_nth lv r.2.1 with
  | some (.retAddr x) => ri_fn ((x + r.2.2.2.1) % 4294967296) (fun x => some (none, ri_s1 lv r.2.1 (.retAddr x), st, L))
  | _ => none
def st_iadd (E : ri_Env) (r : ri_row) (lv st : List Value) (L : ri_L) : ri_N := match st with
  | .retAddr z :: .retAddr x :: st => ri_fn ((x + z) % 4294967296) (fun x => some (none, lv, .retAddr x :: st, L))
  | _ => none
def st_isub (E : ri_Env) (r : ri_row) (lv st : List Value) (L : ri_L) : ri_N := match st with
  | .retAddr z :: .retAddr x :: st => ri_fn ((x + (4294967296 - z % 4294967296)) % 4294967296) (fun x => some (none, lv, .retAddr x :: st, L))
  | _ => none
def st_imul (E : ri_Env) (r : ri_row) (lv st : List Value) (L : ri_L) : ri_N := match st with
  | .retAddr z :: .retAddr x :: st => ri_fn ((x * z) % 4294967296) (fun x => some (none, lv, .retAddr x :: st, L))
  | _ => none
def st_iand (E : ri_Env) (r : ri_row) (lv st : List Value) (L : ri_L) : ri_N := match st with
  | .retAddr z :: .retAddr x :: st => ri_fn (Nat.land x z) (fun x => some (none, lv, .retAddr x :: st, L))
  | _ => none
def st_ixor (E : ri_Env) (r : ri_row) (lv st : List Value) (L : ri_L) : ri_N := match st with
  | .retAddr z :: .retAddr x :: st => ri_fn (Nat.xor x z) (fun x => some (none, lv, .retAddr x :: st, L))
  | _ => none
def st_ishl (E : ri_Env) (r : ri_row) (lv st : List Value) (L : ri_L) : ri_N := match st with
  | .retAddr z :: .retAddr x :: st => if Nat.blt z 32 && Nat.blt (x * 2 ^ z) 4294967296 then ri_fn (x * 2 ^ z) (fun x => some (none, lv, .retAddr x :: st, L)) else none
  | _ => none
def st_iushr (E : ri_Env) (r : ri_row) (lv st : List Value) (L : ri_L) : ri_N := match st with
  | .retAddr z :: .retAddr x :: st => if Nat.blt z 32 && Nat.blt x 4294967296 then ri_fn (x / 2 ^ z) (fun x => some (none, lv, .retAddr x :: st, L)) else none
  | _ => none
def st_idiv (E : ri_Env) (r : ri_row) (lv st : List Value) (L : ri_L) : ri_N := match st with
  | .retAddr z :: .retAddr x :: st => if Nat.blt x 2147483648 && (Nat.blt 0 z && Nat.blt z 2147483648) then ri_fn (x / z) (fun x => some (none, lv, .retAddr x :: st, L)) else none
  | _ => none
def st_irem (E : ri_Env) (r : ri_row) (lv st : List Value) (L : ri_L) : ri_N := match st with
  | .retAddr z :: .retAddr x :: st => if Nat.blt x 2147483648 && (Nat.blt 0 z && Nat.blt z 2147483648) then ri_fn (x % z) (fun x => some (none, lv, .retAddr x :: st, L)) else none
  | _ => none
def st_ishr (E : ri_Env) (r : ri_row) (lv st : List Value) (L : ri_L) : ri_N := match st with
  | .retAddr z :: .retAddr x :: st => if Nat.blt z 32 && Nat.blt x 2147483648 then ri_fn (x / 2 ^ z) (fun x => some (none, lv, .retAddr x :: st, L)) else none
  | .retAddr z :: .float b :: st => if Nat.beq z 0 && Nat.ble b.toNat 1000 then some (none, lv, .float b :: st, L) else none
  | _ => none
def st_ineg (E : ri_Env) (r : ri_row) (lv st : List Value) (L : ri_L) : ri_N := match st with
  | .retAddr x :: st => ri_fn ((4294967296 - x % 4294967296) % 4294967296) (fun x => some (none, lv, .retAddr x :: st, L))
  | _ => none
def st_ladd (E : ri_Env) (r : ri_row) (lv st : List Value) (L : ri_L) : ri_N := match st with
  | .long z :: .long x :: st => ri_fl (x + z) (fun x => some (none, lv, .long x :: st, L))
  | _ => none
def st_lmul (E : ri_Env) (r : ri_row) (lv st : List Value) (L : ri_L) : ri_N := match st with
  | .long z :: .long x :: st => ri_fl (x * z) (fun x => some (none, lv, .long x :: st, L))
  | _ => none
def st_i2l (E : ri_Env) (r : ri_row) (lv st : List Value) (L : ri_L) : ri_N := match st with
  | .retAddr x :: st => ri_fl (nI x).toInt64 (fun x => some (none, lv, .long x :: st, L))
  | .float b :: st => if Nat.ble b.toNat 1000 then some (none, lv, .double b.toUInt64 :: st, L) else none
  | _ => none
def st_lcmp (E : ri_Env) (r : ri_row) (lv st : List Value) (L : ri_L) : ri_N := match st with
  | .long z :: .long x :: st => if z < x then some (none, lv, .retAddr 1 :: st, L) else if x = z then some (none, lv, .retAddr 0 :: st, L) else some (none, lv, .retAddr 4294967295 :: st, L)
  | .long z :: .double b :: st => match ri_nth E b.toNat with
    | some (lo, hi) => if hi < z.toInt then some (none, lv, .retAddr 4294967295 :: st, L) else if z.toInt < lo then some (none, lv, .retAddr 1 :: st, L) else if lo = z.toInt ∧ hi = z.toInt then some (none, lv, .retAddr 0 :: st, L) else none
    | none => none
  | _ => none
def st_dup (E : ri_Env) (r : ri_row) (lv st : List Value) (L : ri_L) : ri_N := match st with
  | .retAddr x :: st => some (none, lv, .retAddr x :: .retAddr x :: st, L)
  | .ref x :: st => some (none, lv, .ref x :: .ref x :: st, L)
  | _ => none
def st_dup2 (E : ri_Env) (r : ri_row) (lv st : List Value) (L : ri_L) : ri_N := match st with
  | .retAddr x :: .ref z :: st => some (none, lv, .retAddr x :: .ref z :: .retAddr x :: .ref z :: st, L)
  | _ => none
def st_icmp_eq (E : ri_Env) (r : ri_row) (lv st : List Value) (L : ri_L) : ri_N := match st with
  | z :: x :: st => match ri_cmp E .eq x z with
    | some true => some (some r.2.1, lv, st, L)
    | some false => some (none, lv, st, L)
    | none => none
  | _ => none
def st_if_eq (E : ri_Env) (r : ri_row) (lv st : List Value) (L : ri_L) : ri_N := match st with
  | x :: st => match ri_cmp E .eq x (.retAddr 0) with
    | some true => some (some r.2.1, lv, st, L)
    | some false => some (none, lv, st, L)
    | none => none
  | _ => none
def st_icmp_ne (E : ri_Env) (r : ri_row) (lv st : List Value) (L : ri_L) : ri_N := match st with
  | z :: x :: st => match ri_cmp E .ne x z with
    | some true => some (some r.2.1, lv, st, L)
    | some false => some (none, lv, st, L)
    | none => none
  | _ => none
def st_if_ne (E : ri_Env) (r : ri_row) (lv st : List Value) (L : ri_L) : ri_N := match st with
  | x :: st => match ri_cmp E .ne x (.retAddr 0) with
    | some true => some (some r.2.1, lv, st, L)
    | some false => some (none, lv, st, L)
    | none => none
  | _ => none
def st_icmp_lt (E : ri_Env) (r : ri_row) (lv st : List Value) (L : ri_L) : ri_N := match st with
  | z :: x :: st => match ri_cmp E .lt x z with
    | some true => some (some r.2.1, lv, st, L)
    | some false => some (none, lv, st, L)
    | none => none
  | _ => none
def st_if_lt (E : ri_Env) (r : ri_row) (lv st : List Value) (L : ri_L) : ri_N := match st with
  | x :: st => match ri_cmp E .lt x (.retAddr 0) with
    | some true => some (some r.2.1, lv, st, L)
    | some false => some (none, lv, st, L)
    | none => none
  | _ => none
def st_icmp_ge (E : ri_Env) (r : ri_row) (lv st : List Value) (L : ri_L) : ri_N := match st with
  | z :: x :: st => match ri_cmp E .ge x z with
    | some true => some (some r.2.1, lv, st, L)
    | some false => some (none, lv, st, L)
    | none => none
  | _ => none
def st_if_ge (E : ri_Env) (r : ri_row) (lv st : List Value) (L : ri_L) : ri_N := match st with
  | x :: st => match ri_cmp E .ge x (.retAddr 0) with
    | some true => some (some r.2.1, lv, st, L)
    | some false => some (none, lv, st, L)
    | none => none
  | _ => none
def st_icmp_gt (E : ri_Env) (r : ri_row) (lv st : List Value) (L : ri_L) : ri_N := match st with
  | z :: x :: st => match ri_cmp E .gt x z with
    | some true => some (some r.2.1, lv, st, L)
    | some false => some (none, lv, st, L)
    | none => none
  | _ => none
def st_if_gt (E : ri_Env) (r : ri_row) (lv st : List Value) (L : ri_L) : ri_N := match st with
  | x :: st => match ri_cmp E .gt x (.retAddr 0) with
    | some true => some (some r.2.1, lv, st, L)
    | some false => some (none, lv, st, L)
    | none => none
  | _ => none
def st_icmp_le (E : ri_Env) (r : ri_row) (lv st : List Value) (L : ri_L) : ri_N := match st with
  | z :: x :: st => match ri_cmp E .le x z with
    | some true => some (some r.2.1, lv, st, L)
    | some false => some (none, lv, st, L)
    | none => none
  | _ => none
def st_if_le (E : ri_Env) (r : ri_row) (lv st : List Value) (L : ri_L) : ri_N := match st with
  | x :: st => match ri_cmp E .le x (.retAddr 0) with
    | some true => some (some r.2.1, lv, st, L)
    | some false => some (none, lv, st, L)
    | none => none
  | _ => none
def st_goto (E : ri_Env) (r : ri_row) (lv st : List Value) (L : ri_L) : ri_N := some (some r.2.1, lv, st, L)
def st_getfield (E : ri_Env) (r : ri_row) (lv st : List Value) (L : ri_L) : ri_N := match st with
  | .ref a :: st => match ri_get L.2.2 a with
    | some (.inr (ci, fs)) => if Nat.ble L.1 a then none else if Nat.beq ci r.2.1 then match ri_nth fs r.2.2.1 with
        | some v => some (none, lv, v :: st, L)
        | none => none
      else none
    | _ => none
  | .float b :: st => if ri_isP E b && Nat.beq r.2.1 2 then match ri_pcell L with
    | some x => if Nat.beq r.2.2.1 1 then some (none, lv, .retAddr x :: st, L) else if Nat.beq r.2.2.1 0 then some (none, lv, .float (UInt32.ofNat (b.toNat + 1000)) :: st, L) else none
    | none => none
    else none
  | _ => none
def st_putfield (E : ri_Env) (r : ri_row) (lv st : List Value) (L : ri_L) : ri_N := match st with
  | .retAddr x :: .ref a :: st => match ri_get L.2.2 a with
    | some (.inr (ci, fs)) => if Nat.ble L.1 a then none else if Nat.beq ci r.2.1 && ((Nat.beq r.2.2.2.1 0 || (Nat.beq r.2.2.2.1 1 && Nat.ble x 1)) && (ri_nth fs r.2.2.1).isSome) then some (none, lv, st, (L.1, L.2.1, ri_put L.2.2 a (.inr (ci, ri_upd fs r.2.2.1 (.retAddr x))))) else none
    | _ => none
  | .ref x :: .ref a :: st => match ri_get L.2.2 a with
    | some (.inr (ci, fs)) => if Nat.ble L.1 a then none else if Nat.beq ci r.2.1 && (Nat.beq r.2.2.2.1 2 && (ri_nth fs r.2.2.1).isSome) then some (none, lv, st, (L.1, L.2.1, ri_put L.2.2 a (.inr (ci, ri_upd fs r.2.2.1 (.ref x))))) else none
    | _ => none
  | .retAddr x :: .float b :: st => if ri_isP E b && (Nat.beq r.2.1 2 && (Nat.beq r.2.2.1 1 && (Nat.beq r.2.2.2.1 0 && ri_pall L x))) then some (none, lv, st, L) else none
  | _ => none
def st_iaload (E : ri_Env) (r : ri_row) (lv st : List Value) (L : ri_L) : ri_N := match st with
  | .retAddr i :: .ref a :: st => match ri_get L.2.2 a with
    | some (.inl (0, .inl l)) => if Nat.ble L.1 a then none else if Nat.ble 2147483648 i then none else match ri_nth l i with
        | some x => some (none, lv, .retAddr x :: st, L)
        | none => none
    | _ => none
  | .retAddr i :: .float b :: st => if b = 4294967295 then match ri_nth [9, 10, 5, 6, 1, 2, 0, 0, 3, 4, 7, 8, 11] i with
      | some x => some (none, lv, .retAddr x :: st, L)
      | none => none
    else none
  | .float b :: .ref a :: st => match ri_get L.2.2 a with
    | some (.inl (0, .inl l)) => if Nat.ble L.1 a then none else match ri_nth l 0 with
      | some x => if ri_p8 E b.toNat && (List.range 8).all (fun j => decide (ri_nth l j = some x)) then some (none, lv, .retAddr x :: st, L) else none
      | none => none
    | _ => none
  | _ => none
def st_iastore (E : ri_Env) (r : ri_row) (lv st : List Value) (L : ri_L) : ri_N := match st with
  | .retAddr x :: .retAddr i :: .ref a :: st => match ri_get L.2.2 a with
    | some (.inl (0, .inl l)) => if Nat.ble L.1 a then none else if Nat.ble 2147483648 i then none else if (ri_nth l i).isSome then some (none, lv, st, (L.1, L.2.1, ri_put L.2.2 a (.inl (0, .inl (ri_upd l i x))))) else none
    | _ => none
  | .retAddr x :: .float b :: .ref a :: st => match ri_get L.2.2 a with
    | some (.inl (0, .inl l)) => if Nat.ble L.1 a then none else if ri_p8 E b.toNat && (List.range 8).all (fun j => decide (ri_nth l j = some x)) then some (none, lv, st, L) else none
    | _ => none
  | _ => none
def st_laload (E : ri_Env) (r : ri_row) (lv st : List Value) (L : ri_L) : ri_N := match st with
  | .retAddr i :: .ref a :: st => match ri_get L.2.2 a with
    | some (.inl (1, .inr (.inl l))) => if Nat.ble L.1 a then none else if Nat.ble 2147483648 i then none else match ri_nth l i with
        | some x => some (none, lv, .long x :: st, L)
        | none => none
    | _ => none
  | _ => none
def st_lastore (E : ri_Env) (r : ri_row) (lv st : List Value) (L : ri_L) : ri_N := match st with
  | .long x :: .retAddr i :: .ref a :: st => match ri_get L.2.2 a with
    | some (.inl (1, .inr (.inl l))) => if Nat.ble L.1 a then none else if Nat.ble 2147483648 i then none else if (ri_nth l i).isSome then some (none, lv, st, (L.1, L.2.1, ri_put L.2.2 a (.inl (1, .inr (.inl (ri_upd l i x)))))) else none
    | _ => none
  | _ => none
def st_aaload (E : ri_Env) (r : ri_row) (lv st : List Value) (L : ri_L) : ri_N := match st with
  | .retAddr i :: .ref a :: st => match ri_get L.2.2 a with
    | some (.inl (t, .inr (.inr l))) => if Nat.ble L.1 a then none else if Nat.ble 2 t && Nat.ble t 4 then if Nat.ble 2147483648 i then none else match ri_nth l i with
        | some (some b) => some (none, lv, .ref b :: st, L)
        | _ => none
      else none
    | _ => none
  | .float b :: .ref a :: st => match ri_get L.2.2 a with
    | some (.inl (4, .inr (.inr l))) => if Nat.ble L.1 a then none else if ri_p8 E b.toNat && (List.range 8).all (fun j => decide (ri_nth l j = some (some (90 + 2 * j)))) then some (none, lv, .float (UInt32.ofNat (b.toNat + 2000)) :: st, L) else none
    | _ => none
  | _ => none
def st_aastore (E : ri_Env) (r : ri_row) (lv st : List Value) (L : ri_L) : ri_N := match st with
  | .ref b :: .retAddr i :: .ref a :: st => match ri_get L.2.2 a, ri_get L.2.2 b with
    | some (.inl (t, .inr (.inr l))), some (.inr (ci, _)) => if Nat.ble L.1 a || Nat.ble L.1 b then none else if (Nat.beq t 2 && Nat.beq ci 4) || ((Nat.beq t 3 && Nat.beq ci 3) || (Nat.beq t 4 && Nat.beq ci 2)) then if Nat.ble 2147483648 i then none else if (ri_nth l i).isSome then some (none, lv, st, (L.1, L.2.1, ri_put L.2.2 a (.inl (t, .inr (.inr (ri_upd l i (some b))))))) else none else none
    | _, _ => none
  | _ => none
def st_arraylength (E : ri_Env) (r : ri_row) (lv st : List Value) (L : ri_L) : ri_N := match st with
  | .ref a :: st => match ri_get L.2.2 a with
    | some (.inl (0, .inl l)) => if Nat.ble L.1 a then none else ri_fn l.length (fun x => some (none, lv, .retAddr x :: st, L))
    | _ => none
  | .float b :: st => if b = 4294967295 then some (none, lv, .retAddr 13 :: st, L) else none
  | _ => none
def st_getstatic (E : ri_Env) (r : ri_row) (lv st : List Value) (L : ri_L) : ri_N := some (none, lv, .float 4294967295 :: st, L)
def st_new (E : ri_Env) (r : ri_row) (lv st : List Value) (L : ri_L) : ri_N := if (ri_get L.2.2 L.1).isSome then ri_fn (L.1 + 1) (fun n => ri_fn (L.2.1 + (ri_df r.2.1).length) (fun s => some (none, lv, .ref L.1 :: st, (n, s, ri_put L.2.2 L.1 (.inr (r.2.1, ri_df r.2.1)))))) else none
def st_newi (E : ri_Env) (r : ri_row) (lv st : List Value) (L : ri_L) : ri_N := match st with
  | .retAddr x :: st => if Nat.ble x 10000 && (ri_get L.2.2 L.1).isSome then ri_fn (L.1 + 1) (fun n => ri_fn (L.2.1 + x) (fun s => some (none, lv, .ref L.1 :: st, (n, s, ri_put L.2.2 L.1 (.inl (0, .inl (List.replicate x 0))))))) else none
  | _ => none
def st_newl (E : ri_Env) (r : ri_row) (lv st : List Value) (L : ri_L) : ri_N := match st with
  | .retAddr x :: st => if Nat.ble x 10000 && (ri_get L.2.2 L.1).isSome then ri_fn (L.1 + 1) (fun n => ri_fn (L.2.1 + x) (fun s => some (none, lv, .ref L.1 :: st, (n, s, ri_put L.2.2 L.1 (.inl (1, .inr (.inl (List.replicate x 0)))))))) else none
  | _ => none
def st_newq (E : ri_Env) (r : ri_row) (lv st : List Value) (L : ri_L) : ri_N := match st with
  | .retAddr x :: st => if Nat.ble x 10000 && (ri_get L.2.2 L.1).isSome then ri_fn (L.1 + 1) (fun n => ri_fn (L.2.1 + x) (fun s => some (none, lv, .ref L.1 :: st, (n, s, ri_put L.2.2 L.1 (.inl (r.2.1, .inr (.inr (List.replicate x none)))))))) else none
  | _ => none
def st_table (E : ri_Env) (r : ri_row) (lv st : List Value) (L : ri_L) : ri_N := match st with
  | .retAddr x :: st => if Nat.ble 2147483648 x then none else match ri_nth r.2.2.2.2.1 x with
    | some t => some (some t, lv, st, L)
    | none => some (some r.2.1, lv, st, L)
  | .float b :: st => if Nat.ble b.toNat 1000 then match ri_nth E b.toNat with
    | some (l0, h0) => if h0 < 0 ∨ (r.2.2.2.2.1.length : Int) ≤ l0 then some (some r.2.1, lv, st, L) else none
    | none => none
    else none
  | _ => none
abbrev ri_V : Type := Option (Option Value × ri_L)
abbrev ri_K : Type := List ri_row → List Value → List Value → ri_L → ri_V
abbrev ri_Cl : Type := Nat → List Value → ri_L → ri_V
abbrev ri_G : Type := ri_Env → ri_Cl → List ri_row → ri_K → ri_row → List ri_row → List Value → List Value → ri_L → ri_V
def ri_drp {α : Type} (n : Nat) : List α → List α := Nat.rec (motive := fun _ => List α → List α) (fun l => l) (fun _ ih l => List.rec (motive := fun _ => List α) [] (fun _ t _ => ih t) l) n
theorem ri_drp_eq {α : Type} : ∀ (n : Nat) (l : List α), ri_drp n l = l.drop n
  | 0, l => rfl
  | n + 1, [] => rfl
  | n + 1, x :: t => by
    show ri_drp n t = _
    rw [ri_drp_eq n t]
    rfl
def ri_cnt (l : List Value) : Nat := List.rec (motive := fun _ => Nat) 0 (fun _ _ ih => ih + 1) l
theorem ri_cnt_eq : ∀ l : List Value, ri_cnt l = l.length
  | [] => rfl
  | x :: t => by
    show ri_cnt t + 1 = _
    rw [ri_cnt_eq t]
    rfl
theorem ri_cnt_cat : ∀ l : List Value, (l.map fun v => v.category).sum ≤ 2 * ri_cnt l
  | [] => Nat.le_refl _
  | x :: t => by
    have h := ri_cnt_cat t
    have h2 : x.category ≤ 2 := by cases x <;> simp [Value.category]
    show (List.map (fun v : Value => v.category) (x :: t)).sum ≤ 2 * (ri_cnt t + 1)
    simp only [List.map_cons, List.sum_cons]
    omega
/-- n values off the stack, in their order, and the rest -/
def ri_spl (n : Nat) : List Value → List Value → Option (List Value × List Value) := Nat.rec (motive := fun _ => List Value → List Value → Option (List Value × List Value)) (fun acc st => some (acc, st)) (fun _ ih acc st => List.rec (motive := fun _ => Option (List Value × List Value)) none (fun v t _ => ih (v :: acc) t) st) n
theorem ri_spl_ok : ∀ (n : Nat) (acc st as rest : List Value), ri_spl n acc st = some (as, rest) → ∃ bs : List Value, as = bs ++ acc ∧ st = bs.reverse ++ rest ∧ bs.length = n
  | 0, acc, st, as, rest, h => by
    have h : some (acc, st) = some (as, rest) := h
    cases h
    exact ⟨[], rfl, rfl, rfl⟩
  | n + 1, acc, [], as, rest, h => by cases h
  | n + 1, acc, v :: t, as, rest, h => by
    obtain ⟨bs, h1, h2, h3⟩ := ri_spl_ok n (v :: acc) t as rest h
    exact ⟨bs ++ [v], by rw [h1]; simp, by rw [h2]; simp, by simp [h3]⟩
def gs_s (f : ri_Env → ri_row → List Value → List Value → ri_L → ri_N) (E : ri_Env) (_ : ri_Cl) (tb : List ri_row) (ih : ri_K) (r : ri_row) (nx : List ri_row) (lv st : List Value) (L : ri_L) : ri_V := match f E r lv st L with
  | some (none, lv, st, L) => ih nx lv st L
  | some (some t, lv, st, L) => ih (ri_drp t tb) lv st L
  | none => none
def gs_ireturn (_ : ri_Env) (_ : ri_Cl) (_ : List ri_row) (_ : ri_K) (r : ri_row) (_ : List ri_row) (_ st : List Value) (L : ri_L) : ri_V := match st with
  | [.retAddr v] => if Nat.beq r.2.2.1 0 || Nat.ble v 1 then some (some (.retAddr v), L) else none
  | _ => none
def gs_lreturn (_ : ri_Env) (_ : ri_Cl) (_ : List ri_row) (_ : ri_K) (_ : ri_row) (_ : List ri_row) (_ st : List Value) (L : ri_L) : ri_V := match st with
  | [.long v] => some (some (.long v), L)
  | _ => none
def gs_return (_ : ri_Env) (_ : ri_Cl) (_ : List ri_row) (_ : ri_K) (_ : ri_row) (_ : List ri_row) (_ st : List Value) (L : ri_L) : ri_V := match st with
  | [] => some (none, L)
  | _ => none
def ri_app (v : Option Value) (rest : List Value) : List Value := match v with
  | some v => v :: rest
  | none => rest
def gs_virtual (E : ri_Env) (callee : ri_Cl) (_ : List ri_row) (ih : ri_K) (r : ri_row) (nx : List ri_row) (lv st : List Value) (L : ri_L) : ri_V := match ri_spl r.2.2.2.1 [] st with
  | some (as, .ref a :: rest) => match ri_get L.2.2 a with
    | some (.inr (ci, _)) => if Nat.ble L.1 a then none else if Nat.beq ci r.2.2.1 && Nat.ble (ri_cnt rest) 4 then match callee r.2.1 (.ref a :: as) L with
        | some (v, L2) => ih nx lv (ri_app v rest) L2
        | none => none
      else none
    | _ => none
  | some (as, .float b :: rest) => if ri_isP E b && (Nat.beq r.2.2.1 2 && ((ri_pcell L).isSome && Nat.ble (ri_cnt rest) 4)) then match callee r.2.1 (.float b :: as) L with
      | some (v, L2) => ih nx lv (ri_app v rest) L2
      | none => none
    else none
  | _ => none
def ri_cpn (n : Nat) : List Nat → List Nat → List Nat := Nat.rec (motive := fun _ => List Nat → List Nat → List Nat) (fun _ l2 => l2) (fun _ ih src l2 => List.rec (motive := fun _ => List Nat) [] (fun y s _ => List.rec (motive := fun _ => List Nat) [] (fun _ t _ => y :: ih s t) l2) src) n
def ri_cpf (dp : Nat) (n : Nat) (src : List Nat) : List Nat → List Nat := Nat.rec (motive := fun _ => List Nat → List Nat) (fun l2 => ri_cpn n src l2) (fun _ ih l2 => List.rec (motive := fun _ => List Nat) [] (fun x t _ => x :: ih t) l2) dp
theorem ri_cpn_eq : ∀ (n : Nat) (s l : List Nat), n ≤ s.length → n ≤ l.length → ri_cpn n s l = s.take n ++ l.drop n
  | 0, s, l, _, _ => by
    show l = _
    simp
  | n + 1, [], l, h, _ => by simp at h
  | n + 1, y :: s, [], _, h => by simp at h
  | n + 1, y :: s, x :: t, h1, h2 => by
    show y :: ri_cpn n s t = _
    rw [ri_cpn_eq n s t (by simpa using h1) (by simpa using h2)]
    simp
theorem ri_cpf_eq : ∀ (dp n : Nat) (s l : List Nat), n ≤ s.length → dp + n ≤ l.length → ri_cpf dp n s l = l.take dp ++ (s.take n ++ l.drop (dp + n))
  | 0, n, s, l, h1, h2 => by
    show ri_cpn n s l = _
    rw [ri_cpn_eq n s l h1 (by omega)]
    simp
  | dp + 1, n, s, [], _, h2 => by simp at h2
  | dp + 1, n, s, x :: t, h1, h2 => by
    show x :: ri_cpf dp n s t = _
    rw [ri_cpf_eq dp n s t h1 (by simp at h2; omega)]
    rw [show dp + 1 + n = (dp + n) + 1 by omega]
    simp
def ri_copy (st : List Value) (L : ri_L) : Option (List Value × ri_L) := match st with
  | .retAddr x :: .retAddr dp :: .ref b :: .retAddr sp :: .ref a :: st => match ri_get L.2.2 a, ri_get L.2.2 b with
    | some (.inl (0, .inl l1)), some (.inl (0, .inl l2)) => if Nat.ble L.1 a || Nat.ble L.1 b then none else if Nat.ble 100000 sp || (Nat.ble 100000 dp || Nat.ble 100000 x) then none else if ri_le (sp + x) l1 && (ri_le (dp + x) l2 && Nat.ble (ri_cnt st) 4) then some (st, (L.1, L.2.1, ri_put L.2.2 b (.inl (0, .inl (ri_cpf dp x (ri_drp sp l1) l2))))) else none
    | _, _ => none
  | _ => none
/-- nothing is copied -/
def ri_copy0 (E : ri_Env) (st : List Value) (L : ri_L) : Option (List Value × ri_L) := match st with
  | .retAddr x :: .retAddr dp :: v2 :: .retAddr sp :: v1 :: st => if Nat.beq x 0 && (Nat.beq dp 0 && (Nat.beq sp 0 && (ri_isIA E L v1 && (ri_isIA E L v2 && Nat.ble (ri_cnt st) 4)))) then some (st, L) else none
  | _ => none
def ri_mth (b : Nat) (st : List Value) : Option (Nat × List Value) := match st with
  | .retAddr z :: st => if Nat.beq b 5 then some (if Nat.blt (z % 4294967296) 2147483648 then z else (4294967296 - z % 4294967296) % 4294967296, st) else match st with
    | .retAddr x :: st => if Nat.beq b 3 then some (if ri_cmpn .lt x z then z else x, st) else if Nat.beq b 4 then some (if ri_cmpn .lt z x then z else x, st) else none
    | _ => none
  | _ => none
def gs_static (E : ri_Env) (callee : ri_Cl) (_ : List ri_row) (ih : ri_K) (r : ri_row) (nx : List ri_row) (lv st : List Value) (L : ri_L) : ri_V := if Nat.beq r.2.2.1 2 then match ri_copy st L with
    | some (st, L) => ih nx lv st L
    | none => match ri_copy0 E st L with
      | some (st, L) => ih nx lv st L
      | none => none
  else if Nat.ble 3 r.2.2.1 then match ri_mth r.2.2.1 st with
    | some (x, st) => if Nat.ble (ri_cnt st) 4 then ri_fn x (fun x => ih nx lv (.retAddr x :: st) L) else none
    | none => none
  else match ri_spl r.2.2.2.1 [] st with
    | some (as, rest) => if Nat.ble (ri_cnt rest) 4 then match callee r.2.1 as L with
        | some (v, L2) => ih nx lv (ri_app v rest) L2
        | none => none
      else none
    | none => none
def gs_special (_ : ri_Env) (callee : ri_Cl) (_ : List ri_row) (ih : ri_K) (r : ri_row) (nx : List ri_row) (lv st : List Value) (L : ri_L) : ri_V := if Nat.beq r.2.2.1 1 then match st with
    | .ref a :: st => if Nat.ble (ri_cnt st) 4 then ih nx lv st L else none
    | _ => none
  else match ri_spl r.2.2.2.1 [] st with
  | some (as, .ref a :: rest) => if Nat.ble (ri_cnt rest) 4 then match callee r.2.1 (.ref a :: as) L with
      | some (v, L2) => ih nx lv (ri_app v rest) L2
      | none => none
    else none
  | _ => none
def gs_none (_ : ri_Env) (_ : ri_Cl) (_ : List ri_row) (_ : ri_K) (_ : ri_row) (_ : List ri_row) (_ _ : List Value) (_ : ri_L) : ri_V := none
def ri_fns : List ri_G := [gs_s st_aload, gs_s st_iload, gs_s st_iconst, gs_s st_getfield, gs_virtual, gs_ireturn, gs_s st_goto, gs_s st_iadd, gs_s st_iaload, gs_s st_istore, gs_s st_isub, gs_s st_if_eq, gs_s st_if_ne, gs_s st_icmp_ge, gs_s st_putfield, gs_s st_imul, gs_s st_iinc, gs_static, gs_s st_icmp_ne, gs_s st_icmp_eq, gs_s st_aaload, gs_return, gs_s st_iastore, gs_s st_dup, gs_s st_i2l, gs_s st_icmp_gt, gs_s st_icmp_lt, gs_s st_icmp_le, gs_s st_if_lt, gs_s st_if_le, gs_s st_if_ge, gs_s st_if_gt, gs_s st_ineg, gs_s st_iand, gs_s st_irem, gs_s st_ishr, gs_s st_idiv, gs_s st_arraylength, gs_s st_lconst, gs_s st_lload, gs_s st_lstore, gs_s st_astore, gs_s st_lcmp, gs_s st_ladd, gs_s st_lmul, gs_s st_ixor, gs_s st_ishl, gs_s st_iushr, gs_s st_getstatic, gs_s st_new, gs_s st_newi, gs_s st_newl, gs_s st_newq, gs_s st_aastore, gs_s st_laload, gs_s st_lastore, gs_s st_dup2, gs_s st_table, gs_lreturn, gs_special]
def ri_go1 (E : ri_Env) (callee : ri_Cl) (tb : List ri_row) (ih : ri_K) (cur : List ri_row) : List Value → List Value → ri_L → ri_V := List.rec (motive := fun _ => List Value → List Value → ri_L → ri_V) (fun _ _ _ => none) (fun r nx _ lv st L => ri_nthD gs_none ri_fns r.1 E callee tb ih r nx lv st L) cur
def ri_go (E : ri_Env) (callee : ri_Cl) (tb : List ri_row) (f : Nat) : ri_K := Nat.rec (motive := fun _ => ri_K) (fun _ _ _ _ => none) (fun _ ih => ri_go1 E callee tb ih) f
/-- the locals at a method's entry -/
def ri_ls (as : List Value) : List Value := List.rec (motive := fun _ => List Value) [] (fun v _ ih => if ri_c2 v then v :: .null :: ih else v :: ih) as
def ri_D (E : ri_Env) (M : Nat → ri_mi) (F : Nat) (d : Nat) : ri_Cl := Nat.rec (motive := fun _ => ri_Cl) (fun _ _ _ => none) (fun _ ih j as L => if Nat.ble (ri_ls as).length (M j).1.2.2.1 then ri_go E ih (M j).2.2.2 F (M j).2.2.2 (ri_ls as ++ List.replicate ((M j).1.2.2.1 - (ri_ls as).length) .null) [] L else none) d
end
end
section
noncomputable section
/-! ===== the first call on new objects, run by the kernel ===== -/
def ri_blank : List (List ri_E) := List.replicate 16 (List.replicate 8 (.inr (0, [])))
def p1_L0 : ri_L := (1, 13, ri_put ri_blank 0 (.inr (8, ri_df 8)))
def p1_r1 : ri_V := ri_D [] ri_M 100000 20 67 [.ref 0] p1_L0
def p1_L1 : ri_L := match p1_r1 with
  | some (_, L) => L
  | none => p1_L0
def p1_L1b : ri_L := (107, p1_L1.2.1 + 28, ri_put p1_L1.2.2 106 (.inr (9, ri_df 9)))
def p1_r2 : ri_V := ri_D [] ri_M 100000 20 109 [.ref 106] p1_L1b
/-- the cells of a new SkinTwists and a new SkinTwistsModel -/
def p1_lit : ri_L := (122, 21481, [[.inr (8, [.ref 1, .ref 2, .ref 3, .ref 5, .ref 12, .ref 15, .ref 30, .ref 43, .ref 48, .ref 50, .ref 52, .retAddr 2, .retAddr 0]), .inl (3, .inr (.inr [some 54, some 57, some 60, some 63, some 66, some 69, some 72, some 75, some 78, some 81, some 84, some 87])), .inl (4, .inr (.inr [some 90, some 92, some 94, some 96, some 98, some 100, some 102, some 104])), .inr (4, [.ref 4, .retAddr 0]), .inl (0, .inl (List.replicate 60 0)), .inr (7, [.retAddr 5, .ref 6, .ref 7, .ref 8, .ref 10]), .inl (0, .inl ([0, 0, 0, 0, 0, 0, 0, 0, 0, 0, 0, 0, 0, 0, 0, 0, 0, 0, 0, 0, 1, 4294967292, 0, 0, 0, 0, 0, 0, 0, 0, 1, 4294967293, 0, 0, 0, 0, 0, 0, 0, 0, 2, 4294967295, 4294967294, 0, 0, 0, 0, 0, 0, 0, 1, 4294967295, 0, 0, 0, 0, 0, 0, 0, 0, 0, 0, 0, 0, 0, 0, 0, 0, 0, 0, 1, 1, 0, 0, 0, 0, 0, 0, 0, 0, 2, 2, 1, 0, 0, 0, 0, 0, 0, 0, 1, 3, 0, 0, 0, 0, 0, 0, 0, 0, 1, 4, 0, 0, 0, 0, 0, 0, 0, 0, 0, 0, 0, 0, 0, 0, 0, 0, 0, 0, 0, 0, 0, 0, 0, 0, 0, 0, 0, 0, 0, 0, 0, 0, 0, 0, 0, 0, 0, 0, 0, 0, 0, 0, 0, 0, 0, 0, 0, 0, 1, 4294967292, 0, 0, 0, 0, 0, 0, 0, 0, 1, 4294967293, 0, 0, 0, 0, 0, 0, 0, 0, 2, 1, 4294967294, 0, 0, 0, 0, 0, 0, 0, 1, 4294967295, 0, 0, 0, 0, 0, 0, 0, 0, 0, 0, 0, 0, 0, 0, 0, 0, 0, 0, 1, 1, 0, 0, 0, 0, 0, 0, 0, 0, 2, 2, 4294967295, 0, 0, 0, 0, 0, 0, 0, 1, 3, 0, 0, 0, 0, 0, 0, 0, 0, 1, 4, 0, 0, 0, 0, 0, 0, 0, 0, 0, 0, 0, 0, 0, 0, 0, 0, 0, 0, 0, 0, 0, 0, 0, 0, 0, 0, 0, 0, 0, 0, 0, 0, 0, 0, 0, 0, 0, 0, 0, 0, 0, 0, 0, 0, 0, 0, 0, 0, 2, 4294967293, 4294967292, 0, 0, 0, 0, 0, 0, 0, 1, 4294967293, 0, 0, 0, 0, 0, 0, 0, 0, 1, 4294967294, 0, 0, 0, 0, 0, 0, 0, 0, 1, 4294967295, 0, 0, 0, 0, 0, 0, 0, 0, 0, 0, 0, 0, 0, 0, 0, 0, 0, 0, 1, 1, 0, 0, 0, 0, 0, 0, 0, 0, 1, 2, 0, 0, 0, 0, 0, 0, 0, 0, 1, 3, 0, 0, 0, 0, 0, 0, 0, 0, 2, 4, 3, 0, 0, 0, 0, 0, 0, 0, 0, 0, 0, 0, 0, 0, 0, 0, 0, 0, 0, 0, 0, 0, 0, 0, 0, 0, 0, 0, 0, 0, 0, 0, 0, 0, 0, 0, 0, 0, 0, 0, 0, 0, 0, 0, 0, 0, 0, 0, 2, 3, 4294967292, 0, 0, 0, 0, 0, 0, 0, 1, 4294967293, 0, 0, 0, 0, 0, 0, 0, 0, 1, 4294967294, 0, 0, 0, 0, 0, 0, 0, 0, 1, 4294967295, 0, 0, 0, 0, 0, 0, 0, 0, 0, 0, 0, 0, 0, 0, 0, 0, 0, 0, 1, 1, 0, 0, 0, 0, 0, 0, 0, 0, 1, 2, 0, 0, 0, 0, 0, 0, 0, 0, 1, 3, 0, 0, 0, 0, 0, 0, 0, 0, 2, 4, 4294967293, 0, 0, 0, 0, 0, 0, 0, 0, 0, 0, 0, 0, 0, 0, 0, 0, 0, 0, 0, 0, 0, 0, 0, 0, 0, 0, 0, 0, 0, 0, 0, 0, 0, 0, 0, 0, 0, 0, 0, 0, 0, 0, 0, 0, 0, 0, 0, 1, 4294967292, 0, 0, 0, 0, 0, 0, 0, 0, 1, 4294967293, 0, 0, 0, 0, 0, 0, 0, 0, 1, 4294967294, 0, 0, 0, 0, 0, 0, 0, 0, 2, 2, 4294967295, 0, 0, 0, 0, 0, 0, 0, 0, 0, 0, 0, 0, 0, 0, 0, 0, 0, 2, 1, 4294967294, 0, 0, 0, 0, 0, 0, 0, 1, 2, 0, 0, 0, 0, 0, 0, 0, 0, 1, 3, 0, 0, 0, 0, 0, 0, 0, 0, 1, 4, 0, 0, 0, 0, 0, 0, 0, 0, 0, 0, 0, 0, 0, 0, 0, 0, 0, 0, 0, 0, 0, 0, 0, 0, 0, 0, 0, 0, 0, 0, 0, 0, 0, 0, 0, 0, 0, 0, 0, 0, 0, 0, 0, 0, 0, 0, 0, 0, 1, 4294967292, 0, 0, 0, 0, 0, 0, 0, 0, 1, 4294967293, 0, 0, 0, 0, 0, 0, 0, 0, 1, 4294967294, 0, 0, 0, 0, 0, 0, 0, 0, 2, 4294967294, 4294967295, 0, 0, 0, 0, 0, 0, 0, 0, 0, 0, 0, 0, 0, 0, 0, 0, 0, 2, 1, 2, 0, 0, 0, 0, 0, 0, 0, 1, 2, 0, 0, 0, 0, 0, 0, 0, 0, 1, 3, 0, 0, 0, 0, 0, 0, 0, 0, 1, 4, 0, 0, 0, 0, 0, 0, 0, 0, 0, 0, 0, 0, 0, 0, 0, 0, 0, 0, 0, 0, 0, 0, 0, 0, 0, 0, 0, 0, 0, 0, 0, 0, 0, 0, 0, 0, 0, 0, 0, 0, 0, 0, 0, 0, 0, 0, 0, 0, 1, 4294967292, 0, 0, 0, 0, 0, 0, 0, 0, 2, 4, 4294967293, 0, 0, 0, 0, 0, 0, 0, 1, 4294967294, 0, 0, 0, 0, 0, 0, 0, 0, 1, 4294967295, 0, 0, 0, 0, 0, 0, 0, 0, 0, 0, 0, 0, 0, 0, 0, 0, 0, 0, 1, 1, 0, 0, 0, 0, 0, 0, 0, 0, 1, 2, 0, 0, 0, 0, 0, 0, 0, 0, 2, 3, 4294967292, 0, 0, 0, 0, 0, 0, 0, 1, 4, 0, 0, 0, 0, 0, 0, 0, 0, 0, 0, 0, 0, 0, 0, 0, 0, 0, 0, 0, 0, 0, 0, 0, 0, 0, 0, 0, 0, 0, 0, 0, 0, 0, 0, 0, 0, 0, 0, 0, 0, 0, 0, 0, 0, 0, 0, 0, 0, 1, 4294967292, 0, 0, 0, 0, 0, 0, 0, 0, 2, 4294967292, 4294967293, 0, 0, 0, 0, 0, 0, 0, 1, 4294967294, 0, 0, 0, 0, 0, 0, 0, 0, 1, 4294967295, 0, 0, 0, 0, 0, 0, 0, 0, 0, 0, 0, 0, 0, 0, 0, 0, 0, 0, 1, 1, 0, 0, 0, 0, 0, 0, 0, 0, 1, 2, 0, 0, 0, 0, 0, 0, 0, 0, 2, 3, 4, 0, 0, 0, 0, 0, 0, 0, 1, 4, 0, 0, 0, 0, 0, 0, 0, 0, 0, 0, 0, 0, 0, 0, 0, 0, 0, 0, 0, 0, 0, 0, 0, 0, 0, 0, 0, 0, 0, 0, 0, 0, 0, 0, 0, 0, 0, 0, 0, 0, 0, 0, 0, 0, 0, 0, 0, 0, 5, 4294967293, 2, 1, 4294967294, 4294967292, 0, 0, 0, 0, 9, 4294967293, 2, 1, 4294967294, 4294967293, 2, 4294967295, 4294967294, 3, 3, 4294967295, 4294967294, 3, 0, 0, 0, 0, 0, 0, 1, 4294967295, 0, 0, 0, 0, 0, 0, 0, 0, 0, 0, 0, 0, 0, 0, 0, 0, 0, 0, 1, 1, 0, 0, 0, 0, 0, 0, 0, 0, 3, 4294967293, 2, 1, 0, 0, 0, 0, 0, 0, 9, 4294967293, 2, 1, 4294967294, 3, 2, 4294967295, 4294967294, 3, 5, 4, 2, 4294967295, 4294967294, 3, 0, 0, 0, 0, 0, 0, 0, 0, 0, 0, 0, 0, 0, 0, 0, 0, 0, 0, 0, 0, 0, 0, 0, 0, 0, 0, 0, 0, 0, 0, 0, 0, 0, 0, 0, 0, 0, 0, 0, 0, 0, 0, 0, 0, 5, 2, 4294967295, 4294967294, 3, 4294967292, 0, 0, 0, 0, 7, 2, 4294967295, 4294967294, 4294967293, 2, 1, 4294967294, 0, 0, 5, 4294967294, 4294967293, 2, 1, 4294967294, 0, 0, 0, 0, 1, 4294967295, 0, 0, 0, 0, 0, 0, 0, 0, 0, 0, 0, 0, 0, 0, 0, 0, 0, 0, 1, 1, 0, 0, 0, 0, 0, 0, 0, 0, 5, 2, 4294967295, 4294967294, 3, 2, 0, 0, 0, 0, 7, 2, 4294967295, 4294967294, 3, 2, 1, 4294967294, 0, 0, 5, 4, 4294967293, 2, 1, 4294967294] ++ List.replicate 804 0)), .inl (0, .inl (List.replicate 3600 0))],
  [.inr (4, [.ref 9, .retAddr 5]), .inl (0, .inl ([4, 4294967293, 2, 1, 4294967294, 1, 4294967294, 4294967294, 3])), .inr (4, [.ref 11, .retAddr 5]), .inl (0, .inl ([2, 4294967295, 4294967294, 3, 4294967292, 1, 4294967294, 4294967294, 3])), .inr (1, [.ref 13]), .inr (4, [.ref 14, .retAddr 0]), .inl (0, .inl (List.replicate 60 0)), .inr (0, [.ref 16, .retAddr 0, .ref 17, .ref 5])],
  [.inl (2, .inr (.inr [some 18, some 20, some 22, some 24, some 26, some 28])), .inl (0, .inl (List.replicate 36 0)), .inr (4, [.ref 19, .retAddr 0]), .inl (0, .inl (List.replicate 400 0)), .inr (4, [.ref 21, .retAddr 0]), .inl (0, .inl (List.replicate 400 0)), .inr (4, [.ref 23, .retAddr 0]), .inl (0, .inl (List.replicate 400 0))],
  [.inr (4, [.ref 25, .retAddr 0]), .inl (0, .inl (List.replicate 400 0)), .inr (4, [.ref 27, .retAddr 0]), .inl (0, .inl (List.replicate 400 0)), .inr (4, [.ref 29, .retAddr 0]), .inl (0, .inl (List.replicate 400 0)), .inr (5, [.ref 5, .ref 15, .ref 31, .ref 32, .ref 33, .retAddr 0]), .inl (2, .inr (.inr [some 35, some 37, some 39, some 41]))],
  [.inl (0, .inl (List.replicate 16 0)), .inr (4, [.ref 34, .retAddr 0]), .inl (0, .inl (List.replicate 60 0)), .inr (4, [.ref 36, .retAddr 0]), .inl (0, .inl (List.replicate 400 0)), .inr (4, [.ref 38, .retAddr 0]), .inl (0, .inl (List.replicate 400 0)), .inr (4, [.ref 40, .retAddr 0])],
  [.inl (0, .inl (List.replicate 400 0)), .inr (4, [.ref 42, .retAddr 0]), .inl (0, .inl (List.replicate 400 0)), .inr (6, [.retAddr 0, .retAddr 4294967295, .ref 44, .ref 46, .ref 47, .retAddr 0, .retAddr 0, .retAddr 0, .retAddr 0, .retAddr 0]), .inr (2, [.ref 45, .retAddr 0]), .inl (0, .inl (List.replicate 60 0)), .inl (0, .inl (List.replicate 120 0)), .inl (0, .inl (List.replicate 4 0))],
  [.inr (4, [.ref 49, .retAddr 0]), .inl (0, .inl (List.replicate 400 0)), .inr (2, [.ref 51, .retAddr 0]), .inl (0, .inl (List.replicate 60 0)), .inr (2, [.ref 53, .retAddr 0]), .inl (0, .inl (List.replicate 60 0)), .inr (3, [.ref 55, .retAddr 0, .retAddr 0]), .inr (4, [.ref 56, .retAddr 0])],
  [.inl (0, .inl (List.replicate 60 0)), .inr (3, [.ref 58, .retAddr 0, .retAddr 0]), .inr (4, [.ref 59, .retAddr 0]), .inl (0, .inl (List.replicate 60 0)), .inr (3, [.ref 61, .retAddr 0, .retAddr 0]), .inr (4, [.ref 62, .retAddr 0]), .inl (0, .inl (List.replicate 60 0)), .inr (3, [.ref 64, .retAddr 0, .retAddr 0])],
  [.inr (4, [.ref 65, .retAddr 0]), .inl (0, .inl (List.replicate 60 0)), .inr (3, [.ref 67, .retAddr 0, .retAddr 0]), .inr (4, [.ref 68, .retAddr 0]), .inl (0, .inl (List.replicate 60 0)), .inr (3, [.ref 70, .retAddr 0, .retAddr 0]), .inr (4, [.ref 71, .retAddr 0]), .inl (0, .inl (List.replicate 60 0))],
  [.inr (3, [.ref 73, .retAddr 0, .retAddr 0]), .inr (4, [.ref 74, .retAddr 0]), .inl (0, .inl (List.replicate 60 0)), .inr (3, [.ref 76, .retAddr 0, .retAddr 0]), .inr (4, [.ref 77, .retAddr 0]), .inl (0, .inl (List.replicate 60 0)), .inr (3, [.ref 79, .retAddr 0, .retAddr 0]), .inr (4, [.ref 80, .retAddr 0])],
  [.inl (0, .inl (List.replicate 60 0)), .inr (3, [.ref 82, .retAddr 0, .retAddr 0]), .inr (4, [.ref 83, .retAddr 0]), .inl (0, .inl (List.replicate 60 0)), .inr (3, [.ref 85, .retAddr 0, .retAddr 0]), .inr (4, [.ref 86, .retAddr 0]), .inl (0, .inl (List.replicate 60 0)), .inr (3, [.ref 88, .retAddr 0, .retAddr 0])],
  [.inr (4, [.ref 89, .retAddr 0]), .inl (0, .inl (List.replicate 60 0)), .inr (2, [.ref 91, .retAddr 0]), .inl (0, .inl (List.replicate 60 0)), .inr (2, [.ref 93, .retAddr 0]), .inl (0, .inl (List.replicate 60 0)), .inr (2, [.ref 95, .retAddr 0]), .inl (0, .inl (List.replicate 60 0))],
  [.inr (2, [.ref 97, .retAddr 0]), .inl (0, .inl (List.replicate 60 0)), .inr (2, [.ref 99, .retAddr 0]), .inl (0, .inl (List.replicate 60 0)), .inr (2, [.ref 101, .retAddr 0]), .inl (0, .inl (List.replicate 60 0)), .inr (2, [.ref 103, .retAddr 0]), .inl (0, .inl (List.replicate 60 0))],
  [.inr (2, [.ref 105, .retAddr 0]), .inl (0, .inl (List.replicate 60 0)), .inr (9, [.retAddr 2, .retAddr 0, .ref 107, .retAddr 0, .ref 108, .ref 109, .ref 110, .ref 111, .ref 112, .retAddr 0, .ref 113, .retAddr 0, .ref 114, .retAddr 0, .ref 115, .retAddr 0, .ref 116, .retAddr 0, .retAddr 0, .retAddr 0, .retAddr 4294967295, .ref 117, .retAddr 0, .ref 118, .retAddr 0, .ref 119, .ref 120, .ref 121]), .inl (0, .inl (List.replicate 60 0)), .inl (0, .inl (List.replicate 12 0)), .inl (0, .inl (List.replicate 720 0)), .inl (0, .inl (List.replicate 9 0)), .inl (0, .inl (List.replicate 540 0))],
  [.inl (0, .inl (List.replicate 400 0)), .inl (0, .inl (List.replicate 400 0)), .inl (0, .inl (List.replicate 401 0)), .inl (0, .inl (List.replicate 3700 0)), .inl (0, .inl (List.replicate 120 0)), .inl (0, .inl (List.replicate 4 0)), .inl (0, .inl (List.replicate 600 0)), .inl (0, .inl (List.replicate 2400 0))],
  [.inl (0, .inl (List.replicate 6 0)), .inl (1, .inr (.inl (List.replicate 64 0))), .inr (0, []), .inr (0, []), .inr (0, []), .inr (0, []), .inr (0, []), .inr (0, [])]])
def ri_beE (a b : ri_E) : Bool := match a with
  | .inl (t, .inl l) => (match b with
    | .inl (t2, .inl l2) => Nat.beq t t2 && decide (l = l2)
    | _ => false)
  | .inl (t, .inr (.inl l)) => (match b with
    | .inl (t2, .inr (.inl l2)) => Nat.beq t t2 && decide (l = l2)
    | _ => false)
  | .inl (t, .inr (.inr l)) => (match b with
    | .inl (t2, .inr (.inr l2)) => Nat.beq t t2 && decide (l = l2)
    | _ => false)
  | .inr (c, fs) => (match b with
    | .inr (c2, fs2) => Nat.beq c c2 && decide (fs = fs2)
    | _ => false)
theorem ri_beE_ok {a b : ri_E} (h : ri_beE a b = true) : a = b := by
  unfold ri_beE at h
  split at h <;> split at h <;> first | (cases h; done) | (rw [Bool.and_eq_true, Nat.beq_eq, decide_eq_true_eq] at h; rw [h.1, h.2])
def ri_beL {α : Type} (f : α → α → Bool) : List α → List α → Bool
  | [], [] => true
  | x :: t, y :: u => f x y && ri_beL f t u
  | _, _ => false
theorem ri_beL_ok {α : Type} {f : α → α → Bool} (hf : ∀ x y, f x y = true → x = y) : ∀ (l l2 : List α), ri_beL f l l2 = true → l = l2
  | [], [], _ => rfl
  | x :: t, y :: u, h => by
    have h : (f x y && ri_beL f t u) = true := h
    rw [Bool.and_eq_true] at h
    rw [hf x y h.1, ri_beL_ok hf t u h.2]
  | [], y :: u, h => by cases h
  | x :: t, [], h => by cases h
/-- both constructors run, and what they leave -/
def p1_new : Bool := match p1_r1 with
  | some (none, L) => Nat.beq L.1 106 && (Nat.ble L.2.1 100000 && ((ri_get L.2.2 106).isSome && (match p1_r2 with
    | some (none, L) => Nat.beq L.1 p1_lit.1 && (Nat.beq L.2.1 p1_lit.2.1 && ri_beL (ri_beL ri_beE) L.2.2 p1_lit.2.2)
    | _ => false)))
  | _ => false
set_option maxRecDepth 1000000 in
theorem p1_new_ok : p1_new = true := by decide +kernel
theorem p1_new_use : p1_r1 = some (none, p1_L1) ∧ p1_L1.1 = 106 ∧ p1_L1.2.1 ≤ 100000 ∧ (ri_get p1_L1.2.2 106).isSome = true ∧ p1_r2 = some (none, p1_lit) := by
  have h := p1_new_ok
  unfold p1_new at h
  split at h
  · rename_i L hr
    have e1 : p1_L1 = L := by unfold p1_L1; rw [hr]
    simp only [Bool.and_eq_true, Nat.beq_eq, Nat.ble_eq] at h
    obtain ⟨h1, h2, h3, h4⟩ := h
    split at h4
    · rename_i L2 hr2
      simp only [Bool.and_eq_true, Nat.beq_eq] at h4
      have e2 : L2 = p1_lit := by
        obtain ⟨a, b, c⟩ := L2
        have := ri_beL_ok (fun x y => ri_beL_ok (fun _ _ => ri_beE_ok) x y) _ _ h4.2.2
        have e3 : (a, b, c) = (p1_lit.1, p1_lit.2.1, p1_lit.2.2) := by
          rw [← this, ← h4.1, ← h4.2.1]
        exact e3
      rw [e1, hr, hr2, e2]
      exact ⟨rfl, h1, h2, h3, rfl⟩
    · cases h4
  · cases h
end
end
section
/-! ===== the abstract machine: cells by number, all addresses are base + number; one context for all methods ===== -/
abbrev am_G : Type := Launch × Nat × Heap × (Nat → ClassId) × (Nat → Nat → Nat) × (Nat → ClassId) × Nat × (Nat → Int32)
abbrev am_B (G : am_G) : Nat := G.2.1
abbrev am_H0 (G : am_G) : Heap := G.2.2.1
abbrev am_D (G : am_G) : va_G := (G.2.2.2.1, G.2.2.2.2.1)
abbrev am_aC (G : am_G) : Nat → ClassId := G.2.2.2.2.2.1
abbrev am_pl (G : am_G) : Nat := G.2.2.2.2.2.2.1
abbrev am_rho (G : am_G) : Nat → Int32 := G.2.2.2.2.2.2.2
/-- a value: .ref k is the cell of number k; .retAddr n is the int nI n; .float b is the unknown int of number b, .double b that as a long; .float 4294967295 is the static array PLACES; .float (2000 + b) is the plan of that unknown number (of the cells 90, 92 .. 104), .float (3000 + b) its row of codes -/
def am_cv (G : am_G) (v : Value) : Value := match v with
  | .ref a => .ref (am_B G + a)
  | .retAddr n => .int (nI n)
  | .int x => .int x
  | .long x => .long x
  | .float b => if b = 4294967295 then .ref (am_pl G) else if 3000 ≤ b.toNat ∧ b.toNat < 4000 then .ref (am_B G + (91 + 2 * (am_rho G (b.toNat - 3000)).toNatClampNeg)) else if 2000 ≤ b.toNat ∧ b.toNat < 3000 then .ref (am_B G + (90 + 2 * (am_rho G (b.toNat - 2000)).toNatClampNeg)) else .int (am_rho G b.toNat)
  | .double b => .long (am_rho G b.toNat).toInt64
  | .null => .null
def am_ca (G : am_G) (x : vp_A) : vp_A := match x with
  | (n, .inl f) => (n, .inl f)
  | (n, .inr (.inl f)) => (n, .inr (.inl f))
  | (n, .inr (.inr (.inl f))) => (n, .inr (.inr (.inl f)))
  | (n, .inr (.inr (.inr (.inl f)))) => (n, .inr (.inr (.inr (.inl f))))
  | (n, .inr (.inr (.inr (.inr f)))) => (n, .inr (.inr (.inr (.inr (fun j => (f j).map (fun a => am_B G + a))))))
def am_ce (G : am_G) (e : am_E) : va_E := match e with
  | .inl (t, x) => .inl (am_aC G t, am_ca G x)
  | .inr (c, fs) => .inr (c, fs.map (am_cv G))
def am_ws (G : am_G) (N : Nat) (h : am_H) : va_W := (List.range N).map (fun k => (am_B G + k, am_ce G (h k)))
def am_tys (aC : Nat → ClassId) : List (ClassId × FieldType) := [(aC 0, .int), (aC 1, .long), (aC 2, .object RX4), (aC 3, .object RX3), (aC 4, .object RX2)]
def am_W (G : am_G) (N : Nat) (h : am_H) (H : Heap) : Prop := H.size = am_B G + N ∧ (∀ q : Nat, q < am_B G → H[q]? = (am_H0 G)[q]?) ∧ va_P (am_D G) am_cl (am_ws G N h) H
def am_PL : Nat → Int32 := fun j => ([9, 10, 5, 6, 1, 2, 0, 0, 3, 4, 7, 8, 11] : List Int32).getD j 0
def am_Z (G : am_G) (s : State) : Prop := va_Z RX1 "PLACES" "[I" (.ref (am_pl G)) (fun q => am_B G ≤ q) s (am_H0 G) ∧ va_T .int (am_pl G) 13 (fun j => .int (am_PL j)) (fun q => am_B G ≤ q) s (am_H0 G) ∧ am_pl G < am_B G ∧ (am_H0 G).size = am_B G
def am_K (G : am_G) (s : State) : Prop := va_K (am_D G) am_cl (am_tys (am_aC G)) s ∧ am_Z G s ∧ va_AO RX4 s ∧ va_AO RX3 s ∧ va_AO RX2 s
def am_X (G : am_G) (y : am_M) (p : Program) (s : State) (m : MethodId) (args : Array Value) (meth : Method) (c : Code) : Prop :=
  p.tables.exec = Jvm.exec ∧ c.code = y.2.1 ∧ meth.sig.returnType = y.2.2.2 ∧ c.maxLocals = y.2.2.1 ∧ s.vm.findClass y.1.cls = some m.cls ∧ (∀ w ∈ am_tbl, w.before args s = true) ∧ meth.locks = false ∧ meth.name = y.1.name ∧ am_K G s
def am_R (d mc ms : Nat) : Room := { frames := d, cells := mc, slots := ms, locals := 100 * d }
abbrev am_T : Type := Option Value → Nat → am_H → Prop
def am_P (G : am_G) (N : Nat) (h : am_H) (as : List Value) : Array Value → State → Prop := va_Pc (as.map (am_cv G)) (fun U => am_W G N h U.heap ∧ am_K G U)
def am_Q (G : am_G) (post : am_T) : Array Value → State → Outcome → State → Prop := fun _ _ oc t => ∃ (r : Option Value) (N' : Nat) (h' : am_H), oc = .returned (r.map (am_cv G)) ∧ post r N' h' ∧ am_W G N' h' t.heap
def am_wy (y : am_M) : List Cond := .code y.1 y.2.1 y.2.2.1 y.2.2.2 :: am_tbl
/-- a method's contract -/
def am_C (G : am_G) (d : Nat) (y : am_M) (mc ms : Nat) (as : List Value) (N : Nat) (h : am_H) (post : am_T) : Prop :=
  Met G.1 y.1 (am_wy y) (am_R d mc ms) (am_P G N h as) (am_Q G post) mc ms (fun q => am_B G ≤ q)
def am_lv (G : am_G) (lv : List (Nat × Value)) : List (Nat × Value) := lv.map (fun q => (q.1, am_cv G q.2))
/-- the machine in a method's body -/
def am_A (G : am_G) (d : Nat) (y : am_M) (mc ms : Nat) (post : am_T) (k n : Nat) (pc : Nat) (lv : List (Nat × Value)) (st : List Value) (N : Nat) (h : am_H) : Prop :=
  ∀ (p : Program) (e : Env) (s : State) (m : MethodId) (args : Array Value) (below : List Frame) (meth : Method) (c : Code) (H : Heap) (locs : List Loc) (ls : Array Slot),
    am_X G y p s m args meth c → am_W G N h H → (∀ q ∈ locs, am_B G ≤ q.base) → lv_has ls y.2.2.1 (am_lv G lv) →
    W p G.1 e (am_R d mc ms) s m args below meth c H locs k n (MQ below (am_Q G post) args s mc ms (fun q => am_B G ≤ q)) (F0 m pc ls (st.map (am_cv G)))
-- ----- plain facts
theorem am_cat (G : am_G) (v : Value) : (am_cv G v).category = v.category := by
  cases v
  case float b =>
    show (if b = 4294967295 then Value.ref (am_pl G) else if 3000 ≤ b.toNat ∧ b.toNat < 4000 then Value.ref (am_B G + (91 + 2 * (am_rho G (b.toNat - 3000)).toNatClampNeg)) else if 2000 ≤ b.toNat ∧ b.toNat < 3000 then Value.ref (am_B G + (90 + 2 * (am_rho G (b.toNat - 2000)).toNatClampNeg)) else Value.int (am_rho G b.toNat)).category = 1
    split
    · rfl
    · split
      · rfl
      · split <;> rfl
  all_goals rfl
theorem am_ws_get (G : am_G) {N k : Nat} (h : am_H) (hk : k < N) : (am_ws G N h)[k]? = some (am_B G + k, am_ce G (h k)) := by
  simp [am_ws, hk]
theorem am_ws_of (G : am_G) {N k : Nat} {h : am_H} {q : Nat × va_E} (hq : (am_ws G N h)[k]? = some q) : k < N ∧ q = (am_B G + k, am_ce G (h k)) := by
  simp only [am_ws, List.getElem?_map] at hq
  by_cases hk : k < N
  · rw [List.getElem?_range hk] at hq
    simp at hq
    exact ⟨hk, hq.symm⟩
  · rw [List.getElem?_eq_none (by simpa using hk)] at hq
    simp at hq
theorem am_ws_D (G : am_G) (N : Nat) (h : am_H) : va_D (fun q => am_B G ≤ q) (am_ws G N h) := by
  refine ⟨fun i j p q hp hq he => ?_, fun k q hq => ?_⟩
  · obtain ⟨-, rfl⟩ := am_ws_of G hp
    obtain ⟨-, rfl⟩ := am_ws_of G hq
    simp at he
    exact he
  · obtain ⟨-, rfl⟩ := am_ws_of G hq
    exact Nat.le_add_right _ _
theorem am_P_of {G : am_G} {N : Nat} {h : am_H} {H : Heap} (hk : ∀ k, k < N → va_at (am_D G) am_cl (am_B G + k, am_ce G (h k)) H) : va_P (am_D G) am_cl (am_ws G N h) H := by
  intro k q hq
  obtain ⟨h1, rfl⟩ := am_ws_of G hq
  exact hk k h1
theorem am_at {G : am_G} {N : Nat} {h : am_H} {H : Heap} (hW : am_W G N h H) {k : Nat} (hk : k < N) : va_at (am_D G) am_cl (am_B G + k, am_ce G (h k)) H := hW.2.2 k _ (am_ws_get G h hk)
/-- one cell changes -/
theorem am_W_set {G : am_G} {N : Nat} {h : am_H} {H H1 : Heap} (hW : am_W G N h H) {k : Nat} {e : am_E} (he : va_at (am_D G) am_cl (am_B G + k, am_ce G e) H1) (hs : H1.size = H.size) (oq : ∀ q : Nat, q ≠ am_B G + k → H1[q]? = H[q]?) : am_W G N (va_up h k e) H1 := by
  refine ⟨by rw [hs]; exact hW.1, fun q hq => ?_, am_P_of fun j hj => ?_⟩
  · rw [oq q (by omega)]
    exact hW.2.1 q hq
  · by_cases hjk : j = k
    · subst hjk
      simp only [va_up, if_true]
      exact he
    · simp only [va_up, if_neg hjk]
      exact (am_at hW hj).kept (oq _ (by show am_B G + j ≠ _; omega))
/-- one cell more -/
theorem am_W_push {G : am_G} {N : Nat} {h : am_H} {H H1 : Heap} (hW : am_W G N h H) {e : am_E} (he : va_at (am_D G) am_cl (am_B G + N, am_ce G e) H1) (hs : H1.size = H.size + 1) (oq : ∀ q : Nat, q < H.size → H1[q]? = H[q]?) : am_W G (N + 1) (va_up h N e) H1 := by
  have h1 := hW.1
  refine ⟨by rw [hs, h1]; omega, fun q hq => ?_, am_P_of fun j hj => ?_⟩
  · rw [oq q (by omega)]
    exact hW.2.1 q hq
  · by_cases hjk : j = N
    · subst hjk
      simp only [va_up, if_true]
      exact he
    · simp only [va_up, if_neg hjk]
      exact (am_at hW (by omega)).kept (oq _ (by show am_B G + j < _; omega))
theorem am_K.moved {G : am_G} {u U : State} (hvm : u.vm.Alike U.vm) (h : am_K G u) : am_K G U :=
  ⟨va_K.moved hvm h.1, ⟨va_Z.moved hvm h.2.1.1, va_T.moved hvm h.2.1.2.1, h.2.1.2.2⟩, va_AO.moved hvm h.2.2.1, va_AO.moved hvm h.2.2.2.1, va_AO.moved hvm h.2.2.2.2⟩
theorem am_hts {args : Array Value} {s : State} (h : ∀ w ∈ lw_tbl, w.before args s = true) : ∀ w ∈ am_tbl, w.before args s = true := fun w hw => h w (List.mem_filter.mp hw).1
end
section
section
variable {G : am_G} {d : Nat} {y : am_M} {mc ms : Nat} {post : am_T} {k n pc N : Nat} {lv lv' : List (Nat × Value)} {st : List Value} {h : am_H}
theorem am_ld (G : am_G) {ls : Array Slot} {nL : Nat} {lv : List (Nat × Value)} (hl : lv_has ls nL (am_lv G lv)) {i : Nat} {v : Value} (hv : (i, v) ∈ lv) : ls[i]? = some (.val (am_cv G v)) := hl.2.2 (i, am_cv G v) (List.mem_map.mpr ⟨(i, v), hv, rfl⟩)
def am_f1 (i : Nat) (q : Nat × Value) : Bool := !(q.1 == i) && !(q.1 + 1 == i && q.2.category == 2)
def am_f2 (i : Nat) (q : Nat × Value) : Bool := !(q.1 == i) && (!(q.1 == i + 1) && !(q.1 + 1 == i && q.2.category == 2))
theorem am_flt1 (G : am_G) (i : Nat) (v : Value) (lv : List (Nat × Value)) : (i, am_cv G v) :: (am_lv G lv).filter (fun q => !(q.1 == i) && !(q.1 + 1 == i && q.2.category == 2)) = am_lv G ((i, v) :: lv.filter (am_f1 i)) := by
  simp only [am_lv, List.filter_map, List.map_cons]
  congr 3
  funext q
  simp [Function.comp, am_cat, am_f1]
theorem am_flt2 (G : am_G) (i : Nat) (v : Value) (lv : List (Nat × Value)) : (i, am_cv G v) :: (am_lv G lv).filter (fun q => !(q.1 == i) && (!(q.1 == i + 1) && !(q.1 + 1 == i && q.2.category == 2))) = am_lv G ((i, v) :: lv.filter (am_f2 i)) := by
  simp only [am_lv, List.filter_map, List.map_cons]
  congr 3
  funext q
  simp [Function.comp, am_cat, am_f2]
theorem am_iconst {i : Int} {v : Int32} (hd : decode y.2.1 pc = .ok (.iconst i, 1)) (hv : Int32.ofInt i = v) (kk : am_A G d y mc ms post k n (pc + 1) lv (.int v :: st) N h) : am_A G d y mc ms post k n (pc) lv (st) N h := by
  intro p e s m args below meth c H locs ls X hW hlo hl
  exact lv_iconst X.1 X.2.1 hd hv (kk p e s m args below meth c H locs ls X hW hlo hl)
theorem am_bipush {i : Int} {v : Int32} (hd : decode y.2.1 pc = .ok (.bipush i, 2)) (hv : (Int8.ofInt i).toInt32 = v) (kk : am_A G d y mc ms post k n (pc + 2) lv (.int v :: st) N h) : am_A G d y mc ms post k n (pc) lv (st) N h := by
  intro p e s m args below meth c H locs ls X hW hlo hl
  exact lv_bipush X.1 X.2.1 hd hv (kk p e s m args below meth c H locs ls X hW hlo hl)
theorem am_sipush {i : Int} {v : Int32} (hd : decode y.2.1 pc = .ok (.sipush i, 3)) (hv : (Int16.ofInt i).toInt32 = v) (kk : am_A G d y mc ms post k n (pc + 3) lv (.int v :: st) N h) : am_A G d y mc ms post k n (pc) lv (st) N h := by
  intro p e s m args below meth c H locs ls X hW hlo hl
  exact lv_sipush X.1 X.2.1 hd hv (kk p e s m args below meth c H locs ls X hW hlo hl)
theorem am_lconst {i : Fin 2} {v : Int64} (hd : decode y.2.1 pc = .ok (.lconst i, 1)) (hv : Int64.ofNat (i : Nat) = v) (kk : am_A G d y mc ms post k n (pc + 1) lv (.long v :: st) N h) : am_A G d y mc ms post k n (pc) lv (st) N h := by
  intro p e s m args below meth c H locs ls X hW hlo hl
  exact lv_lconst X.1 X.2.1 hd hv (kk p e s m args below meth c H locs ls X hW hlo hl)
theorem am_iload_n {j : Fin 4} {i : Nat} {x : Int32} (hd : decode y.2.1 pc = .ok (.iload_n j, 1)) (hi : (j : Nat) = i) (hv : (i, Value.int x) ∈ lv) (kk : am_A G d y mc ms post k n (pc + 1) lv (.int x :: st) N h) : am_A G d y mc ms post k n (pc) lv (st) N h := by
  intro p e s m args below meth c H locs ls X hW hlo hl
  exact lv_iload_n X.1 X.2.1 hd hi (am_ld G hl hv) (kk p e s m args below meth c H locs ls X hW hlo hl)
theorem am_iload {i : Nat} {x : Int32} (hd : decode y.2.1 pc = .ok (.iload i, 2)) (hv : (i, Value.int x) ∈ lv) (kk : am_A G d y mc ms post k n (pc + 2) lv (.int x :: st) N h) : am_A G d y mc ms post k n (pc) lv (st) N h := by
  intro p e s m args below meth c H locs ls X hW hlo hl
  exact lv_iload X.1 X.2.1 hd (am_ld G hl hv) (kk p e s m args below meth c H locs ls X hW hlo hl)
theorem am_lload_n {j : Fin 4} {i : Nat} {x : Int64} (hd : decode y.2.1 pc = .ok (.lload_n j, 1)) (hi : (j : Nat) = i) (hv : (i, Value.long x) ∈ lv) (kk : am_A G d y mc ms post k n (pc + 1) lv (.long x :: st) N h) : am_A G d y mc ms post k n (pc) lv (st) N h := by
  intro p e s m args below meth c H locs ls X hW hlo hl
  exact lv_lload_n X.1 X.2.1 hd hi (am_ld G hl hv) (kk p e s m args below meth c H locs ls X hW hlo hl)
theorem am_lload {i : Nat} {x : Int64} (hd : decode y.2.1 pc = .ok (.lload i, 2)) (hv : (i, Value.long x) ∈ lv) (kk : am_A G d y mc ms post k n (pc + 2) lv (.long x :: st) N h) : am_A G d y mc ms post k n (pc) lv (st) N h := by
  intro p e s m args below meth c H locs ls X hW hlo hl
  exact lv_lload X.1 X.2.1 hd (am_ld G hl hv) (kk p e s m args below meth c H locs ls X hW hlo hl)
theorem am_aload_n {j : Fin 4} {i : Nat} {x : Nat} (hd : decode y.2.1 pc = .ok (.aload_n j, 1)) (hi : (j : Nat) = i) (hv : (i, Value.ref x) ∈ lv) (kk : am_A G d y mc ms post k n (pc + 1) lv (.ref x :: st) N h) : am_A G d y mc ms post k n (pc) lv (st) N h := by
  intro p e s m args below meth c H locs ls X hW hlo hl
  exact lv_aload_n X.1 X.2.1 hd hi (am_ld G hl hv) (kk p e s m args below meth c H locs ls X hW hlo hl)
theorem am_aload {i : Nat} {x : Nat} (hd : decode y.2.1 pc = .ok (.aload i, 2)) (hv : (i, Value.ref x) ∈ lv) (kk : am_A G d y mc ms post k n (pc + 2) lv (.ref x :: st) N h) : am_A G d y mc ms post k n (pc) lv (st) N h := by
  intro p e s m args below meth c H locs ls X hW hlo hl
  exact lv_aload X.1 X.2.1 hd (am_ld G hl hv) (kk p e s m args below meth c H locs ls X hW hlo hl)
theorem am_istore_n {j : Fin 4} {i : Nat} {x : Int32} (hd : decode y.2.1 pc = .ok (.istore_n j, 1)) (hi : (j : Nat) = i) (hn : i < y.2.2.1) (hlv : (i, Value.int x) :: lv.filter (am_f1 i) = lv') (kk : am_A G d y mc ms post k n (pc + 1) lv' (st) N h) : am_A G d y mc ms post k n (pc) lv (.int x :: st) N h := by
  intro p e s m args below meth c H locs ls X hW hlo hl
  subst hlv
  exact lv_istore_n X.1 X.2.1 hd hi hl hn (am_flt1 G i (.int x) lv) (fun ls' hl' => kk p e s m args below meth c H locs ls' X hW hlo hl')
theorem am_istore {i : Nat} {x : Int32} (hd : decode y.2.1 pc = .ok (.istore i, 2)) (hn : i < y.2.2.1) (hlv : (i, Value.int x) :: lv.filter (am_f1 i) = lv') (kk : am_A G d y mc ms post k n (pc + 2) lv' (st) N h) : am_A G d y mc ms post k n (pc) lv (.int x :: st) N h := by
  intro p e s m args below meth c H locs ls X hW hlo hl
  subst hlv
  exact lv_istore X.1 X.2.1 hd hl hn (am_flt1 G i (.int x) lv) (fun ls' hl' => kk p e s m args below meth c H locs ls' X hW hlo hl')
theorem am_lstore_n {j : Fin 4} {i : Nat} {x : Int64} (hd : decode y.2.1 pc = .ok (.lstore_n j, 1)) (hi : (j : Nat) = i) (hn : i + 1 < y.2.2.1) (hlv : (i, Value.long x) :: lv.filter (am_f2 i) = lv') (kk : am_A G d y mc ms post k n (pc + 1) lv' (st) N h) : am_A G d y mc ms post k n (pc) lv (.long x :: st) N h := by
  intro p e s m args below meth c H locs ls X hW hlo hl
  subst hlv
  exact lv_lstore_n X.1 X.2.1 hd hi hl hn (am_flt2 G i (.long x) lv) (fun ls' hl' => kk p e s m args below meth c H locs ls' X hW hlo hl')
theorem am_lstore {i : Nat} {x : Int64} (hd : decode y.2.1 pc = .ok (.lstore i, 2)) (hn : i + 1 < y.2.2.1) (hlv : (i, Value.long x) :: lv.filter (am_f2 i) = lv') (kk : am_A G d y mc ms post k n (pc + 2) lv' (st) N h) : am_A G d y mc ms post k n (pc) lv (.long x :: st) N h := by
  intro p e s m args below meth c H locs ls X hW hlo hl
  subst hlv
  exact lv_lstore X.1 X.2.1 hd hl hn (am_flt2 G i (.long x) lv) (fun ls' hl' => kk p e s m args below meth c H locs ls' X hW hlo hl')
theorem am_astore_n {j : Fin 4} {i : Nat} {x : Nat} (hd : decode y.2.1 pc = .ok (.astore_n j, 1)) (hi : (j : Nat) = i) (hn : i < y.2.2.1) (hlv : (i, Value.ref x) :: lv.filter (am_f1 i) = lv') (kk : am_A G d y mc ms post k n (pc + 1) lv' (st) N h) : am_A G d y mc ms post k n (pc) lv (.ref x :: st) N h := by
  intro p e s m args below meth c H locs ls X hW hlo hl
  subst hlv
  exact lv_astore_n X.1 X.2.1 hd hi hl hn (am_flt1 G i (.ref x) lv) (fun ls' hl' => kk p e s m args below meth c H locs ls' X hW hlo hl')
theorem am_astore {i : Nat} {x : Nat} (hd : decode y.2.1 pc = .ok (.astore i, 2)) (hn : i < y.2.2.1) (hlv : (i, Value.ref x) :: lv.filter (am_f1 i) = lv') (kk : am_A G d y mc ms post k n (pc + 2) lv' (st) N h) : am_A G d y mc ms post k n (pc) lv (.ref x :: st) N h := by
  intro p e s m args below meth c H locs ls X hW hlo hl
  subst hlv
  exact lv_astore X.1 X.2.1 hd hl hn (am_flt1 G i (.ref x) lv) (fun ls' hl' => kk p e s m args below meth c H locs ls' X hW hlo hl')
theorem am_iinc {i : Nat} {z : Int} {x v : Int32} (hd : decode y.2.1 pc = .ok (.iinc i z, 3)) (hv : (i, Value.int x) ∈ lv) (he : x + Int32.ofInt z = v) (hn : i < y.2.2.1) (hlv : (i, Value.int v) :: lv.filter (am_f1 i) = lv') (kk : am_A G d y mc ms post k n (pc + 3) lv' (st) N h) : am_A G d y mc ms post k n (pc) lv (st) N h := by
  intro p e s m args below meth c H locs ls X hW hlo hl
  subst hlv
  obtain ⟨j, hj⟩ := List.getElem?_of_mem hv
  exact lv_iinc (k := j) X.1 X.2.1 hd hl (by simp [am_lv, hj, am_cv]) he hn (am_flt1 G i (.int v) lv) (fun ls' hl' => kk p e s m args below meth c H locs ls' X hW hlo hl')
theorem am_iadd {x z : Int32} (hd : decode y.2.1 pc = .ok (.iadd, 1))  (kk : am_A G d y mc ms post k n (pc + 1) lv (.int (x + z) :: st) N h) : am_A G d y mc ms post k n (pc) lv (.int z :: .int x :: st) N h := by
  intro p e s m args below meth c H locs ls X hW hlo hl
  exact lv_iadd X.1 X.2.1 hd (kk p e s m args below meth c H locs ls X hW hlo hl)
theorem am_isub {x z : Int32} (hd : decode y.2.1 pc = .ok (.isub, 1))  (kk : am_A G d y mc ms post k n (pc + 1) lv (.int (x - z) :: st) N h) : am_A G d y mc ms post k n (pc) lv (.int z :: .int x :: st) N h := by
  intro p e s m args below meth c H locs ls X hW hlo hl
  exact lv_isub X.1 X.2.1 hd (kk p e s m args below meth c H locs ls X hW hlo hl)
theorem am_imul {x z : Int32} (hd : decode y.2.1 pc = .ok (.imul, 1))  (kk : am_A G d y mc ms post k n (pc + 1) lv (.int (x * z) :: st) N h) : am_A G d y mc ms post k n (pc) lv (.int z :: .int x :: st) N h := by
  intro p e s m args below meth c H locs ls X hW hlo hl
  exact lv_imul X.1 X.2.1 hd (kk p e s m args below meth c H locs ls X hW hlo hl)
theorem am_iand {x z : Int32} (hd : decode y.2.1 pc = .ok (.iand, 1))  (kk : am_A G d y mc ms post k n (pc + 1) lv (.int (x &&& z) :: st) N h) : am_A G d y mc ms post k n (pc) lv (.int z :: .int x :: st) N h := by
  intro p e s m args below meth c H locs ls X hW hlo hl
  exact lv_iand X.1 X.2.1 hd (kk p e s m args below meth c H locs ls X hW hlo hl)
theorem am_ior {x z : Int32} (hd : decode y.2.1 pc = .ok (.ior, 1))  (kk : am_A G d y mc ms post k n (pc + 1) lv (.int (x ||| z) :: st) N h) : am_A G d y mc ms post k n (pc) lv (.int z :: .int x :: st) N h := by
  intro p e s m args below meth c H locs ls X hW hlo hl
  exact lv_ior X.1 X.2.1 hd (kk p e s m args below meth c H locs ls X hW hlo hl)
theorem am_ixor {x z : Int32} (hd : decode y.2.1 pc = .ok (.ixor, 1))  (kk : am_A G d y mc ms post k n (pc + 1) lv (.int (x ^^^ z) :: st) N h) : am_A G d y mc ms post k n (pc) lv (.int z :: .int x :: st) N h := by
  intro p e s m args below meth c H locs ls X hW hlo hl
  exact lv_ixor X.1 X.2.1 hd (kk p e s m args below meth c H locs ls X hW hlo hl)
theorem am_ishl {x z : Int32} (hd : decode y.2.1 pc = .ok (.ishl, 1))  (kk : am_A G d y mc ms post k n (pc + 1) lv (.int (x <<< (z &&& 31)) :: st) N h) : am_A G d y mc ms post k n (pc) lv (.int z :: .int x :: st) N h := by
  intro p e s m args below meth c H locs ls X hW hlo hl
  exact lv_ishl X.1 X.2.1 hd (kk p e s m args below meth c H locs ls X hW hlo hl)
theorem am_ishr {x z : Int32} (hd : decode y.2.1 pc = .ok (.ishr, 1))  (kk : am_A G d y mc ms post k n (pc + 1) lv (.int (x >>> (z &&& 31)) :: st) N h) : am_A G d y mc ms post k n (pc) lv (.int z :: .int x :: st) N h := by
  intro p e s m args below meth c H locs ls X hW hlo hl
  exact lv_ishr X.1 X.2.1 hd (kk p e s m args below meth c H locs ls X hW hlo hl)
theorem am_idiv {x z : Int32} (hd : decode y.2.1 pc = .ok (.idiv, 1)) (hne : ¬ z = 0) (kk : am_A G d y mc ms post k n (pc + 1) lv (.int (x / z) :: st) N h) : am_A G d y mc ms post k n (pc) lv (.int z :: .int x :: st) N h := by
  intro p e s m args below meth c H locs ls X hW hlo hl
  exact lv_idiv X.1 X.2.1 hd hne (kk p e s m args below meth c H locs ls X hW hlo hl)
theorem am_irem {x z : Int32} (hd : decode y.2.1 pc = .ok (.irem, 1)) (hne : ¬ z = 0) (kk : am_A G d y mc ms post k n (pc + 1) lv (.int (x - x / z * z) :: st) N h) : am_A G d y mc ms post k n (pc) lv (.int z :: .int x :: st) N h := by
  intro p e s m args below meth c H locs ls X hW hlo hl
  exact lv_irem X.1 X.2.1 hd hne (kk p e s m args below meth c H locs ls X hW hlo hl)
theorem am_iushr {x z : Int32} (hd : decode y.2.1 pc = .ok (.iushr, 1))  (kk : am_A G d y mc ms post k n (pc + 1) lv (.int ((x.toUInt32 >>> (z.toUInt32 &&& Int32.toUInt32 31)).toInt32) :: st) N h) : am_A G d y mc ms post k n (pc) lv (.int z :: .int x :: st) N h := by
  intro p e s m args below meth c H locs ls X hW hlo hl
  exact lv_iushr X.1 X.2.1 hd rfl (kk p e s m args below meth c H locs ls X hW hlo hl)
theorem am_ineg {x : Int32} (hd : decode y.2.1 pc = .ok (.ineg, 1))  (kk : am_A G d y mc ms post k n (pc + 1) lv (.int (-x) :: st) N h) : am_A G d y mc ms post k n (pc) lv (.int x :: st) N h := by
  intro p e s m args below meth c H locs ls X hW hlo hl
  exact lv_ineg X.1 X.2.1 hd (kk p e s m args below meth c H locs ls X hW hlo hl)
theorem am_ladd {x z : Int64} (hd : decode y.2.1 pc = .ok (.ladd, 1))  (kk : am_A G d y mc ms post k n (pc + 1) lv (.long (x + z) :: st) N h) : am_A G d y mc ms post k n (pc) lv (.long z :: .long x :: st) N h := by
  intro p e s m args below meth c H locs ls X hW hlo hl
  exact lv_ladd X.1 X.2.1 hd (kk p e s m args below meth c H locs ls X hW hlo hl)
theorem am_lsub {x z : Int64} (hd : decode y.2.1 pc = .ok (.lsub, 1))  (kk : am_A G d y mc ms post k n (pc + 1) lv (.long (x - z) :: st) N h) : am_A G d y mc ms post k n (pc) lv (.long z :: .long x :: st) N h := by
  intro p e s m args below meth c H locs ls X hW hlo hl
  exact lv_lsub X.1 X.2.1 hd (kk p e s m args below meth c H locs ls X hW hlo hl)
theorem am_lmul {x z : Int64} (hd : decode y.2.1 pc = .ok (.lmul, 1))  (kk : am_A G d y mc ms post k n (pc + 1) lv (.long (x * z) :: st) N h) : am_A G d y mc ms post k n (pc) lv (.long z :: .long x :: st) N h := by
  intro p e s m args below meth c H locs ls X hW hlo hl
  exact lv_lmul X.1 X.2.1 hd (kk p e s m args below meth c H locs ls X hW hlo hl)
theorem am_land {x z : Int64} (hd : decode y.2.1 pc = .ok (.land, 1))  (kk : am_A G d y mc ms post k n (pc + 1) lv (.long (x &&& z) :: st) N h) : am_A G d y mc ms post k n (pc) lv (.long z :: .long x :: st) N h := by
  intro p e s m args below meth c H locs ls X hW hlo hl
  exact lv_land X.1 X.2.1 hd (kk p e s m args below meth c H locs ls X hW hlo hl)
theorem am_lor {x z : Int64} (hd : decode y.2.1 pc = .ok (.lor, 1))  (kk : am_A G d y mc ms post k n (pc + 1) lv (.long (x ||| z) :: st) N h) : am_A G d y mc ms post k n (pc) lv (.long z :: .long x :: st) N h := by
  intro p e s m args below meth c H locs ls X hW hlo hl
  exact lv_lor X.1 X.2.1 hd (kk p e s m args below meth c H locs ls X hW hlo hl)
theorem am_lshl {x : Int64} {z : Int32} (hd : decode y.2.1 pc = .ok (.lshl, 1))  (kk : am_A G d y mc ms post k n (pc + 1) lv (.long (x <<< (z.toInt64 &&& 63)) :: st) N h) : am_A G d y mc ms post k n (pc) lv (.int z :: .long x :: st) N h := by
  intro p e s m args below meth c H locs ls X hW hlo hl
  exact lv_lshl X.1 X.2.1 hd rfl (kk p e s m args below meth c H locs ls X hW hlo hl)
theorem am_lshr {x : Int64} {z : Int32} (hd : decode y.2.1 pc = .ok (.lshr, 1))  (kk : am_A G d y mc ms post k n (pc + 1) lv (.long (x >>> (z.toInt64 &&& 63)) :: st) N h) : am_A G d y mc ms post k n (pc) lv (.int z :: .long x :: st) N h := by
  intro p e s m args below meth c H locs ls X hW hlo hl
  exact lv_lshr X.1 X.2.1 hd rfl (kk p e s m args below meth c H locs ls X hW hlo hl)
theorem am_i2l {x : Int32} (hd : decode y.2.1 pc = .ok (.i2l, 1))  (kk : am_A G d y mc ms post k n (pc + 1) lv (.long x.toInt64 :: st) N h) : am_A G d y mc ms post k n (pc) lv (.int x :: st) N h := by
  intro p e s m args below meth c H locs ls X hW hlo hl
  exact lv_i2l X.1 X.2.1 hd rfl (kk p e s m args below meth c H locs ls X hW hlo hl)
theorem am_l2i {x : Int64} (hd : decode y.2.1 pc = .ok (.l2i, 1))  (kk : am_A G d y mc ms post k n (pc + 1) lv (.int x.toInt32 :: st) N h) : am_A G d y mc ms post k n (pc) lv (.long x :: st) N h := by
  intro p e s m args below meth c H locs ls X hW hlo hl
  exact lv_l2i X.1 X.2.1 hd rfl (kk p e s m args below meth c H locs ls X hW hlo hl)
theorem am_lcmp {x z : Int64} (hd : decode y.2.1 pc = .ok (.lcmp, 1))  (kk : am_A G d y mc ms post k n (pc + 1) lv (.int (lg_cmp x z) :: st) N h) : am_A G d y mc ms post k n (pc) lv (.long z :: .long x :: st) N h := by
  intro p e s m args below meth c H locs ls X hW hlo hl
  exact W.lcmp X.1 X.2.1 hd (kk p e s m args below meth c H locs ls X hW hlo hl)
theorem am_dup {v : Value} (hd : decode y.2.1 pc = .ok (.dup, 1)) (hv : v.category = 1) (kk : am_A G d y mc ms post k n (pc + 1) lv (v :: v :: st) N h) : am_A G d y mc ms post k n (pc) lv (v :: st) N h := by
  intro p e s m args below meth c H locs ls X hW hlo hl
  exact lv_dup X.1 X.2.1 hd ((am_cat G v).trans hv) (kk p e s m args below meth c H locs ls X hW hlo hl)
theorem am_dup2 {v w : Value} (hd : decode y.2.1 pc = .ok (.dup2, 1)) (hv : v.category = 1) (hw : w.category = 1) (kk : am_A G d y mc ms post k n (pc + 1) lv (v :: w :: v :: w :: st) N h) : am_A G d y mc ms post k n (pc) lv (v :: w :: st) N h := by
  intro p e s m args below meth c H locs ls X hW hlo hl
  exact lv_dup2_11 X.1 X.2.1 hd ((am_cat G v).trans hv) ((am_cat G w).trans hw) (kk p e s m args below meth c H locs ls X hW hlo hl)
theorem am_ldcw {i : Nat} {v : Int32} (hd : decode y.2.1 pc = .ok (.ldc_w i, 3)) (hc : Cond.constant y.1.cls i v ∈ am_tbl) (kk : am_A G d y mc ms post k n (pc + 3) lv (.int v :: st) N h) : am_A G d y mc ms post k n (pc) lv (st) N h := by
  intro p e s m args below meth c H locs ls X hW hlo hl
  exact lv_ldcw X.1 X.2.1 X.2.2.2.2.1 (X.2.2.2.2.2.1 _ hc) hd (kk p e s m args below meth c H locs ls X hW hlo hl)
theorem am_ldc2 {i : Nat} {v : Int64} (hd : decode y.2.1 pc = .ok (.ldc2_w i, 3)) (hc : Cond.constantLong y.1.cls i v ∈ am_tbl) (kk : am_A G d y mc ms post k n (pc + 3) lv (.long v :: st) N h) : am_A G d y mc ms post k n (pc) lv (st) N h := by
  intro p e s m args below meth c H locs ls X hW hlo hl
  exact lv_ldc2 X.1 X.2.1 X.2.2.2.2.1 (X.2.2.2.2.2.1 _ hc) hd (kk p e s m args below meth c H locs ls X hW hlo hl)
def am_cmp (c : ClassFile.Cond) (x z : Int32) : Prop := match c with
  | .eq => x = z
  | .ne => ¬ x = z
  | .lt => x < z
  | .ge => z ≤ x
  | .gt => z < x
  | .le => x ≤ z
def am_cmpb (c : ClassFile.Cond) (x z : Int32) : Bool := match c with
  | .eq => decide (x = z)
  | .ne => !decide (x = z)
  | .lt => decide (x < z)
  | .ge => decide (z ≤ x)
  | .gt => decide (z < x)
  | .le => decide (x ≤ z)
theorem am_cmpb_iff (c : ClassFile.Cond) (x z : Int32) : am_cmpb c x z = true ↔ am_cmp c x z := by cases c <;> simp [am_cmpb, am_cmp]
theorem am_icmp_eq {x z : Int32} {off : Int} {tgt : Nat} (hd : decode y.2.1 pc = .ok (.if_icmp .eq off, 3)) (ht : (pc : Int) + off = (tgt : Int)) (kt : x = z → am_A G d y mc ms post k n (tgt) lv (st) N h) (kf : ¬ x = z → am_A G d y mc ms post k n (pc + 3) lv (st) N h) : am_A G d y mc ms post k n (pc) lv (.int z :: .int x :: st) N h := by
  intro p e s m args below meth c H locs ls X hW hlo hl
  exact lv_icmp_eq X.1 X.2.1 hd ht (fun q => kt q p e s m args below meth c H locs ls X hW hlo hl) (fun q => kf q p e s m args below meth c H locs ls X hW hlo hl)
theorem am_if_eq {x : Int32} {off : Int} {tgt : Nat} (hd : decode y.2.1 pc = .ok (.ifCond .eq off, 3)) (ht : (pc : Int) + off = (tgt : Int)) (kt : x = 0 → am_A G d y mc ms post k n (tgt) lv (st) N h) (kf : ¬ x = 0 → am_A G d y mc ms post k n (pc + 3) lv (st) N h) : am_A G d y mc ms post k n (pc) lv (.int x :: st) N h := by
  intro p e s m args below meth c H locs ls X hW hlo hl
  exact lv_if_eq X.1 X.2.1 hd ht (fun q => kt q p e s m args below meth c H locs ls X hW hlo hl) (fun q => kf q p e s m args below meth c H locs ls X hW hlo hl)
theorem am_icmp_ne {x z : Int32} {off : Int} {tgt : Nat} (hd : decode y.2.1 pc = .ok (.if_icmp .ne off, 3)) (ht : (pc : Int) + off = (tgt : Int)) (kt : ¬ x = z → am_A G d y mc ms post k n (tgt) lv (st) N h) (kf : x = z → am_A G d y mc ms post k n (pc + 3) lv (st) N h) : am_A G d y mc ms post k n (pc) lv (.int z :: .int x :: st) N h := by
  intro p e s m args below meth c H locs ls X hW hlo hl
  exact lv_icmp_ne X.1 X.2.1 hd ht (fun q => kt q p e s m args below meth c H locs ls X hW hlo hl) (fun q => kf q p e s m args below meth c H locs ls X hW hlo hl)
theorem am_if_ne {x : Int32} {off : Int} {tgt : Nat} (hd : decode y.2.1 pc = .ok (.ifCond .ne off, 3)) (ht : (pc : Int) + off = (tgt : Int)) (kt : ¬ x = 0 → am_A G d y mc ms post k n (tgt) lv (st) N h) (kf : x = 0 → am_A G d y mc ms post k n (pc + 3) lv (st) N h) : am_A G d y mc ms post k n (pc) lv (.int x :: st) N h := by
  intro p e s m args below meth c H locs ls X hW hlo hl
  exact lv_if_ne X.1 X.2.1 hd ht (fun q => kt q p e s m args below meth c H locs ls X hW hlo hl) (fun q => kf q p e s m args below meth c H locs ls X hW hlo hl)
theorem am_icmp_lt {x z : Int32} {off : Int} {tgt : Nat} (hd : decode y.2.1 pc = .ok (.if_icmp .lt off, 3)) (ht : (pc : Int) + off = (tgt : Int)) (kt : x < z → am_A G d y mc ms post k n (tgt) lv (st) N h) (kf : ¬ x < z → am_A G d y mc ms post k n (pc + 3) lv (st) N h) : am_A G d y mc ms post k n (pc) lv (.int z :: .int x :: st) N h := by
  intro p e s m args below meth c H locs ls X hW hlo hl
  exact lv_icmp_lt X.1 X.2.1 hd ht (fun q => kt q p e s m args below meth c H locs ls X hW hlo hl) (fun q => kf q p e s m args below meth c H locs ls X hW hlo hl)
theorem am_if_lt {x : Int32} {off : Int} {tgt : Nat} (hd : decode y.2.1 pc = .ok (.ifCond .lt off, 3)) (ht : (pc : Int) + off = (tgt : Int)) (kt : x < 0 → am_A G d y mc ms post k n (tgt) lv (st) N h) (kf : ¬ x < 0 → am_A G d y mc ms post k n (pc + 3) lv (st) N h) : am_A G d y mc ms post k n (pc) lv (.int x :: st) N h := by
  intro p e s m args below meth c H locs ls X hW hlo hl
  exact lv_if_lt X.1 X.2.1 hd ht (fun q => kt q p e s m args below meth c H locs ls X hW hlo hl) (fun q => kf q p e s m args below meth c H locs ls X hW hlo hl)
theorem am_icmp_ge {x z : Int32} {off : Int} {tgt : Nat} (hd : decode y.2.1 pc = .ok (.if_icmp .ge off, 3)) (ht : (pc : Int) + off = (tgt : Int)) (kt : z ≤ x → am_A G d y mc ms post k n (tgt) lv (st) N h) (kf : ¬ z ≤ x → am_A G d y mc ms post k n (pc + 3) lv (st) N h) : am_A G d y mc ms post k n (pc) lv (.int z :: .int x :: st) N h := by
  intro p e s m args below meth c H locs ls X hW hlo hl
  exact lv_icmp_ge X.1 X.2.1 hd ht (fun q => kt q p e s m args below meth c H locs ls X hW hlo hl) (fun q => kf q p e s m args below meth c H locs ls X hW hlo hl)
theorem am_if_ge {x : Int32} {off : Int} {tgt : Nat} (hd : decode y.2.1 pc = .ok (.ifCond .ge off, 3)) (ht : (pc : Int) + off = (tgt : Int)) (kt : 0 ≤ x → am_A G d y mc ms post k n (tgt) lv (st) N h) (kf : ¬ 0 ≤ x → am_A G d y mc ms post k n (pc + 3) lv (st) N h) : am_A G d y mc ms post k n (pc) lv (.int x :: st) N h := by
  intro p e s m args below meth c H locs ls X hW hlo hl
  exact lv_if_ge X.1 X.2.1 hd ht (fun q => kt q p e s m args below meth c H locs ls X hW hlo hl) (fun q => kf q p e s m args below meth c H locs ls X hW hlo hl)
theorem am_icmp_gt {x z : Int32} {off : Int} {tgt : Nat} (hd : decode y.2.1 pc = .ok (.if_icmp .gt off, 3)) (ht : (pc : Int) + off = (tgt : Int)) (kt : z < x → am_A G d y mc ms post k n (tgt) lv (st) N h) (kf : ¬ z < x → am_A G d y mc ms post k n (pc + 3) lv (st) N h) : am_A G d y mc ms post k n (pc) lv (.int z :: .int x :: st) N h := by
  intro p e s m args below meth c H locs ls X hW hlo hl
  exact lv_icmp_gt X.1 X.2.1 hd ht (fun q => kt q p e s m args below meth c H locs ls X hW hlo hl) (fun q => kf q p e s m args below meth c H locs ls X hW hlo hl)
theorem am_if_gt {x : Int32} {off : Int} {tgt : Nat} (hd : decode y.2.1 pc = .ok (.ifCond .gt off, 3)) (ht : (pc : Int) + off = (tgt : Int)) (kt : 0 < x → am_A G d y mc ms post k n (tgt) lv (st) N h) (kf : ¬ 0 < x → am_A G d y mc ms post k n (pc + 3) lv (st) N h) : am_A G d y mc ms post k n (pc) lv (.int x :: st) N h := by
  intro p e s m args below meth c H locs ls X hW hlo hl
  exact lv_if_gt X.1 X.2.1 hd ht (fun q => kt q p e s m args below meth c H locs ls X hW hlo hl) (fun q => kf q p e s m args below meth c H locs ls X hW hlo hl)
theorem am_icmp_le {x z : Int32} {off : Int} {tgt : Nat} (hd : decode y.2.1 pc = .ok (.if_icmp .le off, 3)) (ht : (pc : Int) + off = (tgt : Int)) (kt : x ≤ z → am_A G d y mc ms post k n (tgt) lv (st) N h) (kf : ¬ x ≤ z → am_A G d y mc ms post k n (pc + 3) lv (st) N h) : am_A G d y mc ms post k n (pc) lv (.int z :: .int x :: st) N h := by
  intro p e s m args below meth c H locs ls X hW hlo hl
  exact lv_icmp_le X.1 X.2.1 hd ht (fun q => kt q p e s m args below meth c H locs ls X hW hlo hl) (fun q => kf q p e s m args below meth c H locs ls X hW hlo hl)
theorem am_if_le {x : Int32} {off : Int} {tgt : Nat} (hd : decode y.2.1 pc = .ok (.ifCond .le off, 3)) (ht : (pc : Int) + off = (tgt : Int)) (kt : x ≤ 0 → am_A G d y mc ms post k n (tgt) lv (st) N h) (kf : ¬ x ≤ 0 → am_A G d y mc ms post k n (pc + 3) lv (st) N h) : am_A G d y mc ms post k n (pc) lv (.int x :: st) N h := by
  intro p e s m args below meth c H locs ls X hW hlo hl
  exact lv_if_le X.1 X.2.1 hd ht (fun q => kt q p e s m args below meth c H locs ls X hW hlo hl) (fun q => kf q p e s m args below meth c H locs ls X hW hlo hl)
theorem am_icmp {c : ClassFile.Cond} {x z : Int32} {off : Int} {tgt : Nat} (hd : decode y.2.1 pc = .ok (.if_icmp c off, 3)) (ht : (pc : Int) + off = (tgt : Int)) (kt : am_cmp c x z → am_A G d y mc ms post k n (tgt) lv (st) N h) (kf : ¬ am_cmp c x z → am_A G d y mc ms post k n (pc + 3) lv (st) N h) : am_A G d y mc ms post k n (pc) lv (.int z :: .int x :: st) N h := by
  cases c
  · exact am_icmp_eq hd ht kt kf
  · exact am_icmp_ne hd ht kt (fun q => kf (fun w => w q))
  · exact am_icmp_lt hd ht kt kf
  · exact am_icmp_ge hd ht kt kf
  · exact am_icmp_gt hd ht kt kf
  · exact am_icmp_le hd ht kt kf
theorem am_ifc {c : ClassFile.Cond} {x : Int32} {off : Int} {tgt : Nat} (hd : decode y.2.1 pc = .ok (.ifCond c off, 3)) (ht : (pc : Int) + off = (tgt : Int)) (kt : am_cmp c x 0 → am_A G d y mc ms post k n (tgt) lv (st) N h) (kf : ¬ am_cmp c x 0 → am_A G d y mc ms post k n (pc + 3) lv (st) N h) : am_A G d y mc ms post k n (pc) lv (.int x :: st) N h := by
  cases c
  · exact am_if_eq hd ht kt kf
  · exact am_if_ne hd ht kt (fun q => kf (fun w => w q))
  · exact am_if_lt hd ht kt kf
  · exact am_if_ge hd ht kt kf
  · exact am_if_gt hd ht kt kf
  · exact am_if_le hd ht kt kf
theorem am_goto {off : Int} {tgt : Nat} (hd : decode y.2.1 pc = .ok (.goto off, 3)) (ht : (pc : Int) + off = (tgt : Int)) (kk : am_A G d y mc ms post k n (tgt) lv (st) N h) : am_A G d y mc ms post k n (pc) lv (st) N h := by
  intro p e s m args below meth c H locs ls X hW hlo hl
  exact lv_goto X.1 X.2.1 hd ht (kk p e s m args below meth c H locs ls X hW hlo hl)
theorem am_tblIn {dflt lo hi : Int} {offs : Array Int} {len : Nat} {x : Int32} {off : Int} {tgt : Nat} (hd : decode y.2.1 pc = .ok (.tableswitch dflt lo hi offs, len)) (h1 : ¬ x.toInt < lo) (h2 : ¬ hi < x.toInt) (ho : offs[(x.toInt - lo).toNat]? = some off) (ht : (pc : Int) + off = (tgt : Int)) (kk : am_A G d y mc ms post k n (tgt) lv (st) N h) : am_A G d y mc ms post k n (pc) lv (.int x :: st) N h := by
  intro p e s m args below meth c H locs ls X hW hlo hl
  exact lv_tableIn X.1 X.2.1 hd h1 h2 ho ht (kk p e s m args below meth c H locs ls X hW hlo hl)
theorem am_tblOut {dflt lo hi : Int} {offs : Array Int} {len : Nat} {x : Int32} {tgt : Nat} (hd : decode y.2.1 pc = .ok (.tableswitch dflt lo hi offs, len)) (h0 : x.toInt < lo ∨ hi < x.toInt) (ht : (pc : Int) + dflt = (tgt : Int)) (kk : am_A G d y mc ms post k n (tgt) lv (st) N h) : am_A G d y mc ms post k n (pc) lv (.int x :: st) N h := by
  intro p e s m args below meth c H locs ls X hW hlo hl
  exact lv_tableOut X.1 X.2.1 hd h0 ht (kk p e s m args below meth c H locs ls X hW hlo hl)
theorem am_lookup {dflt : Int} {ps : Array (Int × Int)} {len : Nat} {x : Int32} {off : Int} {tgt : Nat} (hd : decode y.2.1 pc = .ok (.lookupswitch dflt ps, len)) (hp : (ps.toList.zip (ps.toList.drop 1)).all (fun (a, next) => a.1 < next.1) = true) (ho : Op.lookupswitch.offset ps.toList dflt x.toInt = off) (ht : (pc : Int) + off = (tgt : Int)) (kk : am_A G d y mc ms post k n (tgt) lv (st) N h) : am_A G d y mc ms post k n (pc) lv (.int x :: st) N h := by
  intro p e s m args below meth c H locs ls X hW hlo hl
  exact lv_lookup X.1 X.2.1 hd hp ho ht (kk p e s m args below meth c H locs ls X hW hlo hl)
end
end
section
section
variable {G : am_G} {d : Nat} {y : am_M} {mc ms : Nat} {post : am_T} {k n pc N : Nat} {lv lv' : List (Nat × Value)} {st : List Value} {h : am_H}
theorem inX0 : ∀ w ∈ u_ws RX0 TX0 4, w ∈ am_tbl := by decide +kernel
theorem inX1 : ∀ w ∈ u_ws RX1 TX1 1, w ∈ am_tbl := by decide +kernel
theorem inX2 : ∀ w ∈ u_ws RX2 TX2 2, w ∈ am_tbl := by decide +kernel
theorem inX3 : ∀ w ∈ u_ws RX3 TX3 3, w ∈ am_tbl := by decide +kernel
theorem inX4 : ∀ w ∈ u_ws RX4 TX4 2, w ∈ am_tbl := by decide +kernel
theorem inX5 : ∀ w ∈ u_ws RX5 TX5 6, w ∈ am_tbl := by decide +kernel
theorem inX6 : ∀ w ∈ u_ws RX6 TX6 10, w ∈ am_tbl := by decide +kernel
theorem inX7 : ∀ w ∈ u_ws RX7 TX7 5, w ∈ am_tbl := by decide +kernel
theorem inX8 : ∀ w ∈ u_ws RX8 TX8 13, w ∈ am_tbl := by decide +kernel
theorem inX9 : ∀ w ∈ u_ws RX9 TX9 28, w ∈ am_tbl := by decide +kernel
theorem am_cls {ci : Nat} {q : vw_C} (hc : am_cl[ci]? = some q) : (∀ w ∈ u_ws q.1 q.2.1 q.2.2, w ∈ am_tbl) ∧ (∃ ty : Nat → FieldType, ∀ k, k < q.2.2 → parseFieldDescriptor (q.2.1 k).2.2.1 = some (ty k)) ∧ (∀ a, a < q.2.2 → ∀ b, b < q.2.2 → a ≠ b → (q.2.1 a).2.1 ≠ (q.2.1 b).2.1) := by
  match ci, hc with
  | 0, hc => cases hc; exact ⟨inX0, ⟨tyX0, tyX0_ok⟩, nmX0⟩
  | 1, hc => cases hc; exact ⟨inX1, ⟨tyX1, tyX1_ok⟩, nmX1⟩
  | 2, hc => cases hc; exact ⟨inX2, ⟨tyX2, tyX2_ok⟩, nmX2⟩
  | 3, hc => cases hc; exact ⟨inX3, ⟨tyX3, tyX3_ok⟩, nmX3⟩
  | 4, hc => cases hc; exact ⟨inX4, ⟨tyX4, tyX4_ok⟩, nmX4⟩
  | 5, hc => cases hc; exact ⟨inX5, ⟨tyX5, tyX5_ok⟩, nmX5⟩
  | 6, hc => cases hc; exact ⟨inX6, ⟨tyX6, tyX6_ok⟩, nmX6⟩
  | 7, hc => cases hc; exact ⟨inX7, ⟨tyX7, tyX7_ok⟩, nmX7⟩
  | 8, hc => cases hc; exact ⟨inX8, ⟨tyX8, tyX8_ok⟩, nmX8⟩
  | 9, hc => cases hc; exact ⟨inX9, ⟨tyX9, tyX9_ok⟩, nmX9⟩
  | ci + 10, hc => simp at hc
theorem am_wsr {G : am_G} {N a : Nat} {h : am_H} {ci : Nat} {fs : List Value} (ha : a < N) (hr : h a = .inr (ci, fs)) : (am_ws G N h)[a]? = some (am_B G + a, .inr (ci, fs.map (am_cv G))) := by rw [am_ws_get G h ha, hr]; rfl
theorem am_wsl {G : am_G} {N a : Nat} {h : am_H} {t : Nat} {x : vp_A} (ha : a < N) (hr : h a = .inl (t, x)) : (am_ws G N h)[a]? = some (am_B G + a, .inl (am_aC G t, am_ca G x)) := by rw [am_ws_get G h ha, hr]; rfl
theorem am_S {G : am_G} {s : State} {N : Nat} {h : am_H} {H : Heap} {locs : List Loc} (hZ : am_Z G s) (hW : am_W G N h H) (hlo : ∀ q ∈ locs, am_B G ≤ q.base) : va_S (fun q => am_B G ≤ q) (am_H0 G) H locs :=
  ⟨by rw [hZ.2.2.2, hW.1]; exact Nat.le_add_right _ _, fun q h1 _ => hW.2.1 q (by rw [hZ.2.2.2] at h1; exact h1), hlo⟩
theorem am_loc {G : am_G} {locs : List Loc} {a k : Nat} (hlo : ∀ q ∈ locs, am_B G ≤ q.base) (ha : am_B G ≤ a) : ∀ q ∈ locs ++ [⟨a, k⟩], am_B G ≤ q.base := by
  intro q hq
  rcases List.mem_append.mp hq with h | h
  · exact hlo q h
  · rw [List.mem_singleton.mp h]; exact ha
theorem am_get {a ci j idx : Nat} {q : vw_C} {fs : List Value} {v : Value} (hd : decode y.2.1 pc = .ok (.getfield idx, 3)) (hc : am_cl[ci]? = some q) (hj : j < q.2.2) (hlk : Cond.fieldLink y.1.cls idx (q.2.1 j).1 (q.2.1 j).2.1 (q.2.1 j).2.2.1 ∈ am_tbl) (ha : a < N) (hr : h a = .inr (ci, fs)) (hv : fs[j]? = some v) (kk : am_A G d y mc ms post (k) (n) (pc + 3) lv (v :: st) (N) (h)) : am_A G d y mc ms post (k) (n) (pc) lv (.ref a :: st) (N) (h) := by
  intro p e s m args below meth c H locs ls X hW hlo hl
  have hx := X.1
  have hb := X.2.1
  have hown := X.2.2.2.2.1
  have hts := X.2.2.2.2.2.1
  have hK := X.2.2.2.2.2.2.2.2
  exact va_get hx hb hts (am_cls hc).1 hown hK.1 hW.2.2 a (am_wsr ha hr) hc j hj (hts _ hlk) (fun _ h9 => h9) (by rw [List.getElem?_map, hv]; rfl) hd (kk p e s m args below meth c H locs ls X hW hlo hl)
theorem am_put {a ci j idx : Nat} {q : vw_C} {fs : List Value} {v : Value} {ty : FieldType} (hd : decode y.2.1 pc = .ok (.putfield idx, 3)) (hc : am_cl[ci]? = some q) (hj : j < q.2.2) (hlk : Cond.fieldLink y.1.cls idx (q.2.1 j).1 (q.2.1 j).2.1 (q.2.1 j).2.2.1 ∈ am_tbl) (hfin : (q.2.1 j).2.2.2 = false) (hty : parseFieldDescriptor (q.2.1 j).2.2.1 = some ty) (hnv : narrow ty (am_cv G v) = am_cv G v) (hfv : fits ty (am_cv G v) = true) (ha : a < N) (hr : h a = .inr (ci, fs)) (hf : j < fs.length) (kk : am_A G d y mc ms post (k) (n) (pc + 3) lv (st) (N) (va_up h a (.inr (ci, fs.set j v)))) : am_A G d y mc ms post (k) (n) (pc) lv (v :: .ref a :: st) (N) (h) := by
  intro p e s m args below meth c H locs ls X hW hlo hl
  have hx := X.1
  have hb := X.2.1
  have hown := X.2.2.2.2.1
  have hts := X.2.2.2.2.2.1
  have hK := X.2.2.2.2.2.2.2.2
  obtain ⟨C, T, M⟩ := q
  obtain ⟨hin, ⟨ty0, hty0⟩, hnm⟩ := am_cls hc
  have hap := va_apart (own := y.1.cls) hts hin ty0 hty0 hnm hK.1 hc
  have he := am_wsr (G := G) ha hr
  obtain ⟨r, h1, cell, q1, q2, q3, q4⟩ := hW.2.2 a _ he
  have hre : r = (C, T, M) := Option.some.inj (h1.symm.trans hc)
  subst hre
  obtain ⟨hS, hfc, kC, hkC, hkind⟩ := hK.1.1 ci _ hc
  obtain ⟨cf, kf, fi, f, hi, hsl⟩ := hS j hj
  have hlay := hts _ (hin _ (u_in_lay hj))
  unfold u_lay at hlay
  rw [if_neg (by rw [hfin]; decide)] at hlay
  have hst := (u_facts hfc hkC (u_lays hts hin hj) hi).1
  have h6 := u_store hfc hkC hkind hlay hi hty hnv hfv
  refine W.putK hx hb (f := f) ⟨hown, hts _ hlk, ⟨_, _, _, hi⟩, hst⟩ (by rw [q2]; exact h6) q1 q3 (by rw [hsl]; exact k2_hasslot (q4 j hj)) rfl rfl hd fun H' e1 e2 e3 => ?_
  rw [hsl] at e1 ⊢
  refine kk p e s m args below meth c H' _ ls X (am_W_set hW ?_ e2 e3) (am_loc hlo (Nat.le_add_right _ _)) hl
  exact ⟨_, hc, t_OB.to (V := updV (vp_V (fs.map (am_cv G))) j (am_cv G v)) ⟨_, e1, q2, q3, t_set q4 hap hj _⟩ (fun z _ => by
    rw [vp_updV_set (by simpa using hf) (am_cv G v) z, List.map_set])⟩
theorem am_putF {a ci j idx : Nat} {q : vw_C} {fs : List Value} {v : Value} {ty : FieldType} (hd : decode y.2.1 pc = .ok (.putfield idx, 3)) (hc : am_cl[ci]? = some q) (hj : j < q.2.2) (hlk : Cond.fieldLink y.1.cls idx (q.2.1 j).1 (q.2.1 j).2.1 (q.2.1 j).2.2.1 ∈ am_tbl) (hfin : (q.2.1 j).2.2.2 = true) (hin2 : y.1.name = "<init>") (hdecl : (q.2.1 j).1 = y.1.cls) (hty : parseFieldDescriptor (q.2.1 j).2.2.1 = some ty) (hnv : narrow ty (am_cv G v) = am_cv G v) (hfv : fits ty (am_cv G v) = true) (ha : a < N) (hr : h a = .inr (ci, fs)) (hf : j < fs.length) (kk : am_A G d y mc ms post (k) (n) (pc + 3) lv (st) (N) (va_up h a (.inr (ci, fs.set j v)))) : am_A G d y mc ms post (k) (n) (pc) lv (v :: .ref a :: st) (N) (h) := by
  intro p e s m args below meth c H locs ls X hW hlo hl
  have hx := X.1
  have hb := X.2.1
  have hown := X.2.2.2.2.1
  have hts := X.2.2.2.2.2.1
  have hK := X.2.2.2.2.2.2.2.2
  obtain ⟨C, T, M⟩ := q
  obtain ⟨hin, ⟨ty0, hty0⟩, hnm⟩ := am_cls hc
  have hap := va_apart (own := y.1.cls) hts hin ty0 hty0 hnm hK.1 hc
  have he := am_wsr (G := G) ha hr
  obtain ⟨r, h1, cell, q1, q2, q3, q4⟩ := hW.2.2 a _ he
  have hre : r = (C, T, M) := Option.some.inj (h1.symm.trans hc)
  subst hre
  obtain ⟨hS, hfc, kC, hkC, hkind⟩ := hK.1.1 ci _ hc
  obtain ⟨cf, kf, fi, f, hi, hsl⟩ := hS j hj
  have hlay := hts _ (hin _ (u_in_lay hj))
  unfold u_lay at hlay
  rw [if_pos hfin] at hlay
  have hst := (u_facts hfc hkC (u_lays hts hin hj) hi).1
  have hcf : m.cls = cf := by
    obtain ⟨_, _, c', _, _, _, -, -, hf', -, -, -, hown2, -⟩ := Cond.laysFinal_spec hlay
    have e1 : c' = cf := by have := hi.symm.trans hf'; simp at this; exact this.1.symm
    rw [hdecl] at hown2
    rw [← e1]; exact Option.some.inj (hown.symm.trans hown2)
  have h6 := u_fits hfc hkC hkind (Or.inr hlay) hi hty hnv hfv
  have hin3 : meth.name = "<init>" := X.2.2.2.2.2.2.2.1.trans hin2
  refine W.putFinK hx hb hown (hts _ hlk) hi hst hcf hin3 (by rw [q2]; exact h6) q1 q3 (by rw [hsl]; exact k2_hasslot (q4 j hj)) rfl rfl hd fun H' e1 e2 e3 => ?_
  rw [hsl] at e1 ⊢
  refine kk p e s m args below meth c H' _ ls X (am_W_set hW ?_ e2 e3) (am_loc hlo (Nat.le_add_right _ _)) hl
  exact ⟨_, hc, t_OB.to (V := updV (vp_V (fs.map (am_cv G))) j (am_cv G v)) ⟨_, e1, q2, q3, t_set q4 hap hj _⟩ (fun z _ => by
    rw [vp_updV_set (by simpa using hf) (am_cv G v) z, List.map_set])⟩
theorem am_iald {a z : Nat} {f : Nat → Int32} {i : Int32} (hd : decode y.2.1 pc = .ok (.iaload, 1)) (ha : a < N) (hr : h a = .inl (0, z, .inl f)) (hi : vp_in i z) (kk : am_A G d y mc ms post (k) (n) (pc + 1) lv (.int (f i.toNatClampNeg) :: st) (N) (h)) : am_A G d y mc ms post (k) (n) (pc) lv (.int i :: .ref a :: st) (N) (h) := by
  intro p e s m args below meth c H locs ls X hW hlo hl
  have hx := X.1
  have hb := X.2.1
  have hown := X.2.2.2.2.1
  have hts := X.2.2.2.2.2.1
  have hK := X.2.2.2.2.2.2.2.2
  exact va_iald hx hb hK.1 hW.2.2 a 0 (am_wsl ha hr) rfl hi hd (kk p e s m args below meth c H locs ls X hW hlo hl)
theorem am_lald {a z : Nat} {f : Nat → Int64} {i : Int32} (hd : decode y.2.1 pc = .ok (.laload, 1)) (ha : a < N) (hr : h a = .inl (1, z, .inr (.inl f))) (hi : vp_in i z) (kk : am_A G d y mc ms post (k) (n) (pc + 1) lv (.long (f i.toNatClampNeg) :: st) (N) (h)) : am_A G d y mc ms post (k) (n) (pc) lv (.int i :: .ref a :: st) (N) (h) := by
  intro p e s m args below meth c H locs ls X hW hlo hl
  have hx := X.1
  have hb := X.2.1
  have hown := X.2.2.2.2.1
  have hts := X.2.2.2.2.2.1
  have hK := X.2.2.2.2.2.2.2.2
  exact va_lald hx hb hK.1 hW.2.2 a 1 (am_wsl ha hr) rfl hi hd (kk p e s m args below meth c H locs ls X hW hlo hl)
theorem am_tyq {G : am_G} {t : Nat} (h1 : 2 ≤ t) (h2 : t < 5) : ∃ C, (am_tys (am_aC G))[t]? = some (am_aC G t, .object C) := by
  match t, h1, h2 with
  | 2, _, _ => exact ⟨_, rfl⟩
  | 3, _, _ => exact ⟨_, rfl⟩
  | 4, _, _ => exact ⟨_, rfl⟩
theorem am_aald {a z t b : Nat} {f : Nat → Option Nat} {i : Int32} (hd : decode y.2.1 pc = .ok (.aaload, 1)) (h1 : 2 ≤ t) (h2 : t < 5) (ha : a < N) (hr : h a = .inl (t, z, .inr (.inr (.inr (.inr f))))) (hi : vp_in i z) (hv : f i.toNatClampNeg = some b) (kk : am_A G d y mc ms post (k) (n) (pc + 1) lv (.ref b :: st) (N) (h)) : am_A G d y mc ms post (k) (n) (pc) lv (.int i :: .ref a :: st) (N) (h) := by
  intro p e s m args below meth c H locs ls X hW hlo hl
  have hx := X.1
  have hb := X.2.1
  have hown := X.2.2.2.2.1
  have hts := X.2.2.2.2.2.1
  have hK := X.2.2.2.2.2.2.2.2
  obtain ⟨C, hC⟩ := am_tyq (G := G) h1 h2
  refine va_aldq hx hb hK.1 hW.2.2 a t (am_wsl ha hr) hC hi hd ?_
  show W p G.1 e _ s m args below meth c H locs k n _ (F0 m (pc + 1) ls (va_rf ((f i.toNatClampNeg).map _) :: _))
  rw [hv]
  exact (kk p e s m args below meth c H locs ls X hW hlo hl)
theorem am_alen {a t : Nat} {x : vp_A} (hd : decode y.2.1 pc = .ok (.arraylength, 1)) (ht : t < 5) (ha : a < N) (hr : h a = .inl (t, x)) (kk : am_A G d y mc ms post (k) (n) (pc + 1) lv (.int (Int32.ofNat x.1) :: st) (N) (h)) : am_A G d y mc ms post (k) (n) (pc) lv (.ref a :: st) (N) (h) := by
  intro p e s m args below meth c H locs ls X hW hlo hl
  have hx := X.1
  have hb := X.2.1
  have hown := X.2.2.2.2.1
  have hts := X.2.2.2.2.2.1
  have hK := X.2.2.2.2.2.2.2.2
  have ht2 : ∃ ty, (am_tys (am_aC G))[t]? = some (am_aC G t, ty) := by
    match t, ht with
    | 0, _ => exact ⟨_, rfl⟩
    | 1, _ => exact ⟨_, rfl⟩
    | 2, _ => exact ⟨_, rfl⟩
    | 3, _ => exact ⟨_, rfl⟩
    | 4, _ => exact ⟨_, rfl⟩
  obtain ⟨ty, hty⟩ := ht2
  exact va_alen hx hb hK.1 hW.2.2 a t (am_wsl ha hr) hty (by obtain ⟨z, f | f | f | f | f⟩ := x <;> rfl) hd (kk p e s m args below meth c H locs ls X hW hlo hl)
theorem am_iast {a z : Nat} {f : Nat → Int32} {i : Int32} {x : Int32} (hd : decode y.2.1 pc = .ok (.iastore, 1)) (ha : a < N) (hr : h a = .inl (0, z, .inl f)) (hi : vp_in i z) (kk : am_A G d y mc ms post (k) (n) (pc + 1) lv (st) (N) (va_up h a (.inl (0, z, .inl (upd f i.toNatClampNeg x))))) : am_A G d y mc ms post (k) (n) (pc) lv (.int x :: .int i :: .ref a :: st) (N) (h) := by
  intro p e s m args below meth c H locs ls X hW hlo hl
  have hx := X.1
  have hb := X.2.1
  have hown := X.2.2.2.2.1
  have hts := X.2.2.2.2.2.1
  have hK := X.2.2.2.2.2.2.2.2
  refine W.iast hx hb (hW.2.2 a _ (am_wsl ha hr)) ((hK.1.2 0 _ rfl).1 z (fun j => .int (f j))) (fun q => by cases q) (by show ¬ (i < 0 ∨ (arrV _ _ _).slots.size ≤ _); rw [arrV_size]; exact hi) rfl rfl hd fun H1 e1 e2 oq => ?_
  refine kk p e s m args below meth c H1 _ ls X (am_W_set hW ?_ e2 oq) (am_loc hlo (Nat.le_add_right _ _)) hl
  show H1[am_B G + a]? = some (vp_cell _ _)
  rw [e1]
  show some ((vp_cell _ _).setSlot _ _) = _
  rw [show am_ca G (z, .inl f) = (z, .inl f) from rfl, show am_ca G (z, .inl (upd f i.toNatClampNeg x)) = (z, .inl (upd f i.toNatClampNeg x)) from rfl, vp_cell_i, vp_cell_i, arrV_store]
  congr 2
  funext q
  by_cases hq : q = i.toNatClampNeg
  · subst hq
    simp [updV, upd]
  · simp [updV, upd, hq]
theorem am_last {a z : Nat} {f : Nat → Int64} {i : Int32} {x : Int64} (hd : decode y.2.1 pc = .ok (.lastore, 1)) (ha : a < N) (hr : h a = .inl (1, z, .inr (.inl f))) (hi : vp_in i z) (kk : am_A G d y mc ms post (k) (n) (pc + 1) lv (st) (N) (va_up h a (.inl (1, z, .inr (.inl (vp_updL f i.toNatClampNeg x)))))) : am_A G d y mc ms post (k) (n) (pc) lv (.long x :: .int i :: .ref a :: st) (N) (h) := by
  intro p e s m args below meth c H locs ls X hW hlo hl
  have hx := X.1
  have hb := X.2.1
  have hown := X.2.2.2.2.1
  have hts := X.2.2.2.2.2.1
  have hK := X.2.2.2.2.2.2.2.2
  refine W.last hx hb (hW.2.2 a _ (am_wsl ha hr)) ((hK.1.2 1 _ rfl).1 z (fun j => .long (f j))) (fun q => by cases q) (by show ¬ (i < 0 ∨ (arrV _ _ _).slots.size ≤ _); rw [arrV_size]; exact hi) rfl rfl hd fun H1 e1 e2 oq => ?_
  refine kk p e s m args below meth c H1 _ ls X (am_W_set hW ?_ e2 oq) (am_loc hlo (Nat.le_add_right _ _)) hl
  show H1[am_B G + a]? = some (vp_cell _ _)
  rw [e1]
  show some ((vp_cell _ _).setSlot _ _) = _
  rw [show am_ca G (z, .inr (.inl f)) = (z, .inr (.inl f)) from rfl, show am_ca G (z, .inr (.inl (vp_updL f i.toNatClampNeg x))) = (z, .inr (.inl (vp_updL f i.toNatClampNeg x))) from rfl, vp_cell_l, vp_cell_l, arrV_store]
  congr 2
  funext q
  by_cases hq : q = i.toNatClampNeg
  · subst hq
    simp [updV, vp_updL]
  · simp [updV, vp_updL, hq]
theorem am_aast {a z t b ci : Nat} {q : vw_C} {f : Nat → Option Nat} {i : Int32} {vs : List Value} (hd : decode y.2.1 pc = .ok (.aastore, 1)) (ht : (am_tys (am_aC G))[t]? = some (am_aC G t, .object q.1)) (hc : am_cl[ci]? = some q) (ha : a < N) (hr : h a = .inl (t, z, .inr (.inr (.inr (.inr f))))) (hb2 : b < N) (hrb : h b = .inr (ci, vs)) (hi : vp_in i z) (kk : am_A G d y mc ms post (k) (n) (pc + 1) lv (st) (N) (va_up h a (.inl (t, z, .inr (.inr (.inr (.inr (va_up f i.toNatClampNeg (some b))))))))) : am_A G d y mc ms post (k) (n) (pc) lv (.ref b :: .int i :: .ref a :: st) (N) (h) := by
  intro p e s m args below meth c H locs ls X hW hlo hl
  have hx := X.1
  have hb := X.2.1
  have hown := X.2.2.2.2.1
  have hts := X.2.2.2.2.2.1
  have hK := X.2.2.2.2.2.2.2.2
  have hlt : i.toNatClampNeg < z := Nat.not_le.mp fun q => hi (Or.inr q)
  have h0 : ¬ i < 0 := fun q => hi (Or.inl q)
  obtain ⟨r', hr', cellV, g1, g2, g3, -⟩ := hW.2.2 b _ (am_wsr hb2 hrb)
  have hcls := (hK.1.1 ci q hc).2
  obtain ⟨kA, comp, k1, k2, k3, -⟩ := (hK.1.2 t _ ht).2
  have hcomp : comp = (am_D G).1 ci := Option.some.inj (k3.symm.trans hcls.1)
  subst hcomp
  obtain ⟨kC, hkC, -⟩ := hcls.2
  refine W.aast hx hb (hW.2.2 a _ (am_wsl ha hr)) (fun q h => by cases h) (fun h => by cases h) k1 k2 rfl hkC ⟨h0, by show _ < (arrV _ _ _).slots.size; rw [arrV_size]; exact hlt⟩ g1 (fun q h => by rw [g3] at h; cases h) (by rw [g2]; exact hkC) (by rw [g2]; exact va_assign hcls) rfl rfl hd fun H1 e1 e2 oq => ?_
  refine kk p e s m args below meth c H1 _ ls X (am_W_set hW ?_ e2 oq) (am_loc hlo (Nat.le_add_right _ _)) hl
  show H1[am_B G + a]? = some (vp_cell _ _)
  rw [e1]
  show some ((arrV _ _ (fun j => va_rf ((f j).map _))).setSlot _ _) = some (arrV _ _ (fun j => va_rf ((va_up f i.toNatClampNeg (some b) j).map _)))
  rw [arrV_store]
  congr 2
  funext q
  by_cases hq : q = i.toNatClampNeg
  · subst hq
    simp [updV, va_up, va_rf]
  · simp [updV, va_up, hq]
end
end
section
section
variable {G : am_G} {d : Nat} {y : am_M} {mc ms : Nat} {post : am_T} {k n pc N : Nat} {lv lv' : List (Nat × Value)} {st : List Value} {h : am_H}
theorem am_df_cv (G : am_G) (ci : Nat) : (am_df ci).map (am_cv G) = am_df ci := by
  unfold am_df
  split <;> rfl
theorem am_df_ok {ci : Nat} {q : vw_C} (hc : am_cl[ci]? = some q) : ∀ j, j < q.2.2 → (parseFieldDescriptor (q.2.1 j).2.2.1).map defaultValue = some (vp_V (am_df ci) j) := by
  match ci, hc with
  | 0, hc => cases hc; decide +kernel
  | 1, hc => cases hc; decide +kernel
  | 2, hc => cases hc; decide +kernel
  | 3, hc => cases hc; decide +kernel
  | 4, hc => cases hc; decide +kernel
  | 5, hc => cases hc; decide +kernel
  | 6, hc => cases hc; decide +kernel
  | 7, hc => cases hc; decide +kernel
  | 8, hc => cases hc; decide +kernel
  | 9, hc => cases hc; decide +kernel
  | ci + 10, hc => simp at hc
theorem am_new {ci idx : Nat} {q : vw_C} (hd : decode y.2.1 pc = .ok (.new idx, 3)) (hc : am_cl[ci]? = some q) (hlk : Cond.classLink y.1.cls idx q.1 ∈ am_tbl) (hin : Cond.instantiable q.1 q.2.2 ∈ am_tbl) (hini : Cond.initialized q.1 ∈ am_tbl) (hk : k + 1 ≤ mc) (hn : n + q.2.2 ≤ ms) (kk : am_A G d y mc ms post (k + 1) (n + q.2.2) (pc + 3) lv (.ref N :: st) (N + 1) (va_up h N (.inr (ci, am_df ci)))) : am_A G d y mc ms post (k) (n) (pc) lv (st) (N) (h) := by
  intro p e s m args below meth c H locs ls X hW hlo hl
  have hx := X.1
  have hb := X.2.1
  have hown := X.2.2.2.2.1
  have hts := X.2.2.2.2.2.1
  have hK := X.2.2.2.2.2.2.2.2
  obtain ⟨C, T, M⟩ := q
  obtain ⟨hin0, ⟨ty, hty⟩, -⟩ := am_cls hc
  have hKn := hK.1.1 ci _ hc
  refine W.newcK hx hb hown (hts _ hlk) (hts _ hin) (hts _ hini) rfl hd hk hn hKn.2.1 hW.1 fun H1 kC hkC e1 z1 o1 => ?_
  refine kk p e s m args below meth c H1 locs ls X (am_W_push hW ?_ (by rw [z1, hW.1]) (fun q hq => o1 q (by rw [← hW.1]; exact hq))) hlo hl
  refine ⟨_, hc, (u_born ty hts hin0 hKn hkC e1 hty).to (fun j hj => ?_)⟩
  show _ = vp_V ((am_df ci).map (am_cv G)) j
  rw [am_df_cv]
  have h2 := am_df_ok hc j hj
  rw [hty j hj] at h2
  exact Option.some.inj h2
theorem am_newi {x : Int32} {z : Nat} (hd : decode y.2.1 pc = .ok (.newarray .int, 2)) (harr : Cond.arrayClass .int ∈ am_tbl) (hx0 : ¬ x < 0) (hz : x.toNatClampNeg = z) (hby : z * 8 ≤ 536870912) (hk : k + 1 ≤ mc) (hn : n + z ≤ ms) (kk : am_A G d y mc ms post (k + 1) (n + z) (pc + 2) lv (.ref N :: st) (N + 1) (va_up h N (.inl (0, z, .inl (fun _ => 0))))) : am_A G d y mc ms post (k) (n) (pc) lv (.int x :: st) (N) (h) := by
  intro p e s m args below meth c H locs ls X hW hlo hl
  have hx := X.1
  have hb := X.2.1
  have hown := X.2.2.2.2.1
  have hts := X.2.2.2.2.2.1
  have hK := X.2.2.2.2.2.2.2.2
  refine va_newaK (atype := .int) hx hb (hts _ harr) rfl hd rfl hx0 hz (Nat.le_trans (Nat.mul_le_mul_left z (show componentBytes .int ≤ 8 by decide)) hby) hk hn hW.1 fun H1 cA e1 z1 o1 hAr hNm => ?_
  have hcA : cA = am_aC G 0 := Option.some.inj (hNm.symm.trans (show s.vm.findClass ("[" ++ (newarray.typeOf .int).toString) = some (am_aC G 0) from (hK.1.2 0 (am_aC G 0, .int) rfl).2))
  subst hcA
  refine kk p e s m args below meth c H1 locs ls X (am_W_push hW ?_ (by rw [z1, hW.1]) (fun q hq => o1 q (by rw [← hW.1]; exact hq))) hlo hl
  exact e1
theorem am_newl {x : Int32} {z : Nat} (hd : decode y.2.1 pc = .ok (.newarray .long, 2)) (harr : Cond.arrayClass .long ∈ am_tbl) (hx0 : ¬ x < 0) (hz : x.toNatClampNeg = z) (hby : z * 8 ≤ 536870912) (hk : k + 1 ≤ mc) (hn : n + z ≤ ms) (kk : am_A G d y mc ms post (k + 1) (n + z) (pc + 2) lv (.ref N :: st) (N + 1) (va_up h N (.inl (1, z, .inr (.inl (fun _ => 0)))))) : am_A G d y mc ms post (k) (n) (pc) lv (.int x :: st) (N) (h) := by
  intro p e s m args below meth c H locs ls X hW hlo hl
  have hx := X.1
  have hb := X.2.1
  have hown := X.2.2.2.2.1
  have hts := X.2.2.2.2.2.1
  have hK := X.2.2.2.2.2.2.2.2
  refine va_newaK (atype := .long) hx hb (hts _ harr) rfl hd rfl hx0 hz (Nat.le_trans (Nat.mul_le_mul_left z (show componentBytes .long ≤ 8 by decide)) hby) hk hn hW.1 fun H1 cA e1 z1 o1 hAr hNm => ?_
  have hcA : cA = am_aC G 1 := Option.some.inj (hNm.symm.trans (show s.vm.findClass ("[" ++ (newarray.typeOf .long).toString) = some (am_aC G 1) from (hK.1.2 1 (am_aC G 1, .long) rfl).2))
  subst hcA
  refine kk p e s m args below meth c H1 locs ls X (am_W_push hW ?_ (by rw [z1, hW.1]) (fun q hq => o1 q (by rw [← hW.1]; exact hq))) hlo hl
  exact e1
theorem am_AOt {G : am_G} {s : State} (hK : am_K G s) {t : Nat} {C : String} (ht : (am_tys (am_aC G))[t]? = some (am_aC G t, .object C)) : va_AO C s := by
  match t, ht with
  | 0, ht => simp [am_tys] at ht
  | 1, ht => simp [am_tys] at ht
  | 2, ht => simp [am_tys] at ht; rw [← ht]; exact hK.2.2.1
  | 3, ht => simp [am_tys] at ht; rw [← ht]; exact hK.2.2.2.1
  | 4, ht => simp [am_tys] at ht; rw [← ht]; exact hK.2.2.2.2
  | t + 5, ht => simp [am_tys] at ht
theorem am_newq {x : Int32} {z t idx : Nat} {C : String} (hd : decode y.2.1 pc = .ok (.anewarray idx, 3)) (ht : (am_tys (am_aC G))[t]? = some (am_aC G t, .object C)) (hlk : Cond.classLink y.1.cls idx C ∈ am_tbl) (hx0 : ¬ x < 0) (hz : x.toNatClampNeg = z) (hby : z * 4 ≤ 536870912) (hk : k + 1 ≤ mc) (hn : n + z ≤ ms) (kk : am_A G d y mc ms post (k + 1) (n + z) (pc + 3) lv (.ref N :: st) (N + 1) (va_up h N (.inl (t, z, .inr (.inr (.inr (.inr (fun _ => none)))))))) : am_A G d y mc ms post (k) (n) (pc) lv (.int x :: st) (N) (h) := by
  intro p e s m args below meth c H locs ls X hW hlo hl
  have hx := X.1
  have hb := X.2.1
  have hown := X.2.2.2.2.1
  have hts := X.2.2.2.2.2.1
  have hK := X.2.2.2.2.2.2.2.2
  subst hz
  refine W.anew hx hb hown (hts _ hlk) (va_AO.use (am_AOt hK ht)) rfl hd rfl hx0 hby hk hn fun cA kA comp f1 f2 f3 f4 => ?_
  obtain ⟨kA2, comp2, g1, g2, g3, g4⟩ := (hK.1.2 t _ ht).2
  have hcA : cA = am_aC G t := Option.some.inj (f1.symm.trans g4)
  subst hcA
  have hsz : H.size = am_B G + N := hW.1
  have hk2 := kk p e s m args below meth c (H.push ({ cls := am_aC G t, slots := Array.replicate x.toNatClampNeg .null, vm := .none } : Cell)) locs ls X (am_W_push hW (by
    have h9 : (H.push ({ cls := am_aC G t, slots := Array.replicate x.toNatClampNeg .null, vm := .none } : Cell))[am_B G + N]? = some (arrV (am_aC G t) x.toNatClampNeg (fun _ => .null)) := by rw [← hsz, Array.getElem?_push_size, ← arrV_new]
    exact h9) (by rw [Array.size_push]) (fun q hq => by rw [Array.getElem?_push, if_neg (Nat.ne_of_lt hq)])) hlo hl
  rw [hsz]
  exact hk2
theorem am_gets {idx : Nat} (hd : decode y.2.1 pc = .ok (.getstatic idx, 3)) (hlk : Cond.fieldLink y.1.cls idx RX1 "PLACES" "[I" ∈ am_tbl) (kk : am_A G d y mc ms post (k) (n) (pc + 3) lv (.float 4294967295 :: st) (N) (h)) : am_A G d y mc ms post (k) (n) (pc) lv (st) (N) (h) := by
  intro p e s m args below meth c H locs ls X hW hlo hl
  have hx := X.1
  have hb := X.2.1
  have hown := X.2.2.2.2.1
  have hts := X.2.2.2.2.2.1
  have hK := X.2.2.2.2.2.2.2.2
  obtain ⟨cf, kf, fi, f, a, cell, h1, h2, h3, h4, h5, h6, h7, h8⟩ := hK.2.1.1
  have ha : a < am_B G := Nat.lt_of_not_le h8
  exact W.gets hx hb hown (hts _ hlk) h1 h2 h3 h4 (by rw [hW.2.1 a ha]; exact h5) (fun e => by rw [e] at h6; cases h6) h7 rfl hd (kk p e s m args below meth c H locs ls X hW hlo hl)
theorem am_plald {i : Int32} (hd : decode y.2.1 pc = .ok (.iaload, 1)) (hi : vp_in i 13) (kk : am_A G d y mc ms post (k) (n) (pc + 1) lv (.int (am_PL i.toNatClampNeg) :: st) (N) (h)) : am_A G d y mc ms post (k) (n) (pc) lv (.int i :: .float 4294967295 :: st) (N) (h) := by
  intro p e s m args below meth c H locs ls X hW hlo hl
  have hx := X.1
  have hb := X.2.1
  have hown := X.2.2.2.2.1
  have hts := X.2.2.2.2.2.1
  have hK := X.2.2.2.2.2.2.2.2
  obtain ⟨cell, h1, h2, h3, h4, h5, h6, h7⟩ := hK.2.1.2.1
  have hlt : i.toNatClampNeg < 13 := Nat.not_le.mp fun q => hi (Or.inr q)
  have hin' : ¬ (i < 0 ∨ cell.slots.size ≤ i.toNatClampNeg) := by
    intro q
    rcases q with q | q
    · exact hi (Or.inl q)
    · omega
  exact W.iald (v := .int (am_PL i.toNatClampNeg)) hx hb (by rw [hW.2.1 _ hK.2.1.2.2.1]; exact h1) h2 h3 hin' (h6 _ hlt) rfl rfl hd (kk p e s m args below meth c H locs ls X hW hlo hl)
theorem am_plen (hd : decode y.2.1 pc = .ok (.arraylength, 1)) (kk : am_A G d y mc ms post (k) (n) (pc + 1) lv (.int 13 :: st) (N) (h)) : am_A G d y mc ms post (k) (n) (pc) lv (.float 4294967295 :: st) (N) (h) := by
  intro p e s m args below meth c H locs ls X hW hlo hl
  have hx := X.1
  have hb := X.2.1
  have hown := X.2.2.2.2.1
  have hts := X.2.2.2.2.2.1
  have hK := X.2.2.2.2.2.2.2.2
  obtain ⟨cell, h1, h2, h3, h4, h5, h6, h7⟩ := hK.2.1.2.1
  exact W.alen (n := 13) hx hb (by rw [hW.2.1 _ hK.2.1.2.2.1]; exact h1) h2 h5 rfl rfl hd (kk p e s m args below meth c H locs ls X hW hlo hl)
theorem am_copy {a b z1 z2 idx : Nat} {f g : Nat → Int32} {sp dp x : Int32} (hd : decode y.2.1 pc = .ok (.invokestatic idx, 3)) (hlk : Cond.methodLink y.1.cls idx arraycopyName ∈ am_tbl) (hnat : Cond.native arraycopyName ∈ am_tbl) (hstat : Cond.static arraycopyName ∈ am_tbl) (hini : Cond.initialized "java/lang/System" ∈ am_tbl) (ha : a < N) (hr : h a = .inl (0, z1, .inl f)) (hbN : b < N) (hrb : h b = .inl (0, z2, .inl g)) (h1 : ¬ sp < 0) (h2 : ¬ dp < 0) (h3 : ¬ x < 0) (h4 : sp.toNatClampNeg + x.toNatClampNeg ≤ z1) (h5 : dp.toNatClampNeg + x.toNatClampNeg ≤ z2) (hdd : 1 ≤ d) (hrest : (st.map fun v => v.category).sum ≤ 20) (kk : am_A G d y mc ms post (k) (n) (pc + 3) lv (st) (N) (va_up h b (.inl (0, z2, .inl (va_cpy f g sp.toNatClampNeg dp.toNatClampNeg x.toNatClampNeg))))) : am_A G d y mc ms post (k) (n) (pc) lv (.int x :: .int dp :: .ref b :: .int sp :: .ref a :: st) (N) (h) := by
  intro p e s m args below meth c H locs ls X hW hlo hl
  have hx := X.1
  have hb := X.2.1
  have hown := X.2.2.2.2.1
  have hts := X.2.2.2.2.2.1
  have hK := X.2.2.2.2.2.2.2.2
  have nn : ∀ z : Int32, ¬ z < 0 → z.toInt = (z.toNatClampNeg : Int) := by
    intro z hz
    have hz0 : (0 : Int) ≤ z.toInt := by
      have := Int32.not_lt.mp hz
      simpa using Int32.le_iff_toInt_le.mp this
    show z.toInt = ((z.toInt.toNat : Nat) : Int)
    omega
  intro T hT Xs
  have hc0 : H[am_B G + a]? = some (vp_cell (am_aC G 0) (z1, .inl f)) := hW.2.2 a _ (am_wsl ha hr)
  have hc1 : H[am_B G + b]? = some (vp_cell (am_aC G 0) (z2, .inl g)) := hW.2.2 b _ (am_wsl hbN hrb)
  obtain ⟨-, k0, hk0, cm0, hkk0⟩ := (hK.1.2 0 _ rfl).1 z1 (fun j => .int (f j))
  obtain ⟨-, k1, hk1, cm1, hkk1⟩ := (hK.1.2 0 _ rfl).1 z2 (fun j => .int (g j))
  obtain ⟨vm', X', step⟩ := Xs.arraycopy hx hown (hts _ hlk) (hts _ hnat) (hts _ hstat) (hts _ hini) (src := am_B G + a) (dst := am_B G + b) (cs := vp_cell (am_aC G 0) (z1, .inl f)) (cd := vp_cell (am_aC G 0) (z2, .inl g)) (srcPos := sp) (destPos := dp) (n := x) (by rw [hT]; exact hc0) (by rw [hT]; exact hc1)
    (fun _ h => by cases h) (fun _ h => by cases h) (fun h => by cases h) (fun h => by cases h) hk0 hk1 hkk0 hkk1 (by simp [refKind]) h1 h2 h3
    (by rw [nn sp h1, nn x h3]; show ¬ _ > ((arrV (am_aC G 0) z1 (fun j => .int (f j))).slots.size : Int); rw [arrV_size]; omega)
    (by rw [nn dp h2, nn x h3]; show ¬ _ > ((arrV (am_aC G 0) z2 (fun j => .int (g j))).slots.size : Int); rw [arrV_size]; omega)
    (fun vm₁ _ i hi => by
      have e : (vp_cell (am_aC G 0) (z1, .inl f)).slots.getD (sp.toNatClampNeg + i) .null = .int (f (sp.toNatClampNeg + i)) := by
        show (arrV (am_aC G 0) z1 (fun j => .int (f j))).slots.getD _ _ = _
        rw [Array.getD_eq_getD_getElem?, arrV_read _ _ (by omega)]
        rfl
      refine ⟨?_, ?_⟩
      · rw [e]; rfl
      · rw [e]
        exact trivial)
    (g := F0 m pc ls (.int x :: .int dp :: .ref (am_B G + b) :: .int sp :: .ref (am_B G + a) :: st.map (am_cv G))) rfl (by rw [X.2.2.2.1]; exact hl.1) (rest := st.map (am_cv G)) rfl (by rw [hb]; exact hd) hdd (by
      show 2 * 0 + _ + _ ≤ 100 * d
      rw [List.map_map, show ((fun v => v.category) ∘ am_cv G) = (fun v : Value => v.category) from funext (am_cat G)]
      have hw : nativeFrameWords "java/lang/System" "arraycopy" 5 + 11 ≤ 70 := by decide
      omega)
  have e1 : copied (vp_cell (am_aC G 0) (z1, .inl f)) (vp_cell (am_aC G 0) (z2, .inl g)) sp dp x = vp_cell (am_aC G 0) (z2, .inl (va_cpy f g sp.toNatClampNeg dp.toNatClampNeg x.toNatClampNeg)) := va_copied (fun z => .int z) (am_aC G 0) (am_aC G 0) f g h4
  rw [e1] at X' step
  have hlb : am_B G + b < H.size := (Array.getElem?_eq_some_iff.mp hc1).1
  have hheap : ((T.setVm vm').setCell (am_B G + b) (vp_cell (am_aC G 0) (z2, .inl (va_cpy f g sp.toNatClampNeg dp.toNatClampNeg x.toNatClampNeg)))).heap = H.setIfInBounds (am_B G + b) (vp_cell (am_aC G 0) (z2, .inl (va_cpy f g sp.toNatClampNeg dp.toNatClampNeg x.toNatClampNeg))) := by rw [← hT]; rfl
  have oq : ∀ q : Nat, q ≠ am_B G + b → (H.setIfInBounds (am_B G + b) (vp_cell (am_aC G 0) (z2, .inl (va_cpy f g sp.toNatClampNeg dp.toNatClampNeg x.toNatClampNeg))))[q]? = H[q]? := fun q hq => by simp [Array.getElem?_setIfInBounds, Ne.symm hq]
  obtain ⟨t, a1, b1⟩ := kk p e s m args below meth c _ _ ls X (am_W_set hW (show (H.setIfInBounds (am_B G + b) _)[am_B G + b]? = some _ by simp [Array.getElem?_setIfInBounds, hlb]; rfl) (by simp) oq) (fun q hq => by
      rcases List.mem_append.mp hq with h | h
      · exact hlo q h
      · obtain ⟨z, -, hz⟩ := List.mem_map.mp h
        rw [← hz]
        exact Nat.le_add_right _ _) hl _ hheap X'
  exact ⟨t, step t a1, b1⟩
end
end
section
section
variable {G : am_G} {d : Nat} {y : am_M} {mc ms : Nat} {post : am_T} {k n pc N : Nat} {lv lv' : List (Nat × Value)} {st : List Value} {h : am_H}
theorem am_goody {y : am_M} (hc : Cond.code y.1 y.2.1 y.2.2.1 y.2.2.2 ∈ am_tbl) : GoodIn am_tbl (am_wy y) := fun w hw => by
  rcases List.mem_cons.mp hw with rfl | h
  · exact am_good _ hc
  · exact am_good _ h
theorem am_callB {y2 : am_M} {n2 d2 mc2 ms2 idx : Nat} {own : String} {s : State} {args : Array Value} (hts : ∀ w ∈ am_tbl, w.before args s = true) (ok : am_okM y2 n2) (hlk : Cond.methodLink own idx y2.1 ∈ am_tbl) (hd2 : d2 + 1 ≤ d) : CallB (am_R d mc ms) s args own idx y2.1 y2.2.1 y2.2.2.1 y2.2.2.2 (am_wy y2) (am_R d2 mc2 ms2) mc2 ms2 n2 :=
  callB_of n2 hts (am_goody ok.2.1) rfl rfl rfl (hts _ ok.2.2.1) (hts _ hlk) ok.2.2.2.1 ⟨hd2, by have := ok.2.2.2.2; show 8 + (y2.2.2.1 + 11) + 100 * d2 ≤ 100 * d; omega⟩
theorem am_blind (G : am_G) (N : Nat) (h : am_H) (as : List Value) : FrameBlind (am_P G N h as) := fun _ U _ _ q => ⟨q.1, q.2.1, am_K.moved (Vm.Alike.refl U.vm) q.2.2⟩
theorem am_catS (G : am_G) (st : List Value) : ((st.map (am_cv G)).map fun v => v.category).sum = (st.map fun v => v.category).sum := by
  rw [List.map_map, show ((fun v => v.category) ∘ am_cv G) = (fun v : Value => v.category) from funext (am_cat G)]
/-- behind a call -/
theorem am_after {p : Program} {e : Env} {s : State} {m : MethodId} {args a0 : Array Value} {below : List Frame} {meth : Method} {c : Code} {H : Heap} {locs : List Loc} {ls : Array Slot} {st0 : List Value} {rest : List Value} {mc2 ms2 : Nat} {post2 : am_T}
    (hr : va_Run p G.1 e (am_R d mc ms) s m args below meth c H locs k n mc2 ms2 (F0 m pc ls st0) (rest.map (am_cv G)) (am_Q G post2 a0) (fun q => am_B G ≤ q)) (X : am_X G y p s m args meth c) (hlo : ∀ q ∈ locs, am_B G ≤ q.base) (hl : lv_has ls y.2.2.1 (am_lv G lv))
    (kk : ∀ (r : Option Value) (N' : Nat) (h' : am_H), post2 r N' h' → am_A G d y mc ms post (k + mc2) (n + ms2) (pc + 3) lv (r.toList ++ rest) N' h') :
    W p G.1 e (am_R d mc ms) s m args below meth c H locs k n (MQ below (am_Q G post) args s mc ms (fun q => am_B G ≤ q)) (F0 m pc ls st0) := by
  intro T hT Xs
  obtain ⟨v, st₀, t, T', L, h0, X', hL, e1, e2, ⟨r, N', h', hv, hp, hw⟩, stp⟩ := hr T hT Xs
  have hv2 : v = r.map (am_cv G) := by cases hv; rfl
  subst hv2
  obtain ⟨t2, a1, b1⟩ := kk r N' h' hp p e s m args below meth c T'.heap (locs ++ L) ls X (by rw [e1]; exact hw) (fun q hq => by
    rcases List.mem_append.mp hq with h | h
    · exact hlo q h
    · exact hL q h) hl T' rfl X'
  refine ⟨t2, stp t2 ?_, b1⟩
  have e3 : (r.map (am_cv G)).toList ++ rest.map (am_cv G) = (r.toList ++ rest).map (am_cv G) := by cases r <;> rfl
  show Steps p.tables e below (T'.setTop (F0 m (pc + 3) ls ((r.map (am_cv G)).toList ++ rest.map (am_cv G)))) t2
  rw [e3]
  exact a1
theorem am_callV {y2 : am_M} {n2 d2 mc2 ms2 idx a ci : Nat} {q : vw_C} {fs as rest : List Value} {post2 : am_T} (hd : decode y.2.1 pc = .ok (.invokevirtual idx, 3)) (ok : am_okM y2 n2) (hlk : Cond.methodLink y.1.cls idx y2.1 ∈ am_tbl) (hin : Cond.instanceMethod y2.1 ∈ am_tbl) (hsel : Cond.selects y2.1.cls y2.1 y2.1 ∈ am_tbl) (hc : am_cl[ci]? = some q) (hcq : q.1 = y2.1.cls) (ha : a < N) (hr : h a = .inr (ci, fs)) (hst : st = as.reverse ++ .ref a :: rest) (hn2 : as.length = n2) (hrest : (rest.map fun v => v.category).sum ≤ 8) (hd2 : d2 + 1 ≤ d) (hk : k + mc2 ≤ mc) (hn : n + ms2 ≤ ms)
    (hC : am_C G d2 y2 mc2 ms2 (.ref a :: as) N h post2) (kk : ∀ (r : Option Value) (N' : Nat) (h' : am_H), post2 r N' h' → am_A G d y mc ms post (k + mc2) (n + ms2) (pc + 3) lv (r.toList ++ rest) N' h') : am_A G d y mc ms post (k) (n) (pc) lv (st) (N) (h) := by
  intro p e s m args below meth c H locs ls X hW hlo hl
  have hx := X.1
  have hb := X.2.1
  have hown := X.2.2.2.2.1
  have hts := X.2.2.2.2.2.1
  have hK := X.2.2.2.2.2.2.2.2
  subst hst
  refine am_after (va_runV (C := y2.1.cls) (b := am_B G + a) (As := as.map (am_cv G)) ⟨hx, hb, X.2.2.2.1, hown, hts⟩ hC ⟨am_callB hts ok hlk hd2, hts _ hin, hts _ hsel⟩ ⟨am_blind G N h _, ?_, fun U hU hWm => ⟨rfl, by rw [hU]; exact hW, am_K.moved hWm.alike hK⟩⟩ rfl (by simpa using hn2) hl.1 (by simp [am_cv]) (lv_room (by rw [am_catS]; exact hrest)) hd ⟨hk, hn⟩) X hlo hl kk
  have := va_recv hK.1 hW.2.2 hc (am_wsr ha hr)
  rw [hcq] at this
  exact this
theorem am_callS {y2 : am_M} {n2 d2 mc2 ms2 idx : Nat} {as rest : List Value} {post2 : am_T} (hd : decode y.2.1 pc = .ok (.invokestatic idx, 3)) (ok : am_okM y2 n2) (hlk : Cond.methodLink y.1.cls idx y2.1 ∈ am_tbl) (hin : Cond.static y2.1 ∈ am_tbl) (hst : st = as.reverse ++ rest) (hn2 : as.length = n2) (hrest : (rest.map fun v => v.category).sum ≤ 8) (hd2 : d2 + 1 ≤ d) (hk : k + mc2 ≤ mc) (hn : n + ms2 ≤ ms)
    (hC : am_C G d2 y2 mc2 ms2 as N h post2) (kk : ∀ (r : Option Value) (N' : Nat) (h' : am_H), post2 r N' h' → am_A G d y mc ms post (k + mc2) (n + ms2) (pc + 3) lv (r.toList ++ rest) N' h') : am_A G d y mc ms post (k) (n) (pc) lv (st) (N) (h) := by
  intro p e s m args below meth c H locs ls X hW hlo hl
  have hx := X.1
  have hb := X.2.1
  have hown := X.2.2.2.2.1
  have hts := X.2.2.2.2.2.1
  have hK := X.2.2.2.2.2.2.2.2
  subst hst
  exact am_after (va_runS (As := as.map (am_cv G)) ⟨hx, hb, X.2.2.2.1, hown, hts⟩ hC ⟨am_callB hts ok hlk hd2, hts _ hin⟩ ⟨am_blind G N h _, fun U hU hWm => ⟨rfl, by rw [hU]; exact hW, am_K.moved hWm.alike hK⟩⟩ rfl (by simpa using hn2) hl.1 (by simp) (lv_room (by rw [am_catS]; exact hrest)) hd ⟨hk, hn⟩) X hlo hl kk
theorem am_callI {y2 : am_M} {n2 d2 mc2 ms2 idx a : Nat} {as rest : List Value} {post2 : am_T} (hd : decode y.2.1 pc = .ok (.invokespecial idx, 3)) (ok : am_okM y2 n2) (hlk : Cond.methodLink y.1.cls idx y2.1 ∈ am_tbl) (hin : Cond.instanceMethod y2.1 ∈ am_tbl) (hy1 : y2.1.name = "<init>") (hret : y2.2.2.2 = none) (hst : st = as.reverse ++ .ref a :: rest) (hn2 : as.length = n2) (hrest : (rest.map fun v => v.category).sum ≤ 8) (hd2 : d2 + 1 ≤ d) (hk : k + mc2 ≤ mc) (hn : n + ms2 ≤ ms)
    (hC : am_C G d2 y2 mc2 ms2 (.ref a :: as) N h post2) (kk : ∀ (r : Option Value) (N' : Nat) (h' : am_H), post2 r N' h' → am_A G d y mc ms post (k + mc2) (n + ms2) (pc + 3) lv (r.toList ++ rest) N' h') : am_A G d y mc ms post (k) (n) (pc) lv (st) (N) (h) := by
  intro p e s m args below meth c H locs ls X hW hlo hl
  have hx := X.1
  have hb := X.2.1
  have hown := X.2.2.2.2.1
  have hts := X.2.2.2.2.2.1
  have hK := X.2.2.2.2.2.2.2.2
  subst hst
  obtain ⟨y2n, y2c, y2m, y2r⟩ := y2
  have hret : y2r = none := hret
  subst hret
  exact am_after (va_runI (b := am_B G + a) (As := as.map (am_cv G)) ⟨hx, hb, X.2.2.2.1, hown, hts⟩ hC ⟨am_callB hts ok hlk hd2, hy1, hts _ hin⟩ ⟨am_blind G N h _, fun U hU hWm => ⟨rfl, by rw [hU]; exact hW, am_K.moved hWm.alike hK⟩⟩ rfl (by simpa using hn2) hl.1 (by simp [am_cv]) (lv_room (by rw [am_catS]; exact hrest)) hd ⟨hk, hn⟩) X hlo hl kk
theorem am_obj {idx a : Nat} (hd : decode y.2.1 pc = .ok (.invokespecial idx, 3)) (hlk : Cond.methodLink y.1.cls idx objectInit ∈ am_tbl) (hin : Cond.instanceMethod objectInit ∈ am_tbl) (hcd : Cond.code objectInit ⟨#[0xb1]⟩ 1 none ∈ am_tbl) (hrest : (st.map fun v => v.category).sum ≤ 20) (hdd : 1 ≤ d) (kk : am_A G d y mc ms post (k) (n) (pc + 3) lv (st) (N) (h)) : am_A G d y mc ms post (k) (n) (pc) lv (.ref a :: st) (N) (h) := by
  intro p e s m args below meth c H locs ls X hW hlo hl
  have hx := X.1
  have hb := X.2.1
  have hown := X.2.2.2.2.1
  have hts := X.2.2.2.2.2.1
  have hK := X.2.2.2.2.2.2.2.2
  exact W.objInit hx hb hown (hts _ hlk) (hts _ hin) (hts _ hcd) rfl (by rw [X.2.2.2.1]; exact hl.1) rfl hd hdd (by
    show 2 * 0 + ((st.map (am_cv G)).map fun v => v.category).sum + 12 ≤ 100 * d
    rw [am_catS]; omega) (kk p e s m args below meth c H locs ls X hW hlo hl)
theorem am_iret {v : Int32} {ty : FieldType} (hd : decode y.2.1 pc = .ok (.ireturn, 1)) (hrt : y.2.2.2 = some ty) (hnr : narrow ty (.int v) = .int v) (hk : k ≤ mc) (hn : n ≤ ms) (hp : post (some (.int v)) N h) : am_A G d y mc ms post (k) (n) (pc) lv ([.int v]) (N) (h) := by
  intro p e s m args below meth c H locs ls X hW hlo hl
  have hx := X.1
  have hb := X.2.1
  have hown := X.2.2.2.2.1
  have hts := X.2.2.2.2.2.1
  have hK := X.2.2.2.2.2.2.2.2
  refine W.widen hk hn ?_
  exact W.zret hx hb (X.2.2.1.trans hrt) hnr (fun t ht _ => ⟨some (.int v), N, h, rfl, hp, by rw [ht]; exact hW⟩) hlo hd X.2.2.2.2.2.2.1
theorem am_lret {v : Int64} (hd : decode y.2.1 pc = .ok (.lreturn, 1)) (hrt : y.2.2.2 = some .long) (hk : k ≤ mc) (hn : n ≤ ms) (hp : post (some (.long v)) N h) : am_A G d y mc ms post (k) (n) (pc) lv ([.long v]) (N) (h) := by
  intro p e s m args below meth c H locs ls X hW hlo hl
  have hx := X.1
  have hb := X.2.1
  have hown := X.2.2.2.2.1
  have hts := X.2.2.2.2.2.1
  have hK := X.2.2.2.2.2.2.2.2
  refine W.widen hk hn ?_
  exact W.lret hx hb (X.2.2.1.trans hrt) (fun t ht _ => ⟨some (.long v), N, h, rfl, hp, by rw [ht]; exact hW⟩) hlo hd X.2.2.2.2.2.2.1
theorem am_vret (hd : decode y.2.1 pc = .ok (.return_, 1)) (hrt : y.2.2.2 = none) (hk : k ≤ mc) (hn : n ≤ ms) (hp : post none N h) : am_A G d y mc ms post (k) (n) (pc) lv ([]) (N) (h) := by
  intro p e s m args below meth c H locs ls X hW hlo hl
  have hx := X.1
  have hb := X.2.1
  have hown := X.2.2.2.2.1
  have hts := X.2.2.2.2.2.1
  have hK := X.2.2.2.2.2.2.2.2
  refine W.widen hk hn ?_
  exact W.vret hx hb (X.2.2.1.trans hrt) (fun t ht _ => ⟨none, N, h, rfl, hp, by rw [ht]; exact hW⟩) hlo hd X.2.2.2.2.2.2.1
theorem am_args (G : am_G) (as : List Value) : ∀ i, lv_args i (as.map (am_cv G)) = am_lv G (lv_args i as) := by
  induction as with
  | nil => intro i; rfl
  | cons v vs ih =>
    intro i
    simp only [List.map_cons, lv_args, am_cat]
    rw [ih]
    rfl
/-- a contract out of a walk from the entry -/
theorem am_ofA {n2 : Nat} {as : List Value} (ok : am_okM y n2) (hlen : (lg_sl as).length ≤ y.2.2.1) (kk : am_A G d y mc ms post 0 0 0 (lv_args 0 as) [] N h) : am_C G d y mc ms as N h post := by
  refine Met.ofW (cc := y.2.1) (maxL := y.2.2.1) (ret := y.2.2.2) ok.1 rfl ?_
  intro p e s m args below meth c s₁ B hml hv
  obtain ⟨rfl, hW, hK⟩ := hv
  have hls : (lg_sl (as.map (am_cv G))).length ≤ y.2.2.1 := by
    have e : ∀ l : List Value, (lg_sl (l.map (am_cv G))).length = (lg_sl l).length := by
      intro l
      induction l with
      | nil => rfl
      | cons v vs ih =>
        have ih2 := ih
        simp only [lg_sl] at ih2 ⊢
        simp only [List.map_cons, List.flatMap_cons, List.length_append, ih2, am_cat]
        split <;> rfl
    rw [e]; exact hlen
  have hl := lv_entry (as.map (am_cv G)) (n := y.2.2.1) hls
  rw [lg_entry_eq]
  rw [am_args] at hl
  exact kk p e s m _ below meth c s.heap [] _ ⟨B.exec, B.bytes, B.returns, hml, findClass_of_methodNamed B.named, fun w hw => atoms_spec (ws := am_wy y) B.pre w (List.mem_cons_of_mem _ hw), B.notSynchronized, (name_of_methodNamed B.named B.method).1, hK⟩ hW (fun _ h => by cases h) hl
theorem am_C.mono {as : List Value} {post2 : am_T} (hC : am_C G d y mc ms as N h post) (hp : ∀ r N' h', post r N' h' → post2 r N' h') : am_C G d y mc ms as N h post2 := by
  intro p e ha hc hk s m args below hf happ hP hK0
  obtain ⟨t, o, a1, b1, b2, ⟨⟨r, N', h', q1, q2, q3⟩, b4⟩⟩ := hC p e ha hc hk s m args below hf happ hP hK0
  exact ⟨t, o, a1, b1, b2, ⟨⟨r, N', h', q1, hp _ _ _ q2, q3⟩, b4⟩⟩
end
end
section
noncomputable section
/-! ===== plain facts of the runnable machine ===== -/
theorem ri_get_put {C : List (List ri_E)} {k : Nat} {e0 : ri_E} (e : ri_E) (h : ri_get C k = some e0) (j : Nat) : ri_get (ri_put C k e) j = if j = k then some e else ri_get C j := by
  unfold ri_get at h
  split at h
  · rename_i c hc
    have hl1 : k / 8 < C.length := by rw [ri_nth_eq] at hc; exact (List.getElem?_eq_some_iff.mp hc).1
    have hl2 : k % 8 < c.length := by rw [ri_nth_eq] at h; exact (List.getElem?_eq_some_iff.mp h).1
    unfold ri_put ri_get
    simp only [hc, ri_upd_eq]
    simp only [ri_nth_eq] at hc ⊢
    by_cases h1 : j / 8 = k / 8
    · rw [h1, List.getElem?_set_self hl1]
      simp only [hc]
      by_cases h2 : j % 8 = k % 8
      · rw [h2, List.getElem?_set_self hl2, if_pos (by omega)]
      · rw [List.getElem?_set_ne (Ne.symm h2), if_neg (fun e => h2 (by rw [e]))]
    · rw [List.getElem?_set_ne (Ne.symm h1), if_neg (fun e => h1 (by rw [e]))]
  · cases h
theorem ri_h_at {L : ri_L} {a : Nat} {e : ri_E} (h : ri_get L.2.2 a = some e) : ri_h L a = ri_e e := by simp [ri_h, h]
theorem ri_h_put {C : List (List ri_E)} {k : Nat} {e0 : ri_E} (e : ri_E) (h : ri_get C k = some e0) (n s n2 s2 : Nat) : ri_h (n, s, ri_put C k e) = va_up (ri_h (n2, s2, C)) k (ri_e e) := by
  funext j
  simp only [ri_h, ri_get_put e h j, va_up]
  by_cases hj : j = k
  · simp [hj]
  · simp [hj]
theorem ri_lt {L : ri_L} {a : Nat} (h : ¬ Nat.ble L.1 a = true) : a < L.1 := by
  rw [Nat.ble_eq] at h
  omega
theorem ri_fu_i (l : List Nat) {i : Nat} (x : Nat) (h : i < l.length) : (fun j => nI ((l.set i x).getD j 0)) = upd (fun j => nI (l.getD j 0)) i (nI x) := by
  funext j
  by_cases hj : j = i
  · subst hj
    simp [upd, List.getD, h]
  · simp [upd, List.getD, hj, List.getElem?_set_ne (Ne.symm hj)]
theorem ri_fu_l (l : List Int64) {i : Nat} (x : Int64) (h : i < l.length) : (fun j => (l.set i x).getD j 0) = vp_updL (fun j => l.getD j 0) i x := by
  funext j
  by_cases hj : j = i
  · subst hj
    simp [vp_updL, List.getD, h]
  · simp [vp_updL, List.getD, hj, List.getElem?_set_ne (Ne.symm hj)]
theorem ri_fu_q (l : List (Option Nat)) {i : Nat} (x : Option Nat) (h : i < l.length) : (fun j => (l.set i x).getD j none) = va_up (fun j => l.getD j none) i x := by
  funext j
  by_cases hj : j = i
  · subst hj
    simp [va_up, List.getD, h]
  · simp [va_up, List.getD, hj, List.getElem?_set_ne (Ne.symm hj)]
theorem ri_cpy_len {l1 l2 : List Nat} {sp dp n : Nat} (h1 : sp + n ≤ l1.length) (h2 : dp + n ≤ l2.length) : (l2.take dp ++ ((l1.drop sp).take n ++ l2.drop (dp + n))).length = l2.length := by
  simp; omega
theorem ri_cpy_eq {l1 l2 : List Nat} {sp dp n : Nat} (h1 : sp + n ≤ l1.length) (h2 : dp + n ≤ l2.length) : (fun j => nI ((l2.take dp ++ ((l1.drop sp).take n ++ l2.drop (dp + n))).getD j 0)) = va_cpy (fun j => nI (l1.getD j 0)) (fun j => nI (l2.getD j 0)) sp dp n := by
  funext j
  simp only [va_cpy, List.getD]
  have e1 : (l2.take dp).length = dp := by simp; omega
  have e2 : ((l1.drop sp).take n).length = n := by simp; omega
  by_cases c1 : j < dp
  · rw [List.getElem?_append_left (by omega), if_neg (by omega), List.getElem?_take_of_lt c1]
  · rw [List.getElem?_append_right (by omega), e1]
    by_cases c2 : j < dp + n
    · rw [List.getElem?_append_left (by omega), if_pos ⟨by omega, c2⟩, List.getElem?_take_of_lt (by omega), List.getElem?_drop]
    · rw [List.getElem?_append_right (by omega), e2, if_neg (by omega), List.getElem?_drop]
      congr 3
      omega
def am_Env (G : am_G) (E : ri_Env) : Prop := ∀ (b : Nat) (lo hi : Int), E[b]? = some (lo, hi) → lo ≤ (am_rho G b).toInt ∧ (am_rho G b).toInt ≤ hi
def am_xi (G : am_G) (v : Value) : Int32 := match v with
  | .retAddr n => nI n
  | .float b => am_rho G b.toNat
  | _ => 0
theorem am_cvf (G : am_G) {b : UInt32} (h : Nat.ble b.toNat 1000 = true) : am_cv G (.float b) = .int (am_rho G b.toNat) := by
  rw [Nat.ble_eq] at h
  show (if b = 4294967295 then Value.ref (am_pl G) else if 3000 ≤ b.toNat ∧ b.toNat < 4000 then Value.ref (am_B G + (91 + 2 * (am_rho G (b.toNat - 3000)).toNatClampNeg)) else if 2000 ≤ b.toNat ∧ b.toNat < 3000 then Value.ref (am_B G + (90 + 2 * (am_rho G (b.toNat - 2000)).toNatClampNeg)) else Value.int (am_rho G b.toNat)) = _
  rw [if_neg (fun e => by subst e; simp at h), if_neg (by omega), if_neg (by omega)]
/-- the number of an unknown plan -/
def am_px (G : am_G) (i : Nat) : Nat := (am_rho G i).toNatClampNeg
theorem am_cvP (G : am_G) {b : UInt32} (h1 : 2000 ≤ b.toNat) (h2 : b.toNat ≤ 2900) : am_cv G (.float b) = .ref (am_B G + (90 + 2 * am_px G (b.toNat - 2000))) := by
  show (if b = 4294967295 then Value.ref (am_pl G) else if 3000 ≤ b.toNat ∧ b.toNat < 4000 then Value.ref (am_B G + (91 + 2 * (am_rho G (b.toNat - 3000)).toNatClampNeg)) else if 2000 ≤ b.toNat ∧ b.toNat < 3000 then Value.ref (am_B G + (90 + 2 * (am_rho G (b.toNat - 2000)).toNatClampNeg)) else Value.int (am_rho G b.toNat)) = _
  rw [if_neg (fun e => by subst e; simp at h2), if_neg (by omega), if_pos (by omega)]
  rfl
theorem am_cvC (G : am_G) {b : UInt32} (h1 : 3000 ≤ b.toNat) (h2 : b.toNat ≤ 3900) : am_cv G (.float b) = .ref (am_B G + (91 + 2 * am_px G (b.toNat - 3000))) := by
  show (if b = 4294967295 then Value.ref (am_pl G) else if 3000 ≤ b.toNat ∧ b.toNat < 4000 then Value.ref (am_B G + (91 + 2 * (am_rho G (b.toNat - 3000)).toNatClampNeg)) else if 2000 ≤ b.toNat ∧ b.toNat < 3000 then Value.ref (am_B G + (90 + 2 * (am_rho G (b.toNat - 2000)).toNatClampNeg)) else Value.int (am_rho G b.toNat)) = _
  rw [if_neg (fun e => by subst e; simp at h2), if_pos (by omega)]
  rfl
theorem am_cvR (G : am_G) {b : UInt32} (h1 : 2000 ≤ b.toNat) (h2 : b.toNat ≤ 3900) : ∃ x, am_cv G (.float b) = .ref x := by
  show ∃ x, (if b = 4294967295 then Value.ref (am_pl G) else if 3000 ≤ b.toNat ∧ b.toNat < 4000 then Value.ref (am_B G + (91 + 2 * (am_rho G (b.toNat - 3000)).toNatClampNeg)) else if 2000 ≤ b.toNat ∧ b.toNat < 3000 then Value.ref (am_B G + (90 + 2 * (am_rho G (b.toNat - 2000)).toNatClampNeg)) else Value.int (am_rho G b.toNat)) = .ref x
  by_cases e : b = 4294967295
  · exact ⟨_, if_pos e⟩
  · rw [if_neg e]
    by_cases h3 : 3000 ≤ b.toNat
    · exact ⟨_, if_pos ⟨h3, by omega⟩⟩
    · rw [if_neg (by omega)]
      exact ⟨_, if_pos ⟨h1, by omega⟩⟩
theorem am_xi_cv (G : am_G) {v : Value} (h : ri_isI v = true) : am_cv G v = .int (am_xi G v) := by
  cases v <;> simp only [ri_isI] at h <;> (try (cases h; done))
  · exact am_cvf G h
  · rfl
def am_xl (G : am_G) (v : Value) : Int64 := match v with
  | .long x => x
  | .double b => (am_rho G b.toNat).toInt64
  | _ => 0
theorem am_xl_cv (G : am_G) {v : Value} (h : ri_isL v = true) : am_cv G v = .long (am_xl G v) := by cases v <;> first | rfl | (simp [ri_isL] at h)
theorem am_stc {G : am_G} {d : Nat} {y : am_M} {mc ms : Nat} {post : am_T} {k n pc N : Nat} {lv : List (Nat × Value)} {st st2 : List Value} {h : am_H} (he : st.map (am_cv G) = st2.map (am_cv G)) (kk : am_A G d y mc ms post k n pc lv st2 N h) : am_A G d y mc ms post k n pc lv st N h := by
  intro p e s m args below meth c H locs ls X hW hlo hl
  rw [he]
  exact kk p e s m args below meth c H locs ls X hW hlo hl
theorem am_lvs {G : am_G} {d : Nat} {y : am_M} {mc ms : Nat} {post : am_T} {k n pc N : Nat} {lv lv2 : List (Nat × Value)} {st : List Value} {h : am_H} (hs : ∀ q ∈ lv2, q ∈ lv) (kk : am_A G d y mc ms post k n pc lv2 st N h) : am_A G d y mc ms post k n pc lv st N h := by
  intro p e s m args below meth c H locs ls X hW hlo hl
  refine kk p e s m args below meth c H locs ls X hW hlo ⟨hl.1, hl.2.1, fun q hq => ?_⟩
  obtain ⟨q2, h2, rfl⟩ := List.mem_map.mp hq
  exact hl.2.2 _ (List.mem_map.mpr ⟨q2, hs q2 h2, rfl⟩)
theorem am_hc {G : am_G} {d : Nat} {y : am_M} {mc ms : Nat} {post : am_T} {k n pc N : Nat} {lv : List (Nat × Value)} {st : List Value} {h h2 : am_H} (he : ∀ j, am_ce G (h j) = am_ce G (h2 j)) (kk : am_A G d y mc ms post k n pc lv st N h2) : am_A G d y mc ms post k n pc lv st N h := by
  intro p e s m args below meth c H locs ls X hW hlo hl
  refine kk p e s m args below meth c H locs ls X ⟨hW.1, hW.2.1, am_P_of fun j hj => ?_⟩ hlo hl
  rw [← he j]
  exact am_at hW hj
theorem nI_toIntb (n : Nat) : (nI n).toInt = ri_sg n := by
  have e : (nI n).toInt = (n : Int).bmod (2 ^ 32) := by
    show (Int32.ofNat n).toInt = _
    rw [Int32.toInt_ofNat']
  rw [e, Int.bmod]
  unfold ri_sg
  split <;> split <;> omega
theorem nI_mod (n : Nat) : nI (n % 4294967296) = nI n := by
  rw [← Int32.toInt_inj, nI_toIntb, nI_toIntb]
  unfold ri_sg
  rw [Nat.mod_mod]
theorem nI_eqb (x z : Nat) : nI x = nI z ↔ x % 4294967296 = z % 4294967296 := by
  rw [← Int32.toInt_inj, nI_toIntb, nI_toIntb]
  unfold ri_sg
  have h1 : x % 4294967296 < 4294967296 := Nat.mod_lt _ (by decide)
  have h2 : z % 4294967296 < 4294967296 := Nat.mod_lt _ (by decide)
  split <;> split <;> omega
theorem ri_b2_lt (x z : Nat) : ri_b2 x < ri_b2 z ↔ nI x < nI z := by
  rw [Int32.lt_iff_toInt_lt, nI_toIntb, nI_toIntb]
  unfold ri_sg ri_b2
  split <;> split <;> omega
theorem ri_cmpn_ok (c : ClassFile.Cond) (x z : Nat) : ri_cmpn c x z = true ↔ am_cmp c (nI x) (nI z) := by
  have h1 := ri_b2_lt x z
  have h2 := ri_b2_lt z x
  have l1 : nI x ≤ nI z ↔ ¬ nI z < nI x := Int32.not_lt.symm
  have l2 : nI z ≤ nI x ↔ ¬ nI x < nI z := Int32.not_lt.symm
  cases c <;> simp only [ri_cmpn, am_cmp, Nat.beq_eq, Bool.not_eq_true', nI_eqb, Nat.ble_eq, l1, l2, ← h1, ← h2]
  · rw [← Bool.not_eq_true, Nat.beq_eq]
  · simp [Nat.blt]; omega
  · omega
  · simp [Nat.blt]; omega
  · omega
theorem nI_sub (x z : Nat) : nI x - nI z = nI ((x + (4294967296 - z % 4294967296)) % 4294967296) := by
  rw [nI_mod, ← nI_mod z]
  have h2 : z % 4294967296 < 4294967296 := Nat.mod_lt _ (by decide)
  have h3 : nI (x + (4294967296 - z % 4294967296)) + nI (z % 4294967296) = nI x := by
    rw [nI_add, nI_eqb]
    omega
  rw [← h3]
  generalize nI (x + (4294967296 - z % 4294967296)) = A
  generalize nI (z % 4294967296) = B
  rw [← Int32.toBitVec_inj]
  simp [BitVec.add_sub_cancel]
theorem nI_neg (x : Nat) : -nI x = nI ((4294967296 - x % 4294967296) % 4294967296) := by
  have h := nI_sub 0 x
  rw [Nat.zero_add] at h
  rw [← h, nI_0]
  simp
theorem nI_and (a b : Nat) : nI a &&& nI b = nI (Nat.land a b) := by
  rw [← Int32.toBitVec_inj]
  show BitVec.ofNat 32 a &&& BitVec.ofNat 32 b = BitVec.ofNat 32 (a &&& b)
  apply BitVec.eq_of_toNat_eq
  simp [Nat.and_mod_two_pow]
theorem nI_xor (a b : Nat) : nI a ^^^ nI b = nI (Nat.xor a b) := by
  rw [← Int32.toBitVec_inj]
  show BitVec.ofNat 32 a ^^^ BitVec.ofNat 32 b = BitVec.ofNat 32 (a ^^^ b)
  apply BitVec.eq_of_toNat_eq
  simp [Nat.xor_mod_two_pow]
theorem ri_sl : ∀ n, n < 32 → ((nI n &&& 31).toBitVec.smod 32).toNat = n := by decide +kernel
theorem ri_su : ∀ n, n < 32 → (((nI n).toUInt32 &&& Int32.toUInt32 31).toBitVec % 32).toNat = n := by decide +kernel
theorem ri_iv_ok {G : am_G} {E : ri_Env} (hE : am_Env G E) {v : Value} {a : Int × Int} (hI : ri_isI v = true) (h : ri_iv E v = some a) : a.1 ≤ (am_xi G v).toInt ∧ (am_xi G v).toInt ≤ a.2 := by
  cases v <;> simp only [ri_isI] at hI <;> (try (cases hI; done))
  · rename_i b
    simp only [ri_iv, ri_nth_eq] at h
    exact hE _ _ _ h
  · rename_i x
    simp only [ri_iv, Option.some.injEq] at h
    subst h
    show ri_sg x ≤ (nI x).toInt ∧ (nI x).toInt ≤ ri_sg x
    rw [nI_toIntb]
    exact ⟨Int.le_refl _, Int.le_refl _⟩
theorem ri_dec_ok {c : ClassFile.Cond} {a b : Int × Int} {x z : Int32} {r : Bool} (hx : a.1 ≤ x.toInt ∧ x.toInt ≤ a.2) (hz : b.1 ≤ z.toInt ∧ z.toInt ≤ b.2) (h : ri_dec c a b = some r) : r = true ↔ am_cmp c x z := by
  have e1 : x = z ↔ x.toInt = z.toInt := Int32.toInt_inj.symm
  cases c <;> simp only [ri_dec] at h <;> simp only [am_cmp, Int32.lt_iff_toInt_lt, Int32.le_iff_toInt_le, e1] <;> (split at h <;> (try (split at h)) <;> (try (cases h; done)) <;> (cases h; simp; omega))
theorem ri_cmp_ok {G : am_G} {E : ri_Env} (hE : am_Env G E) {c : ClassFile.Cond} {v w : Value} {r : Bool} (h : ri_cmp E c v w = some r) : ri_isI v = true ∧ ri_isI w = true ∧ (r = true ↔ am_cmp c (am_xi G v) (am_xi G w)) := by
  have key : ri_cmpv E c v w = some r → ri_isI v = true ∧ ri_isI w = true ∧ (r = true ↔ am_cmp c (am_xi G v) (am_xi G w)) := by
    intro h
    unfold ri_cmpv at h
    split at h
    · rename_i hI
      rw [Bool.and_eq_true] at hI
      split at h
      · rename_i a b ha hb
        exact ⟨hI.1, hI.2, ri_dec_ok (ri_iv_ok hE hI.1 ha) (ri_iv_ok hE hI.2 hb) h⟩
      · cases h
    · cases h
  unfold ri_cmp at h
  split at h
  · split at h
    · refine ⟨rfl, rfl, ?_⟩
      rw [Option.some.injEq] at h
      subst h
      exact ri_cmpn_ok _ _ _
    · exact key h
  · exact key h
theorem ri_c2_cat (v : Value) : ri_c2 v = true ↔ v.category = 2 := by cases v <;> simp [ri_c2, Value.category]
theorem ri_s1_sub {ls : List Value} {i : Nat} {v : Value} : ∀ q ∈ ri_lv (ri_s1 ls i v), q ∈ (i, v) :: (ri_lv ls).filter (am_f1 i) := by
  rintro ⟨j, w⟩ hq
  rw [ri_lv_mem] at hq
  obtain ⟨h1, h2⟩ := hq
  rw [List.mem_cons, List.mem_filter, ri_lv_mem]
  unfold ri_s1 at h1
  split at h1
  · rw [ri_upd_eq] at h1
    by_cases hj : j = 0
    · subst hj
      rw [List.getElem?_set] at h1
      split at h1
      · split at h1
        · cases h1; exact Or.inl rfl
        · cases h1
      · omega
    · rw [List.getElem?_set_ne (Ne.symm hj)] at h1
      exact Or.inr ⟨⟨h1, h2⟩, by simp [am_f1, hj]⟩
  · rename_i i'
    split at h1
    · rename_i w0 hw0
      rw [ri_nth_eq] at hw0
      split at h1
      · simp only [ri_upd_eq] at h1
        by_cases hj : j = i' + 1
        · subst hj
          rw [List.getElem?_set] at h1
          split at h1
          · split at h1
            · cases h1; exact Or.inl rfl
            · cases h1
          · omega
        · rw [List.getElem?_set_ne (Ne.symm hj)] at h1
          by_cases hj2 : j = i'
          · subst hj2
            rw [List.getElem?_set] at h1
            split at h1
            · split at h1
              · cases h1; exact absurd rfl h2
              · cases h1
            · omega
          · rw [List.getElem?_set_ne (Ne.symm hj2)] at h1
            exact Or.inr ⟨⟨h1, h2⟩, by simp [am_f1, hj, hj2]⟩
      · rename_i hc
        rw [ri_upd_eq] at h1
        by_cases hj : j = i' + 1
        · subst hj
          rw [List.getElem?_set] at h1
          split at h1
          · split at h1
            · cases h1; exact Or.inl rfl
            · cases h1
          · omega
        · rw [List.getElem?_set_ne (Ne.symm hj)] at h1
          refine Or.inr ⟨⟨h1, h2⟩, ?_⟩
          by_cases hj2 : j = i'
          · subst hj2
            cases hw0.symm.trans h1
            rw [ri_c2_cat] at hc
            simp [am_f1, hc]
          · simp [am_f1, hj, hj2]
    · simp at h1
theorem ri_s2_sub {ls : List Value} {i : Nat} {v : Value} : ∀ q ∈ ri_lv (ri_s2 ls i v), q ∈ (i, v) :: (ri_lv ls).filter (am_f2 i) := by
  rintro ⟨j, w⟩ hq
  rw [ri_lv_mem] at hq
  obtain ⟨h1, h2⟩ := hq
  unfold ri_s2 at h1
  rw [ri_upd_eq] at h1
  by_cases hj : j = i + 1
  · subst hj
    rw [List.getElem?_set] at h1
    split at h1
    · split at h1
      · cases h1; exact absurd rfl h2
      · cases h1
    · omega
  · rw [List.getElem?_set_ne (Ne.symm hj)] at h1
    have h3 := ri_s1_sub (j, w) (ri_lv_mem.mpr ⟨h1, h2⟩)
    rw [List.mem_cons, List.mem_filter] at h3 ⊢
    rcases h3 with h3 | ⟨h3, h4⟩
    · exact Or.inl h3
    · refine Or.inr ⟨h3, ?_⟩
      simp [am_f1] at h4
      simp [am_f2, hj, h4]
theorem ri_p8_ok {G : am_G} {E : ri_Env} (hE : am_Env G E) {i : Nat} (h : ri_p8 E i = true) : i ≤ 900 ∧ am_px G i < 8 ∧ am_rho G i = nI (am_px G i) := by
  unfold ri_p8 at h
  rw [Bool.and_eq_true, Nat.ble_eq] at h
  obtain ⟨h1, h2⟩ := h
  split at h2
  · rename_i lo hi hiv
    rw [ri_nth_eq] at hiv
    rw [decide_eq_true_eq] at h2
    have h3 := hE _ _ _ hiv
    have h4 : am_px G i = (am_rho G i).toInt.toNat := rfl
    have h5 : am_px G i < 8 := by omega
    refine ⟨h1, h5, ?_⟩
    rw [← Int32.toInt_inj, nI_toInt (by omega)]
    omega
  · cases h2
theorem ri_isP_ok {G : am_G} {E : ri_Env} (hE : am_Env G E) {b : UInt32} (h : ri_isP E b = true) : am_cv G (.float b) = .ref (am_B G + (90 + 2 * am_px G (b.toNat - 2000))) ∧ am_px G (b.toNat - 2000) < 8 ∧ 2000 ≤ b.toNat ∧ b.toNat ≤ 2900 := by
  unfold ri_isP at h
  simp only [Bool.and_eq_true, Nat.ble_eq] at h
  exact ⟨am_cvP G h.1 h.2.1, (ri_p8_ok hE h.2.2).2.1, h.1, h.2.1⟩
theorem ri_isC_ok {G : am_G} {E : ri_Env} (hE : am_Env G E) {b : UInt32} (h : ri_isC E b = true) : am_cv G (.float b) = .ref (am_B G + (91 + 2 * am_px G (b.toNat - 3000))) ∧ am_px G (b.toNat - 3000) < 8 := by
  unfold ri_isC at h
  simp only [Bool.and_eq_true, Nat.ble_eq] at h
  exact ⟨am_cvC G h.1 h.2.1, (ri_p8_ok hE h.2.2).2.1⟩
theorem ri_pall_ok {L : ri_L} {x : Nat} (h : ri_pall L x = true) : 106 ≤ L.1 ∧ ∀ j, j < 8 → ri_get L.2.2 (90 + 2 * j) = some (.inr (2, [.ref (91 + 2 * j), .retAddr x])) := by
  unfold ri_pall at h
  rw [Bool.and_eq_true, Nat.ble_eq, List.all_eq_true] at h
  refine ⟨h.1, fun j hj => ?_⟩
  have h3 := h.2 j (List.mem_range.mpr hj)
  unfold ri_isPl at h3
  split at h3
  · rename_i ci fs he
    rw [Bool.and_eq_true, Nat.beq_eq, decide_eq_true_eq] at h3
    rw [he, h3.1, h3.2]
  · cases h3
theorem ri_pcell_ok {L : ri_L} {x : Nat} (h : ri_pcell L = some x) : ri_pall L x = true := by
  unfold ri_pcell at h
  split at h
  · split at h
    · rename_i hp
      cases h
      exact hp
    · cases h
  · cases h
theorem va_up_same {h : am_H} {k : Nat} {e : am_E} (he : h k = e) : va_up h k e = h := by
  funext j
  by_cases hj : j = k
  · subst hj; simp [va_up, he]
  · simp [va_up, hj]
section
variable {G : am_G} {d : Nat} {y : am_M} {mc ms : Nat} {post : am_T} {k n pc N : Nat} {lv lv' : List (Nat × Value)} {st : List Value} {h : am_H}
theorem am_aload_nG {v : Value} {x : Nat} {j : Fin 4} {i : Nat} (hc : am_cv G v = .ref x) (hd : decode y.2.1 pc = .ok (.aload_n j, 1)) (hi : (j : Nat) = i) (hv : (i, v) ∈ lv) (kk : am_A G d y mc ms post k n (pc + 1) lv (v :: st) N h) : am_A G d y mc ms post k n pc lv st N h := by
  intro p e s m args below meth c H locs ls X hW hlo hl
  have h1 := am_ld G hl hv
  have h2 := kk p e s m args below meth c H locs ls X hW hlo hl
  rw [List.map_cons, hc] at h2
  rw [hc] at h1
  exact lv_aload_n X.1 X.2.1 hd hi h1 h2
theorem am_astore_nG {v : Value} {x : Nat} {j : Fin 4} {i : Nat} (hc : am_cv G v = .ref x) (hd : decode y.2.1 pc = .ok (.astore_n j, 1)) (hi : (j : Nat) = i) (hn : i < y.2.2.1) (kk : am_A G d y mc ms post k n (pc + 1) ((i, v) :: lv.filter (am_f1 i)) st N h) : am_A G d y mc ms post k n pc lv (v :: st) N h := by
  intro p e s m args below meth c H locs ls X hW hlo hl
  have hf := am_flt1 G i v lv
  rw [hc] at hf
  rw [List.map_cons, hc]
  exact lv_astore_n X.1 X.2.1 hd hi hl hn hf (fun ls' hl' => kk p e s m args below meth c H locs ls' X hW hlo hl')
theorem am_aloadG {v : Value} {x : Nat} {i : Nat} (hc : am_cv G v = .ref x) (hd : decode y.2.1 pc = .ok (.aload i, 2)) (hv : (i, v) ∈ lv) (kk : am_A G d y mc ms post k n (pc + 2) lv (v :: st) N h) : am_A G d y mc ms post k n pc lv st N h := by
  intro p e s m args below meth c H locs ls X hW hlo hl
  have h1 := am_ld G hl hv
  have h2 := kk p e s m args below meth c H locs ls X hW hlo hl
  rw [List.map_cons, hc] at h2
  rw [hc] at h1
  exact lv_aload X.1 X.2.1 hd h1 h2
theorem am_astoreG {v : Value} {x : Nat} {i : Nat} (hc : am_cv G v = .ref x) (hd : decode y.2.1 pc = .ok (.astore i, 2)) (hn : i < y.2.2.1) (kk : am_A G d y mc ms post k n (pc + 2) ((i, v) :: lv.filter (am_f1 i)) st N h) : am_A G d y mc ms post k n pc lv (v :: st) N h := by
  intro p e s m args below meth c H locs ls X hW hlo hl
  have hf := am_flt1 G i v lv
  rw [hc] at hf
  rw [List.map_cons, hc]
  exact lv_astore X.1 X.2.1 hd hl hn hf (fun ls' hl' => kk p e s m args below meth c H locs ls' X hW hlo hl')
theorem am_iload_nG {v : Value} {j : Fin 4} {i : Nat} (hI : ri_isI v = true) (hd : decode y.2.1 pc = .ok (.iload_n j, 1)) (hi : (j : Nat) = i) (hv : (i, v) ∈ lv) (kk : am_A G d y mc ms post k n (pc + 1) lv (v :: st) N h) : am_A G d y mc ms post k n (pc) lv (st) N h := by
  intro p e s m args below meth c H locs ls X hW hlo hl
  have h1 := am_ld G hl hv
  have h2 := kk p e s m args below meth c H locs ls X hW hlo hl
  rw [List.map_cons, am_xi_cv G hI] at h2
  rw [am_xi_cv G hI] at h1
  exact lv_iload_n X.1 X.2.1 hd hi h1 h2
theorem am_istore_nG {v : Value} {j : Fin 4} {i : Nat} (hI : ri_isI v = true) (hd : decode y.2.1 pc = .ok (.istore_n j, 1)) (hi : (j : Nat) = i) (hn : i < y.2.2.1) (kk : am_A G d y mc ms post k n (pc + 1) ((i, v) :: lv.filter (am_f1 i)) (st) N h) : am_A G d y mc ms post k n (pc) lv (v :: st) N h := by
  intro p e s m args below meth c H locs ls X hW hlo hl
  have hf := am_flt1 G i v lv
  rw [am_xi_cv G hI] at hf
  rw [List.map_cons, am_xi_cv G hI]
  exact lv_istore_n X.1 X.2.1 hd hi hl hn hf (fun ls' hl' => kk p e s m args below meth c H locs ls' X hW hlo hl')
theorem am_iloadG {v : Value} {i : Nat} (hI : ri_isI v = true) (hd : decode y.2.1 pc = .ok (.iload i, 2)) (hv : (i, v) ∈ lv) (kk : am_A G d y mc ms post k n (pc + 2) lv (v :: st) N h) : am_A G d y mc ms post k n (pc) lv (st) N h := by
  intro p e s m args below meth c H locs ls X hW hlo hl
  have h1 := am_ld G hl hv
  have h2 := kk p e s m args below meth c H locs ls X hW hlo hl
  rw [List.map_cons, am_xi_cv G hI] at h2
  rw [am_xi_cv G hI] at h1
  exact lv_iload X.1 X.2.1 hd h1 h2
theorem am_istoreG {v : Value} {i : Nat} (hI : ri_isI v = true) (hd : decode y.2.1 pc = .ok (.istore i, 2)) (hn : i < y.2.2.1) (kk : am_A G d y mc ms post k n (pc + 2) ((i, v) :: lv.filter (am_f1 i)) (st) N h) : am_A G d y mc ms post k n (pc) lv (v :: st) N h := by
  intro p e s m args below meth c H locs ls X hW hlo hl
  have hf := am_flt1 G i v lv
  rw [am_xi_cv G hI] at hf
  rw [List.map_cons, am_xi_cv G hI]
  exact lv_istore X.1 X.2.1 hd hl hn hf (fun ls' hl' => kk p e s m args below meth c H locs ls' X hW hlo hl')
theorem am_lload_nG {v : Value} {j : Fin 4} {i : Nat} (hI : ri_isL v = true) (hd : decode y.2.1 pc = .ok (.lload_n j, 1)) (hi : (j : Nat) = i) (hv : (i, v) ∈ lv) (kk : am_A G d y mc ms post k n (pc + 1) lv (v :: st) N h) : am_A G d y mc ms post k n (pc) lv (st) N h := by
  intro p e s m args below meth c H locs ls X hW hlo hl
  have h1 := am_ld G hl hv
  have h2 := kk p e s m args below meth c H locs ls X hW hlo hl
  rw [List.map_cons, am_xl_cv G hI] at h2
  rw [am_xl_cv G hI] at h1
  exact lv_lload_n X.1 X.2.1 hd hi h1 h2
theorem am_lstore_nG {v : Value} {j : Fin 4} {i : Nat} (hI : ri_isL v = true) (hd : decode y.2.1 pc = .ok (.lstore_n j, 1)) (hi : (j : Nat) = i) (hn : i + 1 < y.2.2.1) (kk : am_A G d y mc ms post k n (pc + 1) ((i, v) :: lv.filter (am_f2 i)) (st) N h) : am_A G d y mc ms post k n (pc) lv (v :: st) N h := by
  intro p e s m args below meth c H locs ls X hW hlo hl
  have hf := am_flt2 G i v lv
  rw [am_xl_cv G hI] at hf
  rw [List.map_cons, am_xl_cv G hI]
  exact lv_lstore_n X.1 X.2.1 hd hi hl hn hf (fun ls' hl' => kk p e s m args below meth c H locs ls' X hW hlo hl')
theorem am_lloadG {v : Value} {i : Nat} (hI : ri_isL v = true) (hd : decode y.2.1 pc = .ok (.lload i, 2)) (hv : (i, v) ∈ lv) (kk : am_A G d y mc ms post k n (pc + 2) lv (v :: st) N h) : am_A G d y mc ms post k n (pc) lv (st) N h := by
  intro p e s m args below meth c H locs ls X hW hlo hl
  have h1 := am_ld G hl hv
  have h2 := kk p e s m args below meth c H locs ls X hW hlo hl
  rw [List.map_cons, am_xl_cv G hI] at h2
  rw [am_xl_cv G hI] at h1
  exact lv_lload X.1 X.2.1 hd h1 h2
theorem am_lstoreG {v : Value} {i : Nat} (hI : ri_isL v = true) (hd : decode y.2.1 pc = .ok (.lstore i, 2)) (hn : i + 1 < y.2.2.1) (kk : am_A G d y mc ms post k n (pc + 2) ((i, v) :: lv.filter (am_f2 i)) (st) N h) : am_A G d y mc ms post k n (pc) lv (v :: st) N h := by
  intro p e s m args below meth c H locs ls X hW hlo hl
  have hf := am_flt2 G i v lv
  rw [am_xl_cv G hI] at hf
  rw [List.map_cons, am_xl_cv G hI]
  exact lv_lstore X.1 X.2.1 hd hl hn hf (fun ls' hl' => kk p e s m args below meth c H locs ls' X hW hlo hl')
theorem am_iretV {v : Value} {x : Int32} {ty : FieldType} (hv : am_cv G v = .int x) (hd : decode y.2.1 pc = .ok (.ireturn, 1)) (hrt : y.2.2.2 = some ty) (hnr : narrow ty (.int x) = .int x) (hk : k ≤ mc) (hn : n ≤ ms) (hp : post (some v) N h) : am_A G d y mc ms post k n pc lv [v] N h := by
  intro p e s m args below meth c H locs ls X hW hlo hl
  have hx := X.1
  have hb := X.2.1
  refine W.widen hk hn ?_
  rw [List.map_cons, hv]
  exact W.zret hx hb (X.2.2.1.trans hrt) hnr (fun t ht _ => ⟨some v, N, h, by rw [Option.map_some, hv], hp, by rw [ht]; exact hW⟩) hlo hd X.2.2.2.2.2.2.1
end
end
end
section
noncomputable section
theorem am_inst {ci : Nat} {q : vw_C} (hc : am_cl[ci]? = some q) : Cond.instantiable q.1 q.2.2 ∈ am_tbl ∧ Cond.initialized q.1 ∈ am_tbl ∧ (am_df ci).length = q.2.2 := by
  match ci, hc with
  | 0, hc => cases hc; exact ⟨by decide +kernel, by decide +kernel, rfl⟩
  | 1, hc => cases hc; exact ⟨by decide +kernel, by decide +kernel, rfl⟩
  | 2, hc => cases hc; exact ⟨by decide +kernel, by decide +kernel, rfl⟩
  | 3, hc => cases hc; exact ⟨by decide +kernel, by decide +kernel, rfl⟩
  | 4, hc => cases hc; exact ⟨by decide +kernel, by decide +kernel, rfl⟩
  | 5, hc => cases hc; exact ⟨by decide +kernel, by decide +kernel, rfl⟩
  | 6, hc => cases hc; exact ⟨by decide +kernel, by decide +kernel, rfl⟩
  | 7, hc => cases hc; exact ⟨by decide +kernel, by decide +kernel, rfl⟩
  | 8, hc => cases hc; exact ⟨by decide +kernel, by decide +kernel, rfl⟩
  | 9, hc => cases hc; exact ⟨by decide +kernel, by decide +kernel, rfl⟩
  | ci + 10, hc => simp at hc
theorem am_arrI : Cond.arrayClass .int ∈ am_tbl := by decide +kernel
theorem am_arrL : Cond.arrayClass .long ∈ am_tbl := by decide +kernel
theorem ri_rep_i (n : Nat) : (fun j => nI ((List.replicate n 0).getD j 0)) = fun _ => 0 := by
  funext j
  by_cases h : j < n <;> simp [List.getD, List.getElem?_replicate, h] <;> rfl
theorem ri_rep_l (n : Nat) : (fun j => (List.replicate n (0 : Int64)).getD j 0) = fun _ => 0 := by
  funext j
  by_cases h : j < n <;> simp [List.getD, List.getElem?_replicate, h]
theorem ri_rep_q (n : Nat) : (fun j => (List.replicate n (none : Option Nat)).getD j none) = fun _ => none := by
  funext j
  by_cases h : j < n <;> simp [List.getD, List.getElem?_replicate, h]
def ri_nx (pcs : List Nat) (i : Nat) (jt : Option Nat) (pc' : Nat) : Prop := match jt with
  | none => pcs[i + 1]? = some pc'
  | some t => pcs[t]? = some pc'
def ri_Ok (E : ri_Env) (y : am_M) (pcs : List Nat) (i pc : Nat) (lv : List Value) (st : List Value) (L : ri_L) (jt : Option Nat) (lv' : List Value) (st' : List Value) (L' : ri_L) : Prop :=
  L.1 ≤ L'.1 ∧ L.2.1 ≤ L'.2.1 ∧ ∀ (G : am_G), am_Env G E → ∀ (d mc ms : Nat) (post : am_T) (k n pc' : Nat), ri_nx pcs i jt pc' → 1 ≤ d → k + (L'.1 - L.1) ≤ mc → n + (L'.2.1 - L.2.1) ≤ ms →
    am_A G d y mc ms post (k + (L'.1 - L.1)) (n + (L'.2.1 - L.2.1)) pc' (ri_lv lv') st' L'.1 (ri_h L') → am_A G d y mc ms post k n pc (ri_lv lv) st L.1 (ri_h L)
theorem ri_simple {E : ri_Env} {y : am_M} {pcs : List Nat} {i pc pc2 : Nat} {lv lv' : List Value} {st st' : List Value} {L : ri_L} {jt : Option Nat} (hnx : ri_nx pcs i jt pc2) (kk : ∀ (G : am_G), am_Env G E → ∀ (d mc ms : Nat) (post : am_T) (k n : Nat), 1 ≤ d → k ≤ mc → n ≤ ms → am_A G d y mc ms post k n pc2 (ri_lv lv') st' L.1 (ri_h L) → am_A G d y mc ms post k n pc (ri_lv lv) st L.1 (ri_h L)) : ri_Ok E y pcs i pc lv st L jt lv' st' L := by
  refine ⟨Nat.le_refl _, Nat.le_refl _, fun G hE d mc ms post k n pc' h1 h2 h3 h4 h5 => ?_⟩
  have e : pc' = pc2 := by
    cases jt with
    | none => exact Option.some.inj (h1.symm.trans hnx)
    | some t => exact Option.some.inj (h1.symm.trans hnx)
  subst e
  simp only [Nat.sub_self, Nat.add_zero] at h5
  exact kk G hE d mc ms post k n h2 (by omega) (by omega) h5
theorem ri_wr {E : ri_Env} {y : am_M} {pcs : List Nat} {i pc pc2 a : Nat} {lv lv' : List Value} {st st' : List Value} {L : ri_L} {e0 e : ri_E} (h0 : ri_get L.2.2 a = some e0) (hnx : ri_nx pcs i none pc2) (kk : ∀ (G : am_G) (d mc ms : Nat) (post : am_T) (k n : Nat), 1 ≤ d → am_A G d y mc ms post k n pc2 (ri_lv lv') st' L.1 (va_up (ri_h L) a (ri_e e)) → am_A G d y mc ms post k n pc (ri_lv lv) st L.1 (ri_h L)) : ri_Ok E y pcs i pc lv st L none lv' st' (L.1, L.2.1, ri_put L.2.2 a e) := by
  refine ⟨Nat.le_refl _, Nat.le_refl _, fun G hE d mc ms post k n pc' h1 h2 _ _ h5 => ?_⟩
  have e3 : pc' = pc2 := Option.some.inj (h1.symm.trans hnx)
  subst e3
  rw [ri_h_put e h0 L.1 L.2.1 L.1 L.2.1] at h5
  simp only [Nat.sub_self, Nat.add_zero] at h5
  exact kk G d mc ms post k n h2 h5
theorem ri_psh {E : ri_Env} {y : am_M} {pcs : List Nat} {i pc pc2 z : Nat} {lv lv' : List Value} {st st' : List Value} {L : ri_L} {e : ri_E} (h0 : (ri_get L.2.2 L.1).isSome = true) (hnx : ri_nx pcs i none pc2) (kk : ∀ (G : am_G) (d mc ms : Nat) (post : am_T) (k n : Nat), 1 ≤ d → k + 1 ≤ mc → n + z ≤ ms → am_A G d y mc ms post (k + 1) (n + z) pc2 (ri_lv lv') st' (L.1 + 1) (va_up (ri_h L) L.1 (ri_e e)) → am_A G d y mc ms post k n pc (ri_lv lv) st L.1 (ri_h L)) : ri_Ok E y pcs i pc lv st L none lv' st' (L.1 + 1, L.2.1 + z, ri_put L.2.2 L.1 e) := by
  rw [Option.isSome_iff_exists] at h0
  obtain ⟨e0, h0⟩ := h0
  refine ⟨Nat.le_succ _, Nat.le_add_right _ _, fun G hE d mc ms post k n pc' h1 h2 h3 h4 h5 => ?_⟩
  have e3 : pc' = pc2 := Option.some.inj (h1.symm.trans hnx)
  subst e3
  rw [ri_h_put e h0 (L.1 + 1) (L.2.1 + z) L.1 L.2.1] at h5
  dsimp only at h3 h4 h5
  rw [Nat.add_sub_cancel_left, Nat.add_sub_cancel_left] at h5
  rw [Nat.add_sub_cancel_left] at h3 h4
  exact kk G d mc ms post k n h2 h3 h4 h5
theorem ri_df_ce (G : am_G) (ci : Nat) : (ri_df ci).map (am_cv G) = (am_df ci).map (am_cv G) := by
  unfold ri_df
  rw [List.map_map]
  apply List.map_congr_left
  intro v hv
  have h : v = .int 0 ∨ v = .null := by
    unfold am_df at hv
    split at hv <;> simp at hv <;> (try (rcases hv with hv | hv | hv | hv | hv | hv | hv | hv | hv | hv | hv | hv | hv | hv | hv | hv | hv | hv | hv | hv | hv | hv | hv | hv | hv | hv | hv | hv)) <;> (try (first | exact Or.inl hv | exact Or.inr hv)) <;> (try (rcases hv with rfl | rfl <;> simp)) <;> (try omega) <;> (try (simp_all))
  rcases h with rfl | rfl
  · rfl
  · rfl
theorem ri_df_len (ci : Nat) : (ri_df ci).length = (am_df ci).length := by simp [ri_df]
theorem ri_in2 {i n : Nat} (h : i < n) (hi : i < 2 ^ 31) : vp_in (nI i) n := fun q => q.elim (nI_pos hi) (fun q => by rw [nI_clamp hi] at q; omega)
def ri_stf (ins : Instr) : ri_Env → ri_row → List Value → List Value → ri_L → ri_N := match ins with
  | .iconst _ => st_iconst
  | .bipush _ => st_iconst
  | .sipush _ => st_iconst
  | .ldc_w _ => st_iconst
  | .lconst _ => st_lconst
  | .ldc2_w _ => st_lconst
  | .iload_n _ => st_iload
  | .iload _ => st_iload
  | .istore_n _ => st_istore
  | .istore _ => st_istore
  | .lload_n _ => st_lload
  | .lload _ => st_lload
  | .lstore_n _ => st_lstore
  | .lstore _ => st_lstore
  | .aload_n _ => st_aload
  | .aload _ => st_aload
  | .astore_n _ => st_astore
  | .astore _ => st_astore
  | .iinc .. => st_iinc
  | .goto _ => st_goto
  | .getfield _ => st_getfield
  | .putfield _ => st_putfield
  | .getstatic _ => st_getstatic
  | .new _ => st_new
  | .newarray .int => st_newi
  | .newarray .long => st_newl
  | .anewarray _ => st_newq
  | .tableswitch .. => st_table
  | .iadd => st_iadd
  | .iaload => st_iaload
  | .isub => st_isub
  | .imul => st_imul
  | .aaload => st_aaload
  | .iastore => st_iastore
  | .dup => st_dup
  | .i2l => st_i2l
  | .ineg => st_ineg
  | .iand => st_iand
  | .irem => st_irem
  | .ishr => st_ishr
  | .idiv => st_idiv
  | .arraylength => st_arraylength
  | .lcmp => st_lcmp
  | .ladd => st_ladd
  | .lmul => st_lmul
  | .ixor => st_ixor
  | .ishl => st_ishl
  | .iushr => st_iushr
  | .aastore => st_aastore
  | .laload => st_laload
  | .lastore => st_lastore
  | .dup2 => st_dup2
  | .if_icmp .eq _ => st_icmp_eq
  | .if_icmp .ne _ => st_icmp_ne
  | .if_icmp .lt _ => st_icmp_lt
  | .if_icmp .ge _ => st_icmp_ge
  | .if_icmp .gt _ => st_icmp_gt
  | .if_icmp .le _ => st_icmp_le
  | .ifCond .eq _ => st_if_eq
  | .ifCond .ne _ => st_if_ne
  | .ifCond .lt _ => st_if_lt
  | .ifCond .ge _ => st_if_ge
  | .ifCond .gt _ => st_if_gt
  | .ifCond .le _ => st_if_le
  | _ => fun _ _ _ _ _ => none
set_option maxHeartbeats 8000000 in
theorem ri_stp_ok {E : ri_Env} {y : am_M} {pcs : List Nat} {i : Nat} {r : ri_row} {lv lv' : List Value} {st st' : List Value} {L L' : ri_L} {jt : Option Nat} (hr : ri_rok y pcs i r = true) (h : ri_stf (ri_ins r) E r lv st L = some (jt, lv', st', L')) : ri_Ok E y pcs i (ri_pc r) lv st L jt lv' st' L' := by
  obtain ⟨op, a, b, nn, ts, pc, ins, len, pl⟩ := r
  unfold ri_rok at hr
  simp only [Bool.and_eq_true, decide_eq_true_eq, Bool.or_eq_true, beq_iff_eq] at hr
  obtain ⟨hd, -, hnx, hln, -, hr1⟩ := hr
  dsimp only [ri_pc, ri_ins, ri_len, ri_pl] at *
  cases ins <;> (try (cases h; done))
  case iconst z =>
    replace hnx := hnx.resolve_left (by simp [ri_end])
    replace hln := hln.resolve_left (by simp [ri_sw])
    simp only [ri_ln] at hln
    subst hln
    simp only [ri_rok1, decide_eq_true_eq] at hr1
    simp only [ri_stf, st_iconst] at h
    simp only [Option.some.injEq, Prod.mk.injEq] at h
    obtain ⟨rfl, rfl, rfl, rfl⟩ := h
    exact ri_simple hnx (fun G hE d mc ms post k n hd1 hk9 hn9 kk => am_iconst hd hr1 (am_stc rfl kk))
  case bipush z =>
    replace hnx := hnx.resolve_left (by simp [ri_end])
    replace hln := hln.resolve_left (by simp [ri_sw])
    simp only [ri_ln] at hln
    subst hln
    simp only [ri_rok1, decide_eq_true_eq] at hr1
    simp only [ri_stf, st_iconst] at h
    simp only [Option.some.injEq, Prod.mk.injEq] at h
    obtain ⟨rfl, rfl, rfl, rfl⟩ := h
    exact ri_simple hnx (fun G hE d mc ms post k n hd1 hk9 hn9 kk => am_bipush hd hr1 (am_stc rfl kk))
  case sipush z =>
    replace hnx := hnx.resolve_left (by simp [ri_end])
    replace hln := hln.resolve_left (by simp [ri_sw])
    simp only [ri_ln] at hln
    subst hln
    simp only [ri_rok1, decide_eq_true_eq] at hr1
    simp only [ri_stf, st_iconst] at h
    simp only [Option.some.injEq, Prod.mk.injEq] at h
    obtain ⟨rfl, rfl, rfl, rfl⟩ := h
    exact ri_simple hnx (fun G hE d mc ms post k n hd1 hk9 hn9 kk => am_sipush hd hr1 (am_stc rfl kk))
  case ldc_w z =>
    replace hnx := hnx.resolve_left (by simp [ri_end])
    replace hln := hln.resolve_left (by simp [ri_sw])
    simp only [ri_ln] at hln
    subst hln
    simp only [ri_stf, st_iconst] at h
    simp only [Option.some.injEq, Prod.mk.injEq] at h
    obtain ⟨rfl, rfl, rfl, rfl⟩ := h
    exact ri_simple hnx (fun G hE d mc ms post k n hd1 hk9 hn9 kk => am_ldcw hd (ri_lw_in hr1) (am_stc rfl kk))
  case lconst z =>
    replace hnx := hnx.resolve_left (by simp [ri_end])
    replace hln := hln.resolve_left (by simp [ri_sw])
    simp only [ri_ln] at hln
    subst hln
    simp only [ri_rok1, decide_eq_true_eq] at hr1
    simp only [ri_stf, st_lconst] at h
    rw [ri_fl_eq] at h
    simp only [Option.some.injEq, Prod.mk.injEq] at h
    obtain ⟨rfl, rfl, rfl, rfl⟩ := h
    exact ri_simple hnx (fun G hE d mc ms post k n hd1 hk9 hn9 kk => am_lconst hd hr1 kk)
  case ldc2_w z =>
    replace hnx := hnx.resolve_left (by simp [ri_end])
    replace hln := hln.resolve_left (by simp [ri_sw])
    simp only [ri_ln] at hln
    subst hln
    simp only [ri_stf, st_lconst] at h
    rw [ri_fl_eq] at h
    simp only [Option.some.injEq, Prod.mk.injEq] at h
    obtain ⟨rfl, rfl, rfl, rfl⟩ := h
    exact ri_simple hnx (fun G hE d mc ms post k n hd1 hk9 hn9 kk => am_ldc2 hd (ri_lw_in hr1) kk)
  case iload_n z =>
    replace hnx := hnx.resolve_left (by simp [ri_end])
    replace hln := hln.resolve_left (by simp [ri_sw])
    simp only [ri_ln] at hln
    subst hln
    simp only [ri_rok1, decide_eq_true_eq] at hr1
    subst hr1
    simp only [ri_stf, st_iload] at h
    split at h
    · rename_i w hx
      split at h
      · rename_i hI
        simp only [Option.some.injEq, Prod.mk.injEq] at h
        obtain ⟨rfl, rfl, rfl, rfl⟩ := h
        rw [ri_nth_eq] at hx
        exact ri_simple hnx (fun G hE d mc ms post k n hd1 hk9 hn9 kk => am_iload_nG hI hd rfl (ri_lv_mem.mpr ⟨hx, fun e => by subst e; cases hI⟩) kk)
      · cases h
    · cases h
  case istore_n z =>
    replace hnx := hnx.resolve_left (by simp [ri_end])
    replace hln := hln.resolve_left (by simp [ri_sw])
    simp only [ri_ln] at hln
    subst hln
    simp only [ri_rok1, decide_eq_true_eq] at hr1
    obtain ⟨hz, hr1⟩ := hr1
    subst hz
    simp only [ri_stf, st_istore] at h
    split at h
    · split at h
      · rename_i hI
        simp only [Option.some.injEq, Prod.mk.injEq] at h
        obtain ⟨rfl, rfl, rfl, rfl⟩ := h
        exact ri_simple hnx (fun G hE d mc ms post k n hd1 hk9 hn9 kk => am_istore_nG hI hd rfl hr1 (am_lvs ri_s1_sub kk))
      · cases h
    · cases h
  case iload z =>
    replace hnx := hnx.resolve_left (by simp [ri_end])
    replace hln := hln.resolve_left (by simp [ri_sw])
    simp only [ri_ln] at hln
    subst hln
    simp only [ri_rok1, decide_eq_true_eq] at hr1
    subst hr1
    simp only [ri_stf, st_iload] at h
    split at h
    · rename_i w hx
      split at h
      · rename_i hI
        simp only [Option.some.injEq, Prod.mk.injEq] at h
        obtain ⟨rfl, rfl, rfl, rfl⟩ := h
        rw [ri_nth_eq] at hx
        exact ri_simple hnx (fun G hE d mc ms post k n hd1 hk9 hn9 kk => am_iloadG hI hd (ri_lv_mem.mpr ⟨hx, fun e => by subst e; cases hI⟩) kk)
      · cases h
    · cases h
  case istore z =>
    replace hnx := hnx.resolve_left (by simp [ri_end])
    replace hln := hln.resolve_left (by simp [ri_sw])
    simp only [ri_ln] at hln
    subst hln
    simp only [ri_rok1, decide_eq_true_eq] at hr1
    obtain ⟨hz, hr1⟩ := hr1
    subst hz
    simp only [ri_stf, st_istore] at h
    split at h
    · split at h
      · rename_i hI
        simp only [Option.some.injEq, Prod.mk.injEq] at h
        obtain ⟨rfl, rfl, rfl, rfl⟩ := h
        exact ri_simple hnx (fun G hE d mc ms post k n hd1 hk9 hn9 kk => am_istoreG hI hd hr1 (am_lvs ri_s1_sub kk))
      · cases h
    · cases h
  case lload_n z =>
    replace hnx := hnx.resolve_left (by simp [ri_end])
    replace hln := hln.resolve_left (by simp [ri_sw])
    simp only [ri_ln] at hln
    subst hln
    simp only [ri_rok1, decide_eq_true_eq] at hr1
    subst hr1
    simp only [ri_stf, st_lload] at h
    split at h
    · rename_i w hx
      split at h
      · rename_i hI
        simp only [Option.some.injEq, Prod.mk.injEq] at h
        obtain ⟨rfl, rfl, rfl, rfl⟩ := h
        rw [ri_nth_eq] at hx
        exact ri_simple hnx (fun G hE d mc ms post k n hd1 hk9 hn9 kk => am_lload_nG hI hd rfl (ri_lv_mem.mpr ⟨hx, fun e => by subst e; cases hI⟩) kk)
      · cases h
    · cases h
  case lstore_n z =>
    replace hnx := hnx.resolve_left (by simp [ri_end])
    replace hln := hln.resolve_left (by simp [ri_sw])
    simp only [ri_ln] at hln
    subst hln
    simp only [ri_rok1, decide_eq_true_eq] at hr1
    obtain ⟨hz, hr1⟩ := hr1
    subst hz
    simp only [ri_stf, st_lstore] at h
    split at h
    · split at h
      · rename_i hI
        simp only [Option.some.injEq, Prod.mk.injEq] at h
        obtain ⟨rfl, rfl, rfl, rfl⟩ := h
        exact ri_simple hnx (fun G hE d mc ms post k n hd1 hk9 hn9 kk => am_lstore_nG hI hd rfl hr1 (am_lvs ri_s2_sub kk))
      · cases h
    · cases h
  case lload z =>
    replace hnx := hnx.resolve_left (by simp [ri_end])
    replace hln := hln.resolve_left (by simp [ri_sw])
    simp only [ri_ln] at hln
    subst hln
    simp only [ri_rok1, decide_eq_true_eq] at hr1
    subst hr1
    simp only [ri_stf, st_lload] at h
    split at h
    · rename_i w hx
      split at h
      · rename_i hI
        simp only [Option.some.injEq, Prod.mk.injEq] at h
        obtain ⟨rfl, rfl, rfl, rfl⟩ := h
        rw [ri_nth_eq] at hx
        exact ri_simple hnx (fun G hE d mc ms post k n hd1 hk9 hn9 kk => am_lloadG hI hd (ri_lv_mem.mpr ⟨hx, fun e => by subst e; cases hI⟩) kk)
      · cases h
    · cases h
  case lstore z =>
    replace hnx := hnx.resolve_left (by simp [ri_end])
    replace hln := hln.resolve_left (by simp [ri_sw])
    simp only [ri_ln] at hln
    subst hln
    simp only [ri_rok1, decide_eq_true_eq] at hr1
    obtain ⟨hz, hr1⟩ := hr1
    subst hz
    simp only [ri_stf, st_lstore] at h
    split at h
    · split at h
      · rename_i hI
        simp only [Option.some.injEq, Prod.mk.injEq] at h
        obtain ⟨rfl, rfl, rfl, rfl⟩ := h
        exact ri_simple hnx (fun G hE d mc ms post k n hd1 hk9 hn9 kk => am_lstoreG hI hd hr1 (am_lvs ri_s2_sub kk))
      · cases h
    · cases h
  case aload_n z =>
    replace hnx := hnx.resolve_left (by simp [ri_end])
    replace hln := hln.resolve_left (by simp [ri_sw])
    simp only [ri_ln] at hln
    subst hln
    simp only [ri_rok1, decide_eq_true_eq] at hr1
    subst hr1
    simp only [ri_stf, st_aload] at h
    split at h
    · rename_i x hx
      simp only [Option.some.injEq, Prod.mk.injEq] at h
      obtain ⟨rfl, rfl, rfl, rfl⟩ := h
      rw [ri_nth_eq] at hx
      exact ri_simple hnx (fun G hE d mc ms post k n hd1 hk9 hn9 kk => am_aload_n hd rfl (ri_lv_mem.mpr ⟨hx, by simp⟩) kk)
    · rename_i b hx
      split at h
      · rename_i hb
        rw [Bool.and_eq_true, Nat.ble_eq, Nat.ble_eq] at hb
        simp only [Option.some.injEq, Prod.mk.injEq] at h
        obtain ⟨rfl, rfl, rfl, rfl⟩ := h
        rw [ri_nth_eq] at hx
        refine ri_simple hnx (fun G hE d mc ms post k n hd1 hk9 hn9 kk => ?_)
        obtain ⟨x, hx2⟩ := am_cvR G hb.1 hb.2
        exact am_aload_nG hx2 hd rfl (ri_lv_mem.mpr ⟨hx, by simp⟩) kk
      · cases h
    · cases h
  case astore_n z =>
    replace hnx := hnx.resolve_left (by simp [ri_end])
    replace hln := hln.resolve_left (by simp [ri_sw])
    simp only [ri_ln] at hln
    subst hln
    simp only [ri_rok1, decide_eq_true_eq] at hr1
    obtain ⟨hz, hr1⟩ := hr1
    subst hz
    simp only [ri_stf, st_astore] at h
    split at h
    · simp only [Option.some.injEq, Prod.mk.injEq] at h
      obtain ⟨rfl, rfl, rfl, rfl⟩ := h
      exact ri_simple hnx (fun G hE d mc ms post k n hd1 hk9 hn9 kk => am_astore_n hd rfl hr1 rfl (am_lvs ri_s1_sub kk))
    · split at h
      · rename_i hb
        rw [Bool.and_eq_true, Nat.ble_eq, Nat.ble_eq] at hb
        simp only [Option.some.injEq, Prod.mk.injEq] at h
        obtain ⟨rfl, rfl, rfl, rfl⟩ := h
        refine ri_simple hnx (fun G hE d mc ms post k n hd1 hk9 hn9 kk => ?_)
        obtain ⟨x, hx2⟩ := am_cvR G hb.1 hb.2
        exact am_astore_nG hx2 hd rfl hr1 (am_lvs ri_s1_sub kk)
      · cases h
    · cases h
  case aload z =>
    replace hnx := hnx.resolve_left (by simp [ri_end])
    replace hln := hln.resolve_left (by simp [ri_sw])
    simp only [ri_ln] at hln
    subst hln
    simp only [ri_rok1, decide_eq_true_eq] at hr1
    subst hr1
    simp only [ri_stf, st_aload] at h
    split at h
    · rename_i x hx
      simp only [Option.some.injEq, Prod.mk.injEq] at h
      obtain ⟨rfl, rfl, rfl, rfl⟩ := h
      rw [ri_nth_eq] at hx
      exact ri_simple hnx (fun G hE d mc ms post k n hd1 hk9 hn9 kk => am_aload hd (ri_lv_mem.mpr ⟨hx, by simp⟩) kk)
    · rename_i b hx
      split at h
      · rename_i hb
        rw [Bool.and_eq_true, Nat.ble_eq, Nat.ble_eq] at hb
        simp only [Option.some.injEq, Prod.mk.injEq] at h
        obtain ⟨rfl, rfl, rfl, rfl⟩ := h
        rw [ri_nth_eq] at hx
        refine ri_simple hnx (fun G hE d mc ms post k n hd1 hk9 hn9 kk => ?_)
        obtain ⟨x, hx2⟩ := am_cvR G hb.1 hb.2
        exact am_aloadG hx2 hd (ri_lv_mem.mpr ⟨hx, by simp⟩) kk
      · cases h
    · cases h
  case astore z =>
    replace hnx := hnx.resolve_left (by simp [ri_end])
    replace hln := hln.resolve_left (by simp [ri_sw])
    simp only [ri_ln] at hln
    subst hln
    simp only [ri_rok1, decide_eq_true_eq] at hr1
    obtain ⟨hz, hr1⟩ := hr1
    subst hz
    simp only [ri_stf, st_astore] at h
    split at h
    · simp only [Option.some.injEq, Prod.mk.injEq] at h
      obtain ⟨rfl, rfl, rfl, rfl⟩ := h
      exact ri_simple hnx (fun G hE d mc ms post k n hd1 hk9 hn9 kk => am_astore hd hr1 rfl (am_lvs ri_s1_sub kk))
    · split at h
      · rename_i hb
        rw [Bool.and_eq_true, Nat.ble_eq, Nat.ble_eq] at hb
        simp only [Option.some.injEq, Prod.mk.injEq] at h
        obtain ⟨rfl, rfl, rfl, rfl⟩ := h
        refine ri_simple hnx (fun G hE d mc ms post k n hd1 hk9 hn9 kk => ?_)
        obtain ⟨x, hx2⟩ := am_cvR G hb.1 hb.2
        exact am_astoreG hx2 hd hr1 (am_lvs ri_s1_sub kk)
      · cases h
    · cases h
  case iinc z w =>
    replace hnx := hnx.resolve_left (by simp [ri_end])
    replace hln := hln.resolve_left (by simp [ri_sw])
    simp only [ri_ln] at hln
    subst hln
    simp only [ri_rok1, decide_eq_true_eq] at hr1
    obtain ⟨hz, hr1, hw⟩ := hr1
    subst hz
    simp only [ri_stf, st_iinc] at h
    split at h
    · rename_i x hx
      rw [ri_fn_eq] at h
      simp only [Option.some.injEq, Prod.mk.injEq] at h
      obtain ⟨rfl, rfl, rfl, rfl⟩ := h
      rw [ri_nth_eq] at hx
      refine ri_simple hnx (fun G hE d mc ms post k n hd1 hk9 hn9 kk => ?_)
      intro p e s m args below meth c H locs ls X hW hlo hl
      obtain ⟨j, hj⟩ := List.getElem?_of_mem (ri_lv_mem.mpr ⟨hx, by simp⟩ : (z, Value.retAddr x) ∈ ri_lv lv)
      have hf := am_flt1 G z (.retAddr ((x + nn) % 4294967296)) (ri_lv lv)
      exact lv_iinc (k := j) (x := nI x) (v := nI ((x + nn) % 4294967296)) X.1 X.2.1 hd hl (by simp [am_lv, hj, am_cv]) (by rw [hw, nI_mod, nI_add]) hr1 hf (fun ls' hl' => am_lvs ri_s1_sub kk p e s m args below meth c H locs ls' X hW hlo hl')
    · cases h
  case iadd  =>
    replace hnx := hnx.resolve_left (by simp [ri_end])
    replace hln := hln.resolve_left (by simp [ri_sw])
    simp only [ri_ln] at hln
    subst hln
    simp only [ri_stf, st_iadd] at h
    split at h
    · rename_i z x st0
      rw [ri_fn_eq] at h
      simp only [Option.some.injEq, Prod.mk.injEq] at h
      obtain ⟨rfl, rfl, rfl, rfl⟩ := h
      exact ri_simple hnx (fun G hE d mc ms post k n hd1 hk9 hn9 kk => am_stc (st2 := .int (nI z) :: .int (nI x) :: st0) rfl (am_iadd hd (am_stc (by rw [List.map_cons, List.map_cons]; exact congrArg (fun v => v :: _) (congrArg Value.int (by rw [nI_mod, nI_add]))) kk)))
    · cases h
  case isub  =>
    replace hnx := hnx.resolve_left (by simp [ri_end])
    replace hln := hln.resolve_left (by simp [ri_sw])
    simp only [ri_ln] at hln
    subst hln
    simp only [ri_stf, st_isub] at h
    split at h
    · rename_i z x st0
      rw [ri_fn_eq] at h
      simp only [Option.some.injEq, Prod.mk.injEq] at h
      obtain ⟨rfl, rfl, rfl, rfl⟩ := h
      exact ri_simple hnx (fun G hE d mc ms post k n hd1 hk9 hn9 kk => am_stc (st2 := .int (nI z) :: .int (nI x) :: st0) rfl (am_isub hd (am_stc (by rw [List.map_cons, List.map_cons]; exact congrArg (fun v => v :: _) (congrArg Value.int (nI_sub x z))) kk)))
    · cases h
  case imul  =>
    replace hnx := hnx.resolve_left (by simp [ri_end])
    replace hln := hln.resolve_left (by simp [ri_sw])
    simp only [ri_ln] at hln
    subst hln
    simp only [ri_stf, st_imul] at h
    split at h
    · rename_i z x st0
      rw [ri_fn_eq] at h
      simp only [Option.some.injEq, Prod.mk.injEq] at h
      obtain ⟨rfl, rfl, rfl, rfl⟩ := h
      exact ri_simple hnx (fun G hE d mc ms post k n hd1 hk9 hn9 kk => am_stc (st2 := .int (nI z) :: .int (nI x) :: st0) rfl (am_imul hd (am_stc (by rw [List.map_cons, List.map_cons]; exact congrArg (fun v => v :: _) (congrArg Value.int (by rw [nI_mod, pk_mul]))) kk)))
    · cases h
  case iand  =>
    replace hnx := hnx.resolve_left (by simp [ri_end])
    replace hln := hln.resolve_left (by simp [ri_sw])
    simp only [ri_ln] at hln
    subst hln
    simp only [ri_stf, st_iand] at h
    split at h
    · rename_i z x st0
      rw [ri_fn_eq] at h
      simp only [Option.some.injEq, Prod.mk.injEq] at h
      obtain ⟨rfl, rfl, rfl, rfl⟩ := h
      exact ri_simple hnx (fun G hE d mc ms post k n hd1 hk9 hn9 kk => am_stc (st2 := .int (nI z) :: .int (nI x) :: st0) rfl (am_iand hd (am_stc (by rw [List.map_cons, List.map_cons]; exact congrArg (fun v => v :: _) (congrArg Value.int (nI_and x z))) kk)))
    · cases h
  case ixor  =>
    replace hnx := hnx.resolve_left (by simp [ri_end])
    replace hln := hln.resolve_left (by simp [ri_sw])
    simp only [ri_ln] at hln
    subst hln
    simp only [ri_stf, st_ixor] at h
    split at h
    · rename_i z x st0
      rw [ri_fn_eq] at h
      simp only [Option.some.injEq, Prod.mk.injEq] at h
      obtain ⟨rfl, rfl, rfl, rfl⟩ := h
      exact ri_simple hnx (fun G hE d mc ms post k n hd1 hk9 hn9 kk => am_stc (st2 := .int (nI z) :: .int (nI x) :: st0) rfl (am_ixor hd (am_stc (by rw [List.map_cons, List.map_cons]; exact congrArg (fun v => v :: _) (congrArg Value.int (nI_xor x z))) kk)))
    · cases h
  case ishl  =>
    replace hnx := hnx.resolve_left (by simp [ri_end])
    replace hln := hln.resolve_left (by simp [ri_sw])
    simp only [ri_ln] at hln
    subst hln
    simp only [ri_stf, st_ishl] at h
    split at h
    · rename_i z x st0
      split at h
      · rename_i hc
        simp only [Bool.and_eq_true, Nat.blt, Nat.ble_eq] at hc
        rw [ri_fn_eq] at h
        simp only [Option.some.injEq, Prod.mk.injEq] at h
        obtain ⟨rfl, rfl, rfl, rfl⟩ := h
        exact ri_simple hnx (fun G hE d mc ms post k n hd1 hk9 hn9 kk => am_stc (st2 := .int (nI z) :: .int (nI x) :: st0) rfl (am_ishl hd (am_stc (by rw [List.map_cons, List.map_cons]; exact congrArg (fun v => v :: _) (congrArg Value.int (pk_shlN _ z (ri_sl z hc.1) hc.2))) kk)))
      · cases h
    · cases h
  case iushr  =>
    replace hnx := hnx.resolve_left (by simp [ri_end])
    replace hln := hln.resolve_left (by simp [ri_sw])
    simp only [ri_ln] at hln
    subst hln
    simp only [ri_stf, st_iushr] at h
    split at h
    · rename_i z x st0
      split at h
      · rename_i hc
        simp only [Bool.and_eq_true, Nat.blt, Nat.ble_eq] at hc
        rw [ri_fn_eq] at h
        simp only [Option.some.injEq, Prod.mk.injEq] at h
        obtain ⟨rfl, rfl, rfl, rfl⟩ := h
        exact ri_simple hnx (fun G hE d mc ms post k n hd1 hk9 hn9 kk => am_stc (st2 := .int (nI z) :: .int (nI x) :: st0) rfl (am_iushr hd (am_stc (by rw [List.map_cons, List.map_cons]; exact congrArg (fun v => v :: _) (congrArg Value.int (pk_ushrN hc.2 (nI z) z (ri_su z hc.1)))) kk)))
      · cases h
    · cases h
  case idiv  =>
    replace hnx := hnx.resolve_left (by simp [ri_end])
    replace hln := hln.resolve_left (by simp [ri_sw])
    simp only [ri_ln] at hln
    subst hln
    simp only [ri_stf, st_idiv] at h
    split at h
    · rename_i z x st0
      split at h
      · rename_i hc
        simp only [Bool.and_eq_true, Nat.blt, Nat.ble_eq] at hc
        rw [ri_fn_eq] at h
        simp only [Option.some.injEq, Prod.mk.injEq] at h
        obtain ⟨rfl, rfl, rfl, rfl⟩ := h
        exact ri_simple hnx (fun G hE d mc ms post k n hd1 hk9 hn9 kk => am_stc (st2 := .int (nI z) :: .int (nI x) :: st0) rfl (am_idiv hd (nI_ne0 hc.2.1 hc.2.2) (am_stc (by rw [List.map_cons, List.map_cons]; exact congrArg (fun v => v :: _) (congrArg Value.int (pk_div hc.1 hc.2.1 hc.2.2))) kk)))
      · cases h
    · cases h
  case irem  =>
    replace hnx := hnx.resolve_left (by simp [ri_end])
    replace hln := hln.resolve_left (by simp [ri_sw])
    simp only [ri_ln] at hln
    subst hln
    simp only [ri_stf, st_irem] at h
    split at h
    · rename_i z x st0
      split at h
      · rename_i hc
        simp only [Bool.and_eq_true, Nat.blt, Nat.ble_eq] at hc
        rw [ri_fn_eq] at h
        simp only [Option.some.injEq, Prod.mk.injEq] at h
        obtain ⟨rfl, rfl, rfl, rfl⟩ := h
        exact ri_simple hnx (fun G hE d mc ms post k n hd1 hk9 hn9 kk => am_stc (st2 := .int (nI z) :: .int (nI x) :: st0) rfl (am_irem hd (nI_ne0 hc.2.1 hc.2.2) (am_stc (by rw [List.map_cons, List.map_cons]; exact congrArg (fun v => v :: _) (congrArg Value.int (pk_rem hc.1 hc.2.1 hc.2.2))) kk)))
      · cases h
    · cases h
  case ishr  =>
    replace hnx := hnx.resolve_left (by simp [ri_end])
    replace hln := hln.resolve_left (by simp [ri_sw])
    simp only [ri_ln] at hln
    subst hln
    simp only [ri_stf, st_ishr] at h
    split at h
    · rename_i z x st0
      split at h
      · rename_i hc
        simp only [Bool.and_eq_true, Nat.blt, Nat.ble_eq] at hc
        rw [ri_fn_eq] at h
        simp only [Option.some.injEq, Prod.mk.injEq] at h
        obtain ⟨rfl, rfl, rfl, rfl⟩ := h
        exact ri_simple hnx (fun G hE d mc ms post k n hd1 hk9 hn9 kk => am_stc (st2 := .int (nI z) :: .int (nI x) :: st0) rfl (am_ishr hd (am_stc (by rw [List.map_cons, List.map_cons]; exact congrArg (fun v => v :: _) (congrArg Value.int (pk_shrN hc.2 _ z (ri_sl z hc.1)))) kk)))
      · cases h
    · rename_i z b st0
      split at h
      · rename_i hz
        simp only [Bool.and_eq_true, Nat.beq_eq] at hz
        simp only [Option.some.injEq, Prod.mk.injEq] at h
        obtain ⟨rfl, rfl, rfl, rfl⟩ := h
        obtain ⟨hz0, hb⟩ := hz
        subst hz0
        refine ri_simple hnx (fun G hE d mc ms post k n hd1 hk9 hn9 kk => am_stc (st2 := .int 0 :: .int (am_rho G b.toNat) :: st0) ?_ (am_ishr hd (am_stc (st2 := .float b :: st0) ?_ kk)))
        · simp only [List.map_cons, am_cvf G hb]; rfl
        · simp only [List.map_cons, am_cvf G hb, sb_shr0]; rfl
      · cases h
    · cases h
  case ineg  =>
    replace hnx := hnx.resolve_left (by simp [ri_end])
    replace hln := hln.resolve_left (by simp [ri_sw])
    simp only [ri_ln] at hln
    subst hln
    simp only [ri_stf, st_ineg] at h
    split at h
    · rename_i x st0
      rw [ri_fn_eq] at h
      simp only [Option.some.injEq, Prod.mk.injEq] at h
      obtain ⟨rfl, rfl, rfl, rfl⟩ := h
      exact ri_simple hnx (fun G hE d mc ms post k n hd1 hk9 hn9 kk => am_stc (st2 := .int (nI x) :: st0) rfl (am_ineg hd (am_stc (by rw [List.map_cons, List.map_cons]; exact congrArg (fun v => v :: _) (congrArg Value.int (nI_neg x))) kk)))
    · cases h
  case ladd  =>
    replace hnx := hnx.resolve_left (by simp [ri_end])
    replace hln := hln.resolve_left (by simp [ri_sw])
    simp only [ri_ln] at hln
    subst hln
    simp only [ri_stf, st_ladd] at h
    split at h
    · rw [ri_fl_eq] at h
      simp only [Option.some.injEq, Prod.mk.injEq] at h
      obtain ⟨rfl, rfl, rfl, rfl⟩ := h
      exact ri_simple hnx (fun G hE d mc ms post k n hd1 hk9 hn9 kk => am_ladd hd kk)
    · cases h
  case lmul  =>
    replace hnx := hnx.resolve_left (by simp [ri_end])
    replace hln := hln.resolve_left (by simp [ri_sw])
    simp only [ri_ln] at hln
    subst hln
    simp only [ri_stf, st_lmul] at h
    split at h
    · rw [ri_fl_eq] at h
      simp only [Option.some.injEq, Prod.mk.injEq] at h
      obtain ⟨rfl, rfl, rfl, rfl⟩ := h
      exact ri_simple hnx (fun G hE d mc ms post k n hd1 hk9 hn9 kk => am_lmul hd kk)
    · cases h
  case i2l  =>
    replace hnx := hnx.resolve_left (by simp [ri_end])
    replace hln := hln.resolve_left (by simp [ri_sw])
    simp only [ri_ln] at hln
    subst hln
    simp only [ri_stf, st_i2l] at h
    split at h
    · rename_i x st0
      rw [ri_fl_eq] at h
      simp only [Option.some.injEq, Prod.mk.injEq] at h
      obtain ⟨rfl, rfl, rfl, rfl⟩ := h
      exact ri_simple hnx (fun G hE d mc ms post k n hd1 hk9 hn9 kk => am_stc (st2 := .int (nI x) :: st0) rfl (am_i2l hd kk))
    · rename_i b st0
      split at h
      · rename_i hb
        simp only [Option.some.injEq, Prod.mk.injEq] at h
        obtain ⟨rfl, rfl, rfl, rfl⟩ := h
        refine ri_simple hnx (fun G hE d mc ms post k n hd1 hk9 hn9 kk => am_stc (st2 := .int (am_rho G b.toNat) :: st0) ?_ (am_i2l hd (am_stc (st2 := .double b.toUInt64 :: st0) ?_ kk)))
        · simp only [List.map_cons, am_cvf G hb]; rfl
        · simp only [List.map_cons, am_cv, UInt32.toNat_toUInt64]
      · cases h
    · cases h
  case lcmp  =>
    replace hnx := hnx.resolve_left (by simp [ri_end])
    replace hln := hln.resolve_left (by simp [ri_sw])
    simp only [ri_ln] at hln
    subst hln
    simp only [ri_stf, st_lcmp] at h
    split at h
    · rename_i z x st0
      split at h
      · rename_i hc
        simp only [Option.some.injEq, Prod.mk.injEq] at h
        obtain ⟨rfl, rfl, rfl, rfl⟩ := h
        refine ri_simple hnx (fun G hE d mc ms post k n hd1 hk9 hn9 kk => am_stc (st2 := .long z :: .long x :: st0) rfl (am_lcmp hd (am_stc (st2 := .retAddr 1 :: st0) ?_ kk)))
        have e : lg_cmp x z = nI 1 := by
          unfold lg_cmp
          rw [if_pos hc]
          rfl
        rw [List.map_cons, List.map_cons, e]
        rfl
      · rename_i hc
        split at h
        · rename_i hc2
          simp only [Option.some.injEq, Prod.mk.injEq] at h
          obtain ⟨rfl, rfl, rfl, rfl⟩ := h
          refine ri_simple hnx (fun G hE d mc ms post k n hd1 hk9 hn9 kk => am_stc (st2 := .long z :: .long x :: st0) rfl (am_lcmp hd (am_stc (st2 := .retAddr 0 :: st0) ?_ kk)))
          have e : lg_cmp x z = nI 0 := by
            unfold lg_cmp
            rw [if_neg hc, if_pos hc2]
            rfl
          rw [List.map_cons, List.map_cons, e]
          rfl
        · rename_i hc2
          simp only [Option.some.injEq, Prod.mk.injEq] at h
          obtain ⟨rfl, rfl, rfl, rfl⟩ := h
          refine ri_simple hnx (fun G hE d mc ms post k n hd1 hk9 hn9 kk => am_stc (st2 := .long z :: .long x :: st0) rfl (am_lcmp hd (am_stc (st2 := .retAddr 4294967295 :: st0) ?_ kk)))
          have e : lg_cmp x z = nI 4294967295 := by
            unfold lg_cmp
            rw [if_neg hc, if_neg hc2]
            rfl
          rw [List.map_cons, List.map_cons, e]
          rfl
    · rename_i z b st0
      split at h
      · rename_i lo hi hiv
        rw [ri_nth_eq] at hiv
        have key : ∀ (G : am_G), am_Env G E → lo ≤ (am_rho G b.toNat).toInt64.toInt ∧ (am_rho G b.toNat).toInt64.toInt ≤ hi := fun G hE => by
          rw [Int32.toInt_toInt64]
          exact hE _ _ _ hiv
        split at h
        · rename_i hc
          simp only [Option.some.injEq, Prod.mk.injEq] at h
          obtain ⟨rfl, rfl, rfl, rfl⟩ := h
          refine ri_simple hnx (fun G hE d mc ms post k n hd1 hk9 hn9 kk => am_stc (st2 := .long z :: .long (am_rho G b.toNat).toInt64 :: st0) rfl (am_lcmp hd (am_stc (st2 := .retAddr 4294967295 :: st0) ?_ kk)))
          have e : lg_cmp (am_rho G b.toNat).toInt64 z = nI 4294967295 := by
            have := key G hE
            unfold lg_cmp
            rw [if_neg (by rw [gt_iff_lt, Int64.lt_iff_toInt_lt]; omega), if_neg (by rw [← Int64.toInt_inj]; omega)]
            rfl
          rw [List.map_cons, List.map_cons, e]
          rfl
        · split at h
          · rename_i hc
            simp only [Option.some.injEq, Prod.mk.injEq] at h
            obtain ⟨rfl, rfl, rfl, rfl⟩ := h
            refine ri_simple hnx (fun G hE d mc ms post k n hd1 hk9 hn9 kk => am_stc (st2 := .long z :: .long (am_rho G b.toNat).toInt64 :: st0) rfl (am_lcmp hd (am_stc (st2 := .retAddr 1 :: st0) ?_ kk)))
            have e : lg_cmp (am_rho G b.toNat).toInt64 z = nI 1 := by
              have := key G hE
              unfold lg_cmp
              rw [if_pos (by rw [gt_iff_lt, Int64.lt_iff_toInt_lt]; omega)]
              rfl
            rw [List.map_cons, List.map_cons, e]
            rfl
          · split at h
            · rename_i hc
              simp only [Option.some.injEq, Prod.mk.injEq] at h
              obtain ⟨rfl, rfl, rfl, rfl⟩ := h
              refine ri_simple hnx (fun G hE d mc ms post k n hd1 hk9 hn9 kk => am_stc (st2 := .long z :: .long (am_rho G b.toNat).toInt64 :: st0) rfl (am_lcmp hd (am_stc (st2 := .retAddr 0 :: st0) ?_ kk)))
              have e : lg_cmp (am_rho G b.toNat).toInt64 z = nI 0 := by
                have := key G hE
                unfold lg_cmp
                rw [if_neg (by rw [gt_iff_lt, Int64.lt_iff_toInt_lt]; omega), if_pos (by rw [← Int64.toInt_inj]; omega)]
                rfl
              rw [List.map_cons, List.map_cons, e]
              rfl
            · cases h
      · cases h
    · cases h
  case dup  =>
    replace hnx := hnx.resolve_left (by simp [ri_end])
    replace hln := hln.resolve_left (by simp [ri_sw])
    simp only [ri_ln] at hln
    subst hln
    simp only [ri_stf, st_dup] at h
    split at h
    · simp only [Option.some.injEq, Prod.mk.injEq] at h
      obtain ⟨rfl, rfl, rfl, rfl⟩ := h
      exact ri_simple hnx (fun G hE d mc ms post k n hd1 hk9 hn9 kk => am_dup hd rfl kk)
    · simp only [Option.some.injEq, Prod.mk.injEq] at h
      obtain ⟨rfl, rfl, rfl, rfl⟩ := h
      exact ri_simple hnx (fun G hE d mc ms post k n hd1 hk9 hn9 kk => am_dup hd rfl kk)
    · cases h
  case dup2  =>
    replace hnx := hnx.resolve_left (by simp [ri_end])
    replace hln := hln.resolve_left (by simp [ri_sw])
    simp only [ri_ln] at hln
    subst hln
    simp only [ri_stf, st_dup2] at h
    split at h
    · simp only [Option.some.injEq, Prod.mk.injEq] at h
      obtain ⟨rfl, rfl, rfl, rfl⟩ := h
      exact ri_simple hnx (fun G hE d mc ms post k n hd1 hk9 hn9 kk => am_dup2 hd rfl rfl kk)
    · cases h
  case if_icmp c off =>
    replace hnx := hnx.resolve_left (by simp [ri_end])
    replace hln := hln.resolve_left (by simp [ri_sw])
    simp only [ri_ln] at hln
    subst hln
    simp only [ri_rok1, decide_eq_true_eq, Option.map_eq_some_iff] at hr1
    obtain ⟨tp, ht1, ht2⟩ := hr1
    cases c
    · simp only [ri_stf, st_icmp_eq] at h
      split at h
      · rename_i z x st0
        split at h
        · rename_i hc
          simp only [Option.some.injEq, Prod.mk.injEq] at h
          obtain ⟨rfl, rfl, rfl, rfl⟩ := h
          refine ri_simple (pc2 := tp) ht1 (fun G hE d mc ms post k n hd1 hk9 hn9 kk => ?_)
          obtain ⟨i1, i2, i3⟩ := ri_cmp_ok hE hc
          exact am_stc (st2 := .int (am_xi G z) :: .int (am_xi G x) :: st0) (by simp only [List.map_cons, am_xi_cv G i1, am_xi_cv G i2]; rfl) (am_icmp hd ht2.symm (fun _ => kk) (fun q => absurd (i3.mp rfl) q))
        · rename_i hc
          simp only [Option.some.injEq, Prod.mk.injEq] at h
          obtain ⟨rfl, rfl, rfl, rfl⟩ := h
          refine ri_simple hnx (fun G hE d mc ms post k n hd1 hk9 hn9 kk => ?_)
          obtain ⟨i1, i2, i3⟩ := ri_cmp_ok hE hc
          exact am_stc (st2 := .int (am_xi G z) :: .int (am_xi G x) :: st0) (by simp only [List.map_cons, am_xi_cv G i1, am_xi_cv G i2]; rfl) (am_icmp hd ht2.symm (fun q => absurd (i3.mpr q) (by decide)) (fun _ => kk))
        · cases h
      · cases h
    · simp only [ri_stf, st_icmp_ne] at h
      split at h
      · rename_i z x st0
        split at h
        · rename_i hc
          simp only [Option.some.injEq, Prod.mk.injEq] at h
          obtain ⟨rfl, rfl, rfl, rfl⟩ := h
          refine ri_simple (pc2 := tp) ht1 (fun G hE d mc ms post k n hd1 hk9 hn9 kk => ?_)
          obtain ⟨i1, i2, i3⟩ := ri_cmp_ok hE hc
          exact am_stc (st2 := .int (am_xi G z) :: .int (am_xi G x) :: st0) (by simp only [List.map_cons, am_xi_cv G i1, am_xi_cv G i2]; rfl) (am_icmp hd ht2.symm (fun _ => kk) (fun q => absurd (i3.mp rfl) q))
        · rename_i hc
          simp only [Option.some.injEq, Prod.mk.injEq] at h
          obtain ⟨rfl, rfl, rfl, rfl⟩ := h
          refine ri_simple hnx (fun G hE d mc ms post k n hd1 hk9 hn9 kk => ?_)
          obtain ⟨i1, i2, i3⟩ := ri_cmp_ok hE hc
          exact am_stc (st2 := .int (am_xi G z) :: .int (am_xi G x) :: st0) (by simp only [List.map_cons, am_xi_cv G i1, am_xi_cv G i2]; rfl) (am_icmp hd ht2.symm (fun q => absurd (i3.mpr q) (by decide)) (fun _ => kk))
        · cases h
      · cases h
    · simp only [ri_stf, st_icmp_lt] at h
      split at h
      · rename_i z x st0
        split at h
        · rename_i hc
          simp only [Option.some.injEq, Prod.mk.injEq] at h
          obtain ⟨rfl, rfl, rfl, rfl⟩ := h
          refine ri_simple (pc2 := tp) ht1 (fun G hE d mc ms post k n hd1 hk9 hn9 kk => ?_)
          obtain ⟨i1, i2, i3⟩ := ri_cmp_ok hE hc
          exact am_stc (st2 := .int (am_xi G z) :: .int (am_xi G x) :: st0) (by simp only [List.map_cons, am_xi_cv G i1, am_xi_cv G i2]; rfl) (am_icmp hd ht2.symm (fun _ => kk) (fun q => absurd (i3.mp rfl) q))
        · rename_i hc
          simp only [Option.some.injEq, Prod.mk.injEq] at h
          obtain ⟨rfl, rfl, rfl, rfl⟩ := h
          refine ri_simple hnx (fun G hE d mc ms post k n hd1 hk9 hn9 kk => ?_)
          obtain ⟨i1, i2, i3⟩ := ri_cmp_ok hE hc
          exact am_stc (st2 := .int (am_xi G z) :: .int (am_xi G x) :: st0) (by simp only [List.map_cons, am_xi_cv G i1, am_xi_cv G i2]; rfl) (am_icmp hd ht2.symm (fun q => absurd (i3.mpr q) (by decide)) (fun _ => kk))
        · cases h
      · cases h
    · simp only [ri_stf, st_icmp_ge] at h
      split at h
      · rename_i z x st0
        split at h
        · rename_i hc
          simp only [Option.some.injEq, Prod.mk.injEq] at h
          obtain ⟨rfl, rfl, rfl, rfl⟩ := h
          refine ri_simple (pc2 := tp) ht1 (fun G hE d mc ms post k n hd1 hk9 hn9 kk => ?_)
          obtain ⟨i1, i2, i3⟩ := ri_cmp_ok hE hc
          exact am_stc (st2 := .int (am_xi G z) :: .int (am_xi G x) :: st0) (by simp only [List.map_cons, am_xi_cv G i1, am_xi_cv G i2]; rfl) (am_icmp hd ht2.symm (fun _ => kk) (fun q => absurd (i3.mp rfl) q))
        · rename_i hc
          simp only [Option.some.injEq, Prod.mk.injEq] at h
          obtain ⟨rfl, rfl, rfl, rfl⟩ := h
          refine ri_simple hnx (fun G hE d mc ms post k n hd1 hk9 hn9 kk => ?_)
          obtain ⟨i1, i2, i3⟩ := ri_cmp_ok hE hc
          exact am_stc (st2 := .int (am_xi G z) :: .int (am_xi G x) :: st0) (by simp only [List.map_cons, am_xi_cv G i1, am_xi_cv G i2]; rfl) (am_icmp hd ht2.symm (fun q => absurd (i3.mpr q) (by decide)) (fun _ => kk))
        · cases h
      · cases h
    · simp only [ri_stf, st_icmp_gt] at h
      split at h
      · rename_i z x st0
        split at h
        · rename_i hc
          simp only [Option.some.injEq, Prod.mk.injEq] at h
          obtain ⟨rfl, rfl, rfl, rfl⟩ := h
          refine ri_simple (pc2 := tp) ht1 (fun G hE d mc ms post k n hd1 hk9 hn9 kk => ?_)
          obtain ⟨i1, i2, i3⟩ := ri_cmp_ok hE hc
          exact am_stc (st2 := .int (am_xi G z) :: .int (am_xi G x) :: st0) (by simp only [List.map_cons, am_xi_cv G i1, am_xi_cv G i2]; rfl) (am_icmp hd ht2.symm (fun _ => kk) (fun q => absurd (i3.mp rfl) q))
        · rename_i hc
          simp only [Option.some.injEq, Prod.mk.injEq] at h
          obtain ⟨rfl, rfl, rfl, rfl⟩ := h
          refine ri_simple hnx (fun G hE d mc ms post k n hd1 hk9 hn9 kk => ?_)
          obtain ⟨i1, i2, i3⟩ := ri_cmp_ok hE hc
          exact am_stc (st2 := .int (am_xi G z) :: .int (am_xi G x) :: st0) (by simp only [List.map_cons, am_xi_cv G i1, am_xi_cv G i2]; rfl) (am_icmp hd ht2.symm (fun q => absurd (i3.mpr q) (by decide)) (fun _ => kk))
        · cases h
      · cases h
    · simp only [ri_stf, st_icmp_le] at h
      split at h
      · rename_i z x st0
        split at h
        · rename_i hc
          simp only [Option.some.injEq, Prod.mk.injEq] at h
          obtain ⟨rfl, rfl, rfl, rfl⟩ := h
          refine ri_simple (pc2 := tp) ht1 (fun G hE d mc ms post k n hd1 hk9 hn9 kk => ?_)
          obtain ⟨i1, i2, i3⟩ := ri_cmp_ok hE hc
          exact am_stc (st2 := .int (am_xi G z) :: .int (am_xi G x) :: st0) (by simp only [List.map_cons, am_xi_cv G i1, am_xi_cv G i2]; rfl) (am_icmp hd ht2.symm (fun _ => kk) (fun q => absurd (i3.mp rfl) q))
        · rename_i hc
          simp only [Option.some.injEq, Prod.mk.injEq] at h
          obtain ⟨rfl, rfl, rfl, rfl⟩ := h
          refine ri_simple hnx (fun G hE d mc ms post k n hd1 hk9 hn9 kk => ?_)
          obtain ⟨i1, i2, i3⟩ := ri_cmp_ok hE hc
          exact am_stc (st2 := .int (am_xi G z) :: .int (am_xi G x) :: st0) (by simp only [List.map_cons, am_xi_cv G i1, am_xi_cv G i2]; rfl) (am_icmp hd ht2.symm (fun q => absurd (i3.mpr q) (by decide)) (fun _ => kk))
        · cases h
      · cases h
  case ifCond c off =>
    replace hnx := hnx.resolve_left (by simp [ri_end])
    replace hln := hln.resolve_left (by simp [ri_sw])
    simp only [ri_ln] at hln
    subst hln
    simp only [ri_rok1, decide_eq_true_eq, Option.map_eq_some_iff] at hr1
    obtain ⟨tp, ht1, ht2⟩ := hr1
    cases c
    · simp only [ri_stf, st_if_eq] at h
      split at h
      · rename_i x st0
        split at h
        · rename_i hc
          simp only [Option.some.injEq, Prod.mk.injEq] at h
          obtain ⟨rfl, rfl, rfl, rfl⟩ := h
          refine ri_simple (pc2 := tp) ht1 (fun G hE d mc ms post k n hd1 hk9 hn9 kk => ?_)
          obtain ⟨i1, i2, i3⟩ := ri_cmp_ok hE hc
          exact am_stc (st2 := .int (am_xi G x) :: st0) (by simp only [List.map_cons, am_xi_cv G i1]; rfl) (am_ifc hd ht2.symm (fun _ => kk) (fun q => absurd (i3.mp rfl) q))
        · rename_i hc
          simp only [Option.some.injEq, Prod.mk.injEq] at h
          obtain ⟨rfl, rfl, rfl, rfl⟩ := h
          refine ri_simple hnx (fun G hE d mc ms post k n hd1 hk9 hn9 kk => ?_)
          obtain ⟨i1, i2, i3⟩ := ri_cmp_ok hE hc
          exact am_stc (st2 := .int (am_xi G x) :: st0) (by simp only [List.map_cons, am_xi_cv G i1]; rfl) (am_ifc hd ht2.symm (fun q => absurd (i3.mpr q) (by decide)) (fun _ => kk))
        · cases h
      · cases h
    · simp only [ri_stf, st_if_ne] at h
      split at h
      · rename_i x st0
        split at h
        · rename_i hc
          simp only [Option.some.injEq, Prod.mk.injEq] at h
          obtain ⟨rfl, rfl, rfl, rfl⟩ := h
          refine ri_simple (pc2 := tp) ht1 (fun G hE d mc ms post k n hd1 hk9 hn9 kk => ?_)
          obtain ⟨i1, i2, i3⟩ := ri_cmp_ok hE hc
          exact am_stc (st2 := .int (am_xi G x) :: st0) (by simp only [List.map_cons, am_xi_cv G i1]; rfl) (am_ifc hd ht2.symm (fun _ => kk) (fun q => absurd (i3.mp rfl) q))
        · rename_i hc
          simp only [Option.some.injEq, Prod.mk.injEq] at h
          obtain ⟨rfl, rfl, rfl, rfl⟩ := h
          refine ri_simple hnx (fun G hE d mc ms post k n hd1 hk9 hn9 kk => ?_)
          obtain ⟨i1, i2, i3⟩ := ri_cmp_ok hE hc
          exact am_stc (st2 := .int (am_xi G x) :: st0) (by simp only [List.map_cons, am_xi_cv G i1]; rfl) (am_ifc hd ht2.symm (fun q => absurd (i3.mpr q) (by decide)) (fun _ => kk))
        · cases h
      · cases h
    · simp only [ri_stf, st_if_lt] at h
      split at h
      · rename_i x st0
        split at h
        · rename_i hc
          simp only [Option.some.injEq, Prod.mk.injEq] at h
          obtain ⟨rfl, rfl, rfl, rfl⟩ := h
          refine ri_simple (pc2 := tp) ht1 (fun G hE d mc ms post k n hd1 hk9 hn9 kk => ?_)
          obtain ⟨i1, i2, i3⟩ := ri_cmp_ok hE hc
          exact am_stc (st2 := .int (am_xi G x) :: st0) (by simp only [List.map_cons, am_xi_cv G i1]; rfl) (am_ifc hd ht2.symm (fun _ => kk) (fun q => absurd (i3.mp rfl) q))
        · rename_i hc
          simp only [Option.some.injEq, Prod.mk.injEq] at h
          obtain ⟨rfl, rfl, rfl, rfl⟩ := h
          refine ri_simple hnx (fun G hE d mc ms post k n hd1 hk9 hn9 kk => ?_)
          obtain ⟨i1, i2, i3⟩ := ri_cmp_ok hE hc
          exact am_stc (st2 := .int (am_xi G x) :: st0) (by simp only [List.map_cons, am_xi_cv G i1]; rfl) (am_ifc hd ht2.symm (fun q => absurd (i3.mpr q) (by decide)) (fun _ => kk))
        · cases h
      · cases h
    · simp only [ri_stf, st_if_ge] at h
      split at h
      · rename_i x st0
        split at h
        · rename_i hc
          simp only [Option.some.injEq, Prod.mk.injEq] at h
          obtain ⟨rfl, rfl, rfl, rfl⟩ := h
          refine ri_simple (pc2 := tp) ht1 (fun G hE d mc ms post k n hd1 hk9 hn9 kk => ?_)
          obtain ⟨i1, i2, i3⟩ := ri_cmp_ok hE hc
          exact am_stc (st2 := .int (am_xi G x) :: st0) (by simp only [List.map_cons, am_xi_cv G i1]; rfl) (am_ifc hd ht2.symm (fun _ => kk) (fun q => absurd (i3.mp rfl) q))
        · rename_i hc
          simp only [Option.some.injEq, Prod.mk.injEq] at h
          obtain ⟨rfl, rfl, rfl, rfl⟩ := h
          refine ri_simple hnx (fun G hE d mc ms post k n hd1 hk9 hn9 kk => ?_)
          obtain ⟨i1, i2, i3⟩ := ri_cmp_ok hE hc
          exact am_stc (st2 := .int (am_xi G x) :: st0) (by simp only [List.map_cons, am_xi_cv G i1]; rfl) (am_ifc hd ht2.symm (fun q => absurd (i3.mpr q) (by decide)) (fun _ => kk))
        · cases h
      · cases h
    · simp only [ri_stf, st_if_gt] at h
      split at h
      · rename_i x st0
        split at h
        · rename_i hc
          simp only [Option.some.injEq, Prod.mk.injEq] at h
          obtain ⟨rfl, rfl, rfl, rfl⟩ := h
          refine ri_simple (pc2 := tp) ht1 (fun G hE d mc ms post k n hd1 hk9 hn9 kk => ?_)
          obtain ⟨i1, i2, i3⟩ := ri_cmp_ok hE hc
          exact am_stc (st2 := .int (am_xi G x) :: st0) (by simp only [List.map_cons, am_xi_cv G i1]; rfl) (am_ifc hd ht2.symm (fun _ => kk) (fun q => absurd (i3.mp rfl) q))
        · rename_i hc
          simp only [Option.some.injEq, Prod.mk.injEq] at h
          obtain ⟨rfl, rfl, rfl, rfl⟩ := h
          refine ri_simple hnx (fun G hE d mc ms post k n hd1 hk9 hn9 kk => ?_)
          obtain ⟨i1, i2, i3⟩ := ri_cmp_ok hE hc
          exact am_stc (st2 := .int (am_xi G x) :: st0) (by simp only [List.map_cons, am_xi_cv G i1]; rfl) (am_ifc hd ht2.symm (fun q => absurd (i3.mpr q) (by decide)) (fun _ => kk))
        · cases h
      · cases h
    · simp only [ri_stf, st_if_le] at h
      split at h
      · rename_i x st0
        split at h
        · rename_i hc
          simp only [Option.some.injEq, Prod.mk.injEq] at h
          obtain ⟨rfl, rfl, rfl, rfl⟩ := h
          refine ri_simple (pc2 := tp) ht1 (fun G hE d mc ms post k n hd1 hk9 hn9 kk => ?_)
          obtain ⟨i1, i2, i3⟩ := ri_cmp_ok hE hc
          exact am_stc (st2 := .int (am_xi G x) :: st0) (by simp only [List.map_cons, am_xi_cv G i1]; rfl) (am_ifc hd ht2.symm (fun _ => kk) (fun q => absurd (i3.mp rfl) q))
        · rename_i hc
          simp only [Option.some.injEq, Prod.mk.injEq] at h
          obtain ⟨rfl, rfl, rfl, rfl⟩ := h
          refine ri_simple hnx (fun G hE d mc ms post k n hd1 hk9 hn9 kk => ?_)
          obtain ⟨i1, i2, i3⟩ := ri_cmp_ok hE hc
          exact am_stc (st2 := .int (am_xi G x) :: st0) (by simp only [List.map_cons, am_xi_cv G i1]; rfl) (am_ifc hd ht2.symm (fun q => absurd (i3.mpr q) (by decide)) (fun _ => kk))
        · cases h
      · cases h
  case goto off =>
    replace hln := hln.resolve_left (by simp [ri_sw])
    simp only [ri_ln] at hln
    subst hln
    simp only [ri_rok1, decide_eq_true_eq, Option.map_eq_some_iff] at hr1
    obtain ⟨tp, ht1, ht2⟩ := hr1
    simp only [ri_stf, st_goto] at h
    simp only [Option.some.injEq, Prod.mk.injEq] at h
    obtain ⟨rfl, rfl, rfl, rfl⟩ := h
    exact ri_simple (pc2 := tp) ht1 (fun G hE d mc ms post k n hd1 hk9 hn9 kk => am_goto hd ht2.symm kk)
  case tableswitch df lo hi offs =>
    simp only [ri_rok1, decide_eq_true_eq, Option.map_eq_some_iff, Bool.and_eq_true] at hr1
    obtain ⟨⟨hlo0, hhi⟩, ⟨tp, ht1, ht2⟩, ht3⟩ := hr1
    subst hlo0
    simp only [ri_stf, st_table] at h
    split at h
    · rename_i x st0
      split at h
      · cases h
      · rename_i hx
        rw [Nat.ble_eq] at hx
        have hxi : (nI x).toInt = (x : Int) := nI_toInt (by omega)
        split at h
        · rename_i t htt
          rw [ri_nth_eq] at htt
          simp only [Option.some.injEq, Prod.mk.injEq] at h
          obtain ⟨rfl, rfl, rfl, rfl⟩ := h
          have hlt := (List.getElem?_eq_some_iff.mp htt).1
          have h9 := congrArg (fun l => l[x]?) ht3
          simp only [List.getElem?_map, htt, Option.map_some] at h9
          have h10 : ∃ off, offs[x]? = some off := by
            cases ho : offs[x]? with
            | none =>
              rw [Array.getElem?_toList (xs := offs), ho] at h9
              simp at h9
            | some off => exact ⟨off, rfl⟩
          obtain ⟨off, ho⟩ := h10
          rw [Array.getElem?_toList (xs := offs), ho] at h9
          simp only [Option.map_some, Option.some.injEq, Option.map_eq_some_iff] at h9
          obtain ⟨tp2, g1, g2⟩ := h9
          exact ri_simple (pc2 := tp2) g1 (fun G hE d mc ms post k n hd1 hk9 hn9 kk => am_stc (st2 := .int (nI x) :: st0) rfl (am_tblIn hd (by rw [hxi]; omega) (by rw [hxi]; omega) (by rw [hxi]; simpa using ho) g2.symm kk))
        · rename_i htt
          rw [ri_nth_eq, List.getElem?_eq_none_iff] at htt
          simp only [Option.some.injEq, Prod.mk.injEq] at h
          obtain ⟨rfl, rfl, rfl, rfl⟩ := h
          exact ri_simple (pc2 := tp) ht1 (fun G hE d mc ms post k n hd1 hk9 hn9 kk => am_stc (st2 := .int (nI x) :: st0) rfl (am_tblOut hd (by rw [hxi]; omega) ht2.symm kk))
    · rename_i b st0
      split at h
      · rename_i hb
        split at h
        · rename_i l0 h0 hiv
          rw [ri_nth_eq] at hiv
          split at h
          · rename_i hc
            simp only [Option.some.injEq, Prod.mk.injEq] at h
            obtain ⟨rfl, rfl, rfl, rfl⟩ := h
            refine ri_simple (pc2 := tp) ht1 (fun G hE d mc ms post k n hd1 hk9 hn9 kk => am_stc (st2 := .int (am_rho G b.toNat) :: st0) (by simp only [List.map_cons, am_cvf G hb]; rfl) (am_tblOut hd ?_ ht2.symm kk))
            have := hE _ _ _ hiv
            omega
          · cases h
        · cases h
      · cases h
    · cases h
  case getfield idx =>
    replace hnx := hnx.resolve_left (by simp [ri_end])
    replace hln := hln.resolve_left (by simp [ri_sw])
    simp only [ri_ln] at hln
    subst hln
    simp only [ri_rok1] at hr1
    simp only [ri_stf, st_getfield] at h
    split at h
    · split at h
      · rename_i ci fs hL
        split at h
        · cases h
        · rename_i hb
          split at h
          · rename_i hci
            have hci : ci = a := by simpa using hci
            subst hci
            split at h
            · rename_i w hw
              rw [ri_nth_eq] at hw
              simp only [Option.some.injEq, Prod.mk.injEq] at h
              obtain ⟨rfl, rfl, rfl, rfl⟩ := h
              split at hr1
              · rename_i q hq
                simp only [Bool.and_eq_true, decide_eq_true_eq] at hr1
                exact ri_simple hnx (fun G hE d mc ms post k n hd1 hk9 hn9 kk => am_get hd hq hr1.1 (ri_lw_in hr1.2) (ri_lt hb) (ri_h_at hL) hw kk)
              · cases hr1
            · cases h
          · cases h
      · cases h
    · rename_i b0 st0
      split at h
      · rename_i hb0
        simp only [Bool.and_eq_true, Nat.beq_eq] at hb0
        obtain ⟨hb1, hb2⟩ := hb0
        subst hb2
        split at h
        · rename_i x hpc
          obtain ⟨hN, hcell⟩ := ri_pall_ok (ri_pcell_ok hpc)
          split at hr1
          · rename_i q hq
            simp only [Bool.and_eq_true, decide_eq_true_eq] at hr1
            split at h
            · rename_i hk1
              rw [Nat.beq_eq] at hk1
              subst hk1
              simp only [Option.some.injEq, Prod.mk.injEq] at h
              obtain ⟨rfl, rfl, rfl, rfl⟩ := h
              refine ri_simple hnx (fun G hE d mc ms post k n hd1 hk9 hn9 kk => ?_)
              obtain ⟨p1, p2, p3, p4⟩ := ri_isP_ok hE hb1
              refine am_stc (st2 := .ref (90 + 2 * am_px G (b0.toNat - 2000)) :: st0) (by simp only [List.map_cons, p1]; rfl) (am_get hd hq hr1.1 (ri_lw_in hr1.2) (by omega) (ri_h_at (hcell _ p2)) rfl kk)
            · split at h
              · rename_i hk1
                rw [Nat.beq_eq] at hk1
                subst hk1
                simp only [Option.some.injEq, Prod.mk.injEq] at h
                obtain ⟨rfl, rfl, rfl, rfl⟩ := h
                refine ri_simple hnx (fun G hE d mc ms post k n hd1 hk9 hn9 kk => ?_)
                obtain ⟨p1, p2, p3, p4⟩ := ri_isP_ok hE hb1
                refine am_stc (st2 := .ref (90 + 2 * am_px G (b0.toNat - 2000)) :: st0) (by simp only [List.map_cons, p1]; rfl) (am_get hd hq hr1.1 (ri_lw_in hr1.2) (by omega) (ri_h_at (hcell _ p2)) rfl (am_stc ?_ kk))
                have e1 : (UInt32.ofNat (b0.toNat + 1000)).toNat = b0.toNat + 1000 := by
                  rw [UInt32.toNat_ofNat']
                  omega
                have e2 := am_cvC G (b := UInt32.ofNat (b0.toNat + 1000)) (by omega) (by omega)
                rw [e1, show b0.toNat + 1000 - 3000 = b0.toNat - 2000 by omega] at e2
                simp only [List.map_cons, e2]
                rfl
              · cases h
          · cases hr1
        · cases h
      · cases h
    · cases h
  case putfield idx =>
    replace hnx := hnx.resolve_left (by simp [ri_end])
    replace hln := hln.resolve_left (by simp [ri_sw])
    simp only [ri_ln] at hln
    subst hln
    simp only [ri_rok1] at hr1
    simp only [ri_stf, st_putfield] at h
    split at h
    · split at h
      · rename_i x a2 st0 xx ci fs hL
        split at h
        · cases h
        · rename_i hbl
          split at h
          · rename_i hci
            simp only [Bool.and_eq_true, Bool.or_eq_true, Nat.beq_eq, Nat.ble_eq] at hci
            simp only [Option.some.injEq, Prod.mk.injEq] at h
            obtain ⟨rfl, rfl, rfl, rfl⟩ := h
            obtain ⟨hci0, hv0, hfs⟩ := hci
            subst hci0
            split at hr1
            · rename_i q hq
              simp only [Bool.and_eq_true, decide_eq_true_eq, Bool.or_eq_true, Bool.not_eq_true'] at hr1
              obtain ⟨⟨⟨hj, hlk⟩, hfin⟩, hty⟩ := hr1
              have hfl : b < fs.length := by
                rw [Option.isSome_iff_exists, ri_nth_eq] at hfs
                obtain ⟨z, hz⟩ := hfs
                exact (List.getElem?_eq_some_iff.mp hz).1
              have hnf : ∃ ty, parseFieldDescriptor (q.2.1 b).2.2.1 = some ty ∧ ∀ G : am_G, narrow ty (am_cv G (.retAddr x)) = am_cv G (.retAddr x) ∧ fits ty (am_cv G (.retAddr x)) = true := by
                split at hty
                · rename_i he
                  exact ⟨_, he, fun G => ⟨rfl, rfl⟩⟩
                · rename_i he
                  have hty : nn = 1 := by simpa using hty
                  subst hty
                  have hv1 : x = 0 ∨ x = 1 := by
                    rcases hv0 with hv0 | hv0
                    · cases hv0
                    · have := hv0.2
                      omega
                  refine ⟨_, he, fun G => ?_⟩
                  rcases hv1 with rfl | rfl
                  · exact ⟨rfl, rfl⟩
                  · exact ⟨rfl, rfl⟩
                · rename_i he
                  have hty : nn = 2 := by simpa using hty
                  subst hty
                  simp at hv0
                · rename_i he
                  have hty : nn = 2 := by simpa using hty
                  subst hty
                  simp at hv0
                · cases hty
              obtain ⟨ty, hty1, hty2⟩ := hnf
              refine ri_wr hL hnx (fun G d mc ms post k n hd1 kk => ?_)
              rw [ri_upd_eq] at kk
              rcases hfin with hf | hf
              · exact am_put hd hq hj (ri_lw_in hlk) hf hty1 (hty2 G).1 (hty2 G).2 (ri_lt hbl) (ri_h_at hL) hfl kk
              · cases hfb : (q.2.1 b).2.2.2 with
                | false => exact am_put hd hq hj (ri_lw_in hlk) hfb hty1 (hty2 G).1 (hty2 G).2 (ri_lt hbl) (ri_h_at hL) hfl kk
                | true => exact am_putF hd hq hj (ri_lw_in hlk) hfb hf.1 hf.2 hty1 (hty2 G).1 (hty2 G).2 (ri_lt hbl) (ri_h_at hL) hfl kk
            · cases hr1
          · cases h
      · cases h
    · split at h
      · rename_i x a2 st0 xx ci fs hL
        split at h
        · cases h
        · rename_i hbl
          split at h
          · rename_i hci
            simp only [Bool.and_eq_true, Bool.or_eq_true, Nat.beq_eq, Nat.ble_eq] at hci
            simp only [Option.some.injEq, Prod.mk.injEq] at h
            obtain ⟨rfl, rfl, rfl, rfl⟩ := h
            obtain ⟨hci0, hv0, hfs⟩ := hci
            subst hci0
            split at hr1
            · rename_i q hq
              simp only [Bool.and_eq_true, decide_eq_true_eq, Bool.or_eq_true, Bool.not_eq_true'] at hr1
              obtain ⟨⟨⟨hj, hlk⟩, hfin⟩, hty⟩ := hr1
              have hfl : b < fs.length := by
                rw [Option.isSome_iff_exists, ri_nth_eq] at hfs
                obtain ⟨z, hz⟩ := hfs
                exact (List.getElem?_eq_some_iff.mp hz).1
              have hnf : ∃ ty, parseFieldDescriptor (q.2.1 b).2.2.1 = some ty ∧ ∀ G : am_G, narrow ty (am_cv G (.ref x)) = am_cv G (.ref x) ∧ fits ty (am_cv G (.ref x)) = true := by
                split at hty
                · rename_i he
                  have hty : nn = 0 := by simpa using hty
                  subst hty
                  simp at hv0
                · rename_i he
                  have hty : nn = 1 := by simpa using hty
                  subst hty
                  simp at hv0
                · rename_i he
                  exact ⟨_, he, fun G => ⟨rfl, rfl⟩⟩
                · rename_i he
                  exact ⟨_, he, fun G => ⟨rfl, rfl⟩⟩
                · cases hty
              obtain ⟨ty, hty1, hty2⟩ := hnf
              refine ri_wr hL hnx (fun G d mc ms post k n hd1 kk => ?_)
              rw [ri_upd_eq] at kk
              rcases hfin with hf | hf
              · exact am_put hd hq hj (ri_lw_in hlk) hf hty1 (hty2 G).1 (hty2 G).2 (ri_lt hbl) (ri_h_at hL) hfl kk
              · cases hfb : (q.2.1 b).2.2.2 with
                | false => exact am_put hd hq hj (ri_lw_in hlk) hfb hty1 (hty2 G).1 (hty2 G).2 (ri_lt hbl) (ri_h_at hL) hfl kk
                | true => exact am_putF hd hq hj (ri_lw_in hlk) hfb hf.1 hf.2 hty1 (hty2 G).1 (hty2 G).2 (ri_lt hbl) (ri_h_at hL) hfl kk
            · cases hr1
          · cases h
      · cases h
    · rename_i x b0 st0
      split at h
      · rename_i hb0
        simp only [Bool.and_eq_true, Nat.beq_eq] at hb0
        obtain ⟨hb1, hb2, hb3, hb4, hb5⟩ := hb0
        subst hb2
        subst hb3
        subst hb4
        obtain ⟨hN, hcell⟩ := ri_pall_ok hb5
        simp only [Option.some.injEq, Prod.mk.injEq] at h
        obtain ⟨rfl, rfl, rfl, rfl⟩ := h
        split at hr1
        · rename_i q hq
          cases hq
          simp only [Bool.and_eq_true, decide_eq_true_eq, Bool.or_eq_true, Bool.not_eq_true'] at hr1
          obtain ⟨⟨⟨hj, hlk⟩, hfin⟩, hty⟩ := hr1
          refine ri_simple hnx (fun G hE d mc ms post k n hd1 hk9 hn9 kk => ?_)
          obtain ⟨p1, p2, p3, p4⟩ := ri_isP_ok hE hb1
          refine am_stc (st2 := .retAddr x :: .ref (90 + 2 * am_px G (b0.toNat - 2000)) :: st0) (by simp only [List.map_cons, p1]; rfl) (am_put (ci := 2) (j := 1) (ty := .int) hd rfl hj (ri_lw_in hlk) rfl (by decide +kernel) rfl rfl (by omega) (ri_h_at (hcell _ p2)) (Nat.lt_succ_self 1) ?_)
          have e9 : va_up (ri_h L) (90 + 2 * am_px G (b0.toNat - 2000)) (.inr (2, [.ref (91 + 2 * am_px G (b0.toNat - 2000)), .retAddr x])) = ri_h L := va_up_same (ri_h_at (hcell _ p2))
          show am_A G d y mc ms post k n _ _ _ _ (va_up (ri_h L) (90 + 2 * am_px G (b0.toNat - 2000)) (.inr (2, [.ref (91 + 2 * am_px G (b0.toNat - 2000)), .retAddr x])))
          rw [e9]
          exact kk
        · cases hr1
      · cases h
    · cases h
  case iaload  =>
    replace hnx := hnx.resolve_left (by simp [ri_end])
    replace hln := hln.resolve_left (by simp [ri_sw])
    simp only [ri_ln] at hln
    subst hln
    simp only [ri_stf, st_iaload] at h
    split at h
    · rename_i i0 a0 st0
      split at h
      · rename_i l hL
        split at h
        · cases h
        · rename_i hbl
          split at h
          · cases h
          · rename_i h0
            rw [Nat.ble_eq] at h0
            split at h
            · rename_i x hx
              rw [ri_nth_eq] at hx
              simp only [Option.some.injEq, Prod.mk.injEq] at h
              obtain ⟨rfl, rfl, rfl, rfl⟩ := h
              have hlt := (List.getElem?_eq_some_iff.mp hx).1
              refine ri_simple hnx (fun G hE d mc ms post k n hd1 hk9 hn9 kk => am_stc (st2 := .int (nI i0) :: .ref a0 :: st0) rfl (am_iald hd (ri_lt hbl) (ri_h_at hL) (ri_in2 hlt (by omega)) (am_stc (st2 := .retAddr x :: st0) ?_ kk)))
              rw [nI_clamp (by omega)]
              show Value.int (nI (l.getD i0 0)) :: _ = _
              rw [List.getD_eq_getElem?_getD, hx]
              rfl
            · cases h
      · cases h
    · rename_i i0 b st0
      split at h
      · rename_i hb
        subst hb
        split at h
        · rename_i x hx
          rw [ri_nth_eq] at hx
          simp only [Option.some.injEq, Prod.mk.injEq] at h
          obtain ⟨rfl, rfl, rfl, rfl⟩ := h
          have hlt : i0 < 13 := (List.getElem?_eq_some_iff.mp hx).1
          refine ri_simple hnx (fun G hE d mc ms post k n hd1 hk9 hn9 kk => am_stc (st2 := .int (nI i0) :: .float 4294967295 :: st0) rfl (am_plald hd (ri_in2 hlt (by omega)) (am_stc (st2 := .retAddr x :: st0) ?_ kk)))
          rw [nI_clamp (by omega)]
          match i0, hlt, hx with
          | 0, _, hx => cases hx; rfl
          | 1, _, hx => cases hx; rfl
          | 2, _, hx => cases hx; rfl
          | 3, _, hx => cases hx; rfl
          | 4, _, hx => cases hx; rfl
          | 5, _, hx => cases hx; rfl
          | 6, _, hx => cases hx; rfl
          | 7, _, hx => cases hx; rfl
          | 8, _, hx => cases hx; rfl
          | 9, _, hx => cases hx; rfl
          | 10, _, hx => cases hx; rfl
          | 11, _, hx => cases hx; rfl
          | 12, _, hx => cases hx; rfl
        · cases h
      · cases h
    · rename_i b0 a0 st0
      split at h
      · rename_i l hL
        split at h
        · cases h
        · rename_i hbl
          split at h
          · rename_i x hx0
            split at h
            · rename_i hc
              rw [Bool.and_eq_true, List.all_eq_true] at hc
              simp only [Option.some.injEq, Prod.mk.injEq] at h
              obtain ⟨rfl, rfl, rfl, rfl⟩ := h
              refine ri_simple hnx (fun G hE d mc ms post k n hd1 hk9 hn9 kk => ?_)
              obtain ⟨q1, q2, q3⟩ := ri_p8_ok hE hc.1
              have hx := hc.2 _ (List.mem_range.mpr q2)
              rw [decide_eq_true_eq, ri_nth_eq] at hx
              have hlt := (List.getElem?_eq_some_iff.mp hx).1
              refine am_stc (st2 := .int (nI (am_px G b0.toNat)) :: .ref a0 :: st0) (by simp only [List.map_cons, am_cvf G (show Nat.ble b0.toNat 1000 = true by rw [Nat.ble_eq]; omega), q3]; rfl) (am_iald hd (ri_lt hbl) (ri_h_at hL) (ri_in2 hlt (by omega)) (am_stc (st2 := .retAddr x :: st0) ?_ kk))
              rw [nI_clamp (by omega)]
              show Value.int (nI (l.getD _ 0)) :: _ = _
              rw [List.getD_eq_getElem?_getD, hx]
              rfl
            · cases h
          · cases h
      · cases h
    · cases h
  case laload  =>
    replace hnx := hnx.resolve_left (by simp [ri_end])
    replace hln := hln.resolve_left (by simp [ri_sw])
    simp only [ri_ln] at hln
    subst hln
    simp only [ri_stf, st_laload] at h
    split at h
    · rename_i i0 a0 st0
      split at h
      · rename_i l hL
        split at h
        · cases h
        · rename_i hbl
          split at h
          · cases h
          · rename_i h0
            rw [Nat.ble_eq] at h0
            split at h
            · rename_i x hx
              rw [ri_nth_eq] at hx
              simp only [Option.some.injEq, Prod.mk.injEq] at h
              obtain ⟨rfl, rfl, rfl, rfl⟩ := h
              have hlt := (List.getElem?_eq_some_iff.mp hx).1
              refine ri_simple hnx (fun G hE d mc ms post k n hd1 hk9 hn9 kk => am_stc (st2 := .int (nI i0) :: .ref a0 :: st0) rfl (am_lald hd (ri_lt hbl) (ri_h_at hL) (ri_in2 hlt (by omega)) ?_))
              rw [nI_clamp (by omega)]
              show am_A G d y mc ms post k n _ _ (.long (l.getD i0 0) :: _) _ _
              rw [List.getD_eq_getElem?_getD, hx]
              exact kk
            · cases h
      · cases h
    · cases h
  case aaload  =>
    replace hnx := hnx.resolve_left (by simp [ri_end])
    replace hln := hln.resolve_left (by simp [ri_sw])
    simp only [ri_ln] at hln
    subst hln
    simp only [ri_stf, st_aaload] at h
    split at h
    · rename_i i0 a0 st0
      split at h
      · rename_i t l hL
        split at h
        · cases h
        · rename_i hbl
          split at h
          · rename_i ht
            simp only [Bool.and_eq_true, Nat.ble_eq] at ht
            split at h
            · cases h
            · rename_i h0
              rw [Nat.ble_eq] at h0
              split at h
              · rename_i x hx
                rw [ri_nth_eq] at hx
                simp only [Option.some.injEq, Prod.mk.injEq] at h
                obtain ⟨rfl, rfl, rfl, rfl⟩ := h
                have hlt := (List.getElem?_eq_some_iff.mp hx).1
                refine ri_simple hnx (fun G hE d mc ms post k n hd1 hk9 hn9 kk => am_stc (st2 := .int (nI i0) :: .ref a0 :: st0) rfl (am_aald hd ht.1 (by omega) (ri_lt hbl) (ri_h_at hL) (ri_in2 hlt (by omega)) ?_ kk))
                rw [nI_clamp (by omega)]
                show l.getD _ none = _
                rw [List.getD_eq_getElem?_getD, hx]
                rfl
              · cases h
          · cases h
      · cases h
    · rename_i b0 a0 st0
      split at h
      · rename_i l hL
        split at h
        · cases h
        · rename_i hbl
          split at h
          · rename_i hc
            rw [Bool.and_eq_true, List.all_eq_true] at hc
            simp only [Option.some.injEq, Prod.mk.injEq] at h
            obtain ⟨rfl, rfl, rfl, rfl⟩ := h
            refine ri_simple hnx (fun G hE d mc ms post k n hd1 hk9 hn9 kk => ?_)
            obtain ⟨q1, q2, q3⟩ := ri_p8_ok hE hc.1
            have hx := hc.2 _ (List.mem_range.mpr q2)
            rw [decide_eq_true_eq, ri_nth_eq] at hx
            have hlt := (List.getElem?_eq_some_iff.mp hx).1
            refine am_stc (st2 := .int (nI (am_px G b0.toNat)) :: .ref a0 :: st0) (by simp only [List.map_cons, am_cvf G (show Nat.ble b0.toNat 1000 = true by rw [Nat.ble_eq]; omega), q3]; rfl) (am_aald (t := 4) hd (by decide) (by decide) (ri_lt hbl) (ri_h_at hL) (ri_in2 hlt (by omega)) (b := 90 + 2 * am_px G b0.toNat) ?_ (am_stc ?_ kk))
            · rw [nI_clamp (by omega)]
              show l.getD _ none = _
              rw [List.getD_eq_getElem?_getD, hx]
              rfl
            · have e1 : (UInt32.ofNat (b0.toNat + 2000)).toNat = b0.toNat + 2000 := by
                rw [UInt32.toNat_ofNat']
                omega
              have e2 := am_cvP G (b := UInt32.ofNat (b0.toNat + 2000)) (by omega) (by omega)
              rw [e1, Nat.add_sub_cancel] at e2
              simp only [List.map_cons, e2]
              rfl
          · cases h
      · cases h
    · cases h
  case iastore  =>
    replace hnx := hnx.resolve_left (by simp [ri_end])
    replace hln := hln.resolve_left (by simp [ri_sw])
    simp only [ri_ln] at hln
    subst hln
    simp only [ri_stf, st_iastore] at h
    split at h
    · rename_i x i0 a0 st0
      split at h
      · rename_i l hL
        split at h
        · cases h
        · rename_i hbl
          split at h
          · cases h
          · rename_i h0
            rw [Nat.ble_eq] at h0
            split at h
            · rename_i hle
              rw [ri_nth_eq, Option.isSome_iff_exists] at hle
              obtain ⟨z, hz⟩ := hle
              simp only [Option.some.injEq, Prod.mk.injEq] at h
              obtain ⟨rfl, rfl, rfl, rfl⟩ := h
              have hlt := (List.getElem?_eq_some_iff.mp hz).1
              refine ri_wr hL hnx (fun G d mc ms post k n hd1 kk => am_stc (st2 := .int (nI x) :: .int (nI i0) :: .ref a0 :: st0) rfl (am_iast hd (ri_lt hbl) (ri_h_at hL) (ri_in2 hlt (by omega)) ?_))
              simp only [ri_e, ri_va, ri_upd_eq, List.length_set, ri_fu_i l _ hlt] at kk
              rw [nI_clamp (by omega)]
              exact kk
            · cases h
      · cases h
    · rename_i x b0 a0 st0
      split at h
      · rename_i l hL
        split at h
        · cases h
        · rename_i hbl
          split at h
          · rename_i hc
            rw [Bool.and_eq_true, List.all_eq_true] at hc
            simp only [Option.some.injEq, Prod.mk.injEq] at h
            obtain ⟨rfl, rfl, rfl, rfl⟩ := h
            refine ri_simple hnx (fun G hE d mc ms post k n hd1 hk9 hn9 kk => ?_)
            obtain ⟨q1, q2, q3⟩ := ri_p8_ok hE hc.1
            have hx := hc.2 _ (List.mem_range.mpr q2)
            rw [decide_eq_true_eq, ri_nth_eq] at hx
            have hlt := (List.getElem?_eq_some_iff.mp hx).1
            refine am_stc (st2 := .int (nI x) :: .int (nI (am_px G b0.toNat)) :: .ref a0 :: st0) (by simp only [List.map_cons, am_cvf G (show Nat.ble b0.toNat 1000 = true by rw [Nat.ble_eq]; omega), q3]; rfl) (am_iast hd (ri_lt hbl) (ri_h_at hL) (ri_in2 hlt (by omega)) ?_)
            rw [nI_clamp (by omega)]
            have e1 : upd (fun j => nI (l.getD j 0)) (am_px G b0.toNat) (nI x) = (fun j => nI (l.getD j 0)) := by
              funext j
              by_cases hj : j = am_px G b0.toNat
              · subst hj
                simp [upd, List.getD, hx]
              · simp [upd, hj]
            rw [e1]
            show am_A G d y mc ms post k n _ _ _ _ (va_up (ri_h L) _ (ri_e (.inl (0, .inl l))))
            rw [va_up_same (ri_h_at hL)]
            exact kk
          · cases h
      · cases h
    · cases h
  case lastore  =>
    replace hnx := hnx.resolve_left (by simp [ri_end])
    replace hln := hln.resolve_left (by simp [ri_sw])
    simp only [ri_ln] at hln
    subst hln
    simp only [ri_stf, st_lastore] at h
    split at h
    · rename_i x i0 a0 st0
      split at h
      · rename_i l hL
        split at h
        · cases h
        · rename_i hbl
          split at h
          · cases h
          · rename_i h0
            rw [Nat.ble_eq] at h0
            split at h
            · rename_i hle
              rw [ri_nth_eq, Option.isSome_iff_exists] at hle
              obtain ⟨z, hz⟩ := hle
              simp only [Option.some.injEq, Prod.mk.injEq] at h
              obtain ⟨rfl, rfl, rfl, rfl⟩ := h
              have hlt := (List.getElem?_eq_some_iff.mp hz).1
              refine ri_wr hL hnx (fun G d mc ms post k n hd1 kk => am_stc (st2 := .long x :: .int (nI i0) :: .ref a0 :: st0) rfl (am_last hd (ri_lt hbl) (ri_h_at hL) (ri_in2 hlt (by omega)) ?_))
              simp only [ri_e, ri_va, ri_upd_eq, List.length_set, ri_fu_l l _ hlt] at kk
              rw [nI_clamp (by omega)]
              exact kk
            · cases h
      · cases h
    · cases h
  case aastore  =>
    replace hnx := hnx.resolve_left (by simp [ri_end])
    replace hln := hln.resolve_left (by simp [ri_sw])
    simp only [ri_ln] at hln
    subst hln
    simp only [ri_stf, st_aastore] at h
    split at h
    · rename_i b0 i0 a0 st0
      split at h
      · rename_i t l ci vs hL hLb
        split at h
        · cases h
        · rename_i hbl
          rw [Bool.or_eq_true, not_or] at hbl
          split at h
          · rename_i ht
            split at h
            · cases h
            · rename_i h0
              rw [Nat.ble_eq] at h0
              split at h
              · rename_i hle
                rw [ri_nth_eq, Option.isSome_iff_exists] at hle
                obtain ⟨z, hz⟩ := hle
                simp only [Option.some.injEq, Prod.mk.injEq] at h
                obtain ⟨rfl, rfl, rfl, rfl⟩ := h
                have hlt := (List.getElem?_eq_some_iff.mp hz).1
                have hq : ∀ G : am_G, ∃ q : vw_C, am_cl[ci]? = some q ∧ (am_tys (am_aC G))[t]? = some (am_aC G t, .object q.1) := by
                  intro G
                  simp only [Bool.or_eq_true, Bool.and_eq_true, Nat.beq_eq] at ht
                  rcases ht with ⟨rfl, rfl⟩ | ⟨rfl, rfl⟩ | ⟨rfl, rfl⟩
                  · exact ⟨_, rfl, rfl⟩
                  · exact ⟨_, rfl, rfl⟩
                  · exact ⟨_, rfl, rfl⟩
                refine ri_wr hL hnx (fun G d mc ms post k n hd1 kk => ?_)
                obtain ⟨q, hq1, hq2⟩ := hq G
                refine am_stc (st2 := .ref b0 :: .int (nI i0) :: .ref a0 :: st0) rfl (am_aast hd hq2 hq1 (ri_lt hbl.1) (ri_h_at hL) (ri_lt hbl.2) (ri_h_at hLb) (ri_in2 hlt (by omega)) ?_)
                simp only [ri_e, ri_va, ri_upd_eq, List.length_set, ri_fu_q l _ hlt] at kk
                rw [nI_clamp (by omega)]
                exact kk
              · cases h
          · cases h
      · cases h
    · cases h
  case arraylength  =>
    replace hnx := hnx.resolve_left (by simp [ri_end])
    replace hln := hln.resolve_left (by simp [ri_sw])
    simp only [ri_ln] at hln
    subst hln
    simp only [ri_stf, st_arraylength] at h
    split at h
    · split at h
      · rename_i l hL
        split at h
        · cases h
        · rename_i hbl
          rw [ri_fn_eq] at h
          simp only [Option.some.injEq, Prod.mk.injEq] at h
          obtain ⟨rfl, rfl, rfl, rfl⟩ := h
          exact ri_simple hnx (fun G hE d mc ms post k n hd1 hk9 hn9 kk => am_alen (t := 0) hd (by decide) (ri_lt hbl) (ri_h_at hL) (am_stc rfl kk))
      · cases h
    · split at h
      · rename_i hb
        subst hb
        simp only [Option.some.injEq, Prod.mk.injEq] at h
        obtain ⟨rfl, rfl, rfl, rfl⟩ := h
        exact ri_simple hnx (fun G hE d mc ms post k n hd1 hk9 hn9 kk => am_plen hd (am_stc rfl kk))
      · cases h
    · cases h
  case getstatic idx =>
    replace hnx := hnx.resolve_left (by simp [ri_end])
    replace hln := hln.resolve_left (by simp [ri_sw])
    simp only [ri_ln] at hln
    subst hln
    simp only [ri_stf, st_getstatic] at h
    simp only [Option.some.injEq, Prod.mk.injEq] at h
    obtain ⟨rfl, rfl, rfl, rfl⟩ := h
    exact ri_simple hnx (fun G hE d mc ms post k n hd1 hk9 hn9 kk => am_gets hd (ri_lw_in hr1) kk)
  case new idx =>
    replace hnx := hnx.resolve_left (by simp [ri_end])
    replace hln := hln.resolve_left (by simp [ri_sw])
    simp only [ri_ln] at hln
    subst hln
    simp only [ri_rok1] at hr1
    simp only [ri_stf, st_new] at h
    split at h
    · rename_i hg
      simp only [ri_fn_eq] at h
      simp only [Option.some.injEq, Prod.mk.injEq] at h
      obtain ⟨rfl, rfl, rfl, rfl⟩ := h
      split at hr1
      · rename_i q hq
        have hi := am_inst hq
        rw [ri_df_len, hi.2.2]
        refine ri_psh hg hnx (fun G d mc ms post k n hd1 h3 h4 kk => am_new hd hq (ri_lw_in hr1) hi.1 hi.2.1 h3 h4 (am_hc (fun j => ?_) kk))
        simp only [va_up]
        split
        · show Sum.inr (a, (am_df a).map (am_cv G)) = Sum.inr (a, (ri_df a).map (am_cv G))
          rw [ri_df_ce]
        · rfl
      · cases hr1
    · cases h
  case newarray aty =>
    cases aty <;> (try (cases h; done))
    · replace hnx := hnx.resolve_left (by simp [ri_end])
      replace hln := hln.resolve_left (by simp [ri_sw])
      simp only [ri_ln] at hln
      subst hln
      simp only [ri_stf, st_newi] at h
      split at h
      · rename_i x st0
        split at h
        · rename_i h1
          rw [Bool.and_eq_true, Nat.ble_eq] at h1
          simp only [ri_fn_eq] at h
          simp only [Option.some.injEq, Prod.mk.injEq] at h
          obtain ⟨rfl, rfl, rfl, rfl⟩ := h
          refine ri_psh h1.2 hnx (fun G d mc ms post k n hd1 h3 h4 kk => am_stc (st2 := .int (nI x) :: st0) rfl (am_newi hd am_arrI (nI_pos (by omega)) (nI_clamp (by omega)) (by omega) h3 h4 ?_))
          simp only [ri_e, ri_va, List.length_replicate, ri_rep_i] at kk
          exact kk
        · cases h
      · cases h
    · replace hnx := hnx.resolve_left (by simp [ri_end])
      replace hln := hln.resolve_left (by simp [ri_sw])
      simp only [ri_ln] at hln
      subst hln
      simp only [ri_stf, st_newl] at h
      split at h
      · rename_i x st0
        split at h
        · rename_i h1
          rw [Bool.and_eq_true, Nat.ble_eq] at h1
          simp only [ri_fn_eq] at h
          simp only [Option.some.injEq, Prod.mk.injEq] at h
          obtain ⟨rfl, rfl, rfl, rfl⟩ := h
          refine ri_psh h1.2 hnx (fun G d mc ms post k n hd1 h3 h4 kk => am_stc (st2 := .int (nI x) :: st0) rfl (am_newl hd am_arrL (nI_pos (by omega)) (nI_clamp (by omega)) (by omega) h3 h4 ?_))
          simp only [ri_e, ri_va, List.length_replicate, ri_rep_l] at kk
          exact kk
        · cases h
      · cases h
  case anewarray idx =>
    replace hnx := hnx.resolve_left (by simp [ri_end])
    replace hln := hln.resolve_left (by simp [ri_sw])
    simp only [ri_ln] at hln
    subst hln
    simp only [ri_rok1] at hr1
    simp only [ri_stf, st_newq] at h
    split at h
    · rename_i x st0
      split at h
      · rename_i h1
        rw [Bool.and_eq_true, Nat.ble_eq] at h1
        simp only [ri_fn_eq] at h
        simp only [Option.some.injEq, Prod.mk.injEq] at h
        obtain ⟨rfl, rfl, rfl, rfl⟩ := h
        have hq : ∀ G : am_G, ∃ C : String, Cond.classLink y.1.cls idx C ∈ am_tbl ∧ (am_tys (am_aC G))[a]? = some (am_aC G a, .object C) := by
          intro G
          split at hr1
          · exact ⟨_, ri_lw_in hr1, rfl⟩
          · exact ⟨_, ri_lw_in hr1, rfl⟩
          · exact ⟨_, ri_lw_in hr1, rfl⟩
          · cases hr1
        refine ri_psh h1.2 hnx (fun G d mc ms post k n hd1 h3 h4 kk => ?_)
        obtain ⟨C, hc1, hc2⟩ := hq G
        refine am_stc (st2 := .int (nI x) :: st0) rfl (am_newq hd hc2 hc1 (nI_pos (by omega)) (nI_clamp (by omega)) (by omega) h3 h4 ?_)
        simp only [ri_e, ri_va, List.length_replicate, ri_rep_q] at kk
        exact kk
      · cases h
    · cases h
end
end
section
noncomputable section
theorem am_iniM : Cond.initialized "java/lang/Math" ∈ am_tbl := by decide +kernel
section
variable {G : am_G} {d : Nat} {y : am_M} {mc ms : Nat} {post : am_T} {k n pc N : Nat} {lv lv' : List (Nat × Value)} {st : List Value} {h : am_H}
theorem am_st_max : Cond.static Lib.Math.max.name ∈ am_tbl := by decide +kernel
theorem am_cd_max : Cond.code Lib.Math.max.name Lib.Math.max.code 2 (some .int) ∈ am_tbl := by decide +kernel
theorem am_mmax {x z : Int32} {idx : Nat} (hd : decode y.2.1 pc = .ok (.invokestatic idx, 3)) (hlk : Cond.methodLink y.1.cls idx Lib.Math.max.name ∈ am_tbl) (hdd : 1 ≤ d) (hk : k ≤ mc) (hn : n ≤ ms) (hrest : (st.map fun v => v.category).sum ≤ 20) (kk : am_A G d y mc ms post k n (pc + 3) lv (.int (if x < z then z else x) :: st) N h) : am_A G d y mc ms post k n pc lv (.int z :: .int x :: st) N h := by
  intro p e s m args below meth c H locs ls X hW hlo hl
  have hx := X.1
  have hb := X.2.1
  have hown := X.2.2.2.2.1
  have hts := X.2.2.2.2.2.1
  have hK := X.2.2.2.2.2.2.2.2
  exact va_mmax hx hb (X.2.2.2.1.trans hl.1.symm) hown (hts _ hlk) (hts _ am_st_max) (hts _ am_iniM) (hts _ am_cd_max) hdd (by
    show ((st.map (am_cv G)).map fun v => v.category).sum + 13 ≤ 100 * d
    rw [am_catS]; omega) hk hn hd (kk p e s m args below meth c H locs ls X hW hlo hl)
theorem am_st_min : Cond.static Lib.Math.min.name ∈ am_tbl := by decide +kernel
theorem am_cd_min : Cond.code Lib.Math.min.name Lib.Math.min.code 2 (some .int) ∈ am_tbl := by decide +kernel
theorem am_mmin {x z : Int32} {idx : Nat} (hd : decode y.2.1 pc = .ok (.invokestatic idx, 3)) (hlk : Cond.methodLink y.1.cls idx Lib.Math.min.name ∈ am_tbl) (hdd : 1 ≤ d) (hk : k ≤ mc) (hn : n ≤ ms) (hrest : (st.map fun v => v.category).sum ≤ 20) (kk : am_A G d y mc ms post k n (pc + 3) lv (.int (if z < x then z else x) :: st) N h) : am_A G d y mc ms post k n pc lv (.int z :: .int x :: st) N h := by
  intro p e s m args below meth c H locs ls X hW hlo hl
  have hx := X.1
  have hb := X.2.1
  have hown := X.2.2.2.2.1
  have hts := X.2.2.2.2.2.1
  have hK := X.2.2.2.2.2.2.2.2
  exact va_mmin hx hb (X.2.2.2.1.trans hl.1.symm) hown (hts _ hlk) (hts _ am_st_min) (hts _ am_iniM) (hts _ am_cd_min) hdd (by
    show ((st.map (am_cv G)).map fun v => v.category).sum + 13 ≤ 100 * d
    rw [am_catS]; omega) hk hn hd (kk p e s m args below meth c H locs ls X hW hlo hl)
theorem am_st_abs : Cond.static Lib.Math.abs.name ∈ am_tbl := by decide +kernel
theorem am_cd_abs : Cond.code Lib.Math.abs.name Lib.Math.abs.code 1 (some .int) ∈ am_tbl := by decide +kernel
theorem am_mabs {x : Int32} {idx : Nat} (hd : decode y.2.1 pc = .ok (.invokestatic idx, 3)) (hlk : Cond.methodLink y.1.cls idx Lib.Math.abs.name ∈ am_tbl) (hdd : 1 ≤ d) (hk : k ≤ mc) (hn : n ≤ ms) (hrest : (st.map fun v => v.category).sum ≤ 20) (kk : am_A G d y mc ms post k n (pc + 3) lv (.int (if 0 ≤ x then x else 0 - x) :: st) N h) : am_A G d y mc ms post k n pc lv (.int x :: st) N h := by
  intro p e s m args below meth c H locs ls X hW hlo hl
  have hx := X.1
  have hb := X.2.1
  have hown := X.2.2.2.2.1
  have hts := X.2.2.2.2.2.1
  have hK := X.2.2.2.2.2.2.2.2
  exact va_mabs hx hb (X.2.2.2.1.trans hl.1.symm) hown (hts _ hlk) (hts _ am_st_abs) (hts _ am_iniM) (hts _ am_cd_abs) hdd (by
    show ((st.map (am_cv G)).map fun v => v.category).sum + 13 ≤ 100 * d
    rw [am_catS]; omega) hk hn hd (kk p e s m args below meth c H locs ls X hW hlo hl)
end
theorem am_natC : Cond.native arraycopyName ∈ am_tbl := by decide +kernel
theorem am_staC : Cond.static arraycopyName ∈ am_tbl := by decide +kernel
theorem am_iniC : Cond.initialized "java/lang/System" ∈ am_tbl := by decide +kernel
theorem am_objI : Cond.instanceMethod objectInit ∈ am_tbl := by decide +kernel
theorem am_objC : Cond.code objectInit ⟨#[0xb1]⟩ 1 none ∈ am_tbl := by decide +kernel
def ri_post (r : Option Value) (L : ri_L) : am_T := fun r' N' h' => r' = r ∧ N' = L.1 ∧ h' = ri_h L
def ri_Cok (E : ri_Env) (M : Nat → ri_mi) (d : Nat) (callee : ri_Cl) : Prop := ∀ j as L r L', callee j as L = some (r, L') → L.1 ≤ L'.1 ∧ L.2.1 ≤ L'.2.1 ∧ ∀ G : am_G, am_Env G E → am_C G d (M j).1 (L'.1 - L.1) (L'.2.1 - L.2.1) as L.1 (ri_h L) (ri_post r L')
theorem ri_drop {α : Type} {l : List α} {i : Nat} {x : α} {t : List α} (h : l.drop i = x :: t) : l[i]? = some x ∧ t = l.drop (i + 1) := by
  refine ⟨?_, ?_⟩
  · have := congrArg (fun l => l[0]?) h
    simpa using this
  · have := congrArg List.tail h
    simpa using this.symm
/-- what a run of a rest of a method says -/
def ri_Gok (E : ri_Env) (y : am_M) (tb : List ri_row) (d i : Nat) (lv : List Value) (st : List Value) (L : ri_L) (r : Option Value) (L' : ri_L) : Prop :=
  L.1 ≤ L'.1 ∧ L.2.1 ≤ L'.2.1 ∧ ∀ (G : am_G), am_Env G E → ∀ (mc ms : Nat) (post : am_T) (k n : Nat) (row : ri_row), tb[i]? = some row → k + (L'.1 - L.1) ≤ mc → n + (L'.2.1 - L.2.1) ≤ ms → post r L'.1 (ri_h L') → am_A G (d + 1) y mc ms post k n (ri_pc row) (ri_lv lv) st L.1 (ri_h L)
end
end
section
noncomputable section
theorem ri_go_nil {E : ri_Env} {callee : ri_Cl} {tb : List ri_row} {f : Nat} {lv : List Value} {st : List Value} {L : ri_L} : ri_go E callee tb f [] lv st L = none := by cases f <;> rfl
theorem ri_go_row {E : ri_Env} {callee : ri_Cl} {tb : List ri_row} {f i : Nat} {lv : List Value} {st : List Value} {L : ri_L} {v : Option Value × ri_L} (h : ri_go E callee tb f (tb.drop i) lv st L = some v) : ∃ r, tb[i]? = some r := by
  cases hc : tb.drop i with
  | nil => rw [hc, ri_go_nil] at h; cases h
  | cons x t => exact ⟨x, (ri_drop hc).1⟩
theorem ri_seq {E : ri_Env} {y : am_M} {tb : List ri_row} {d i i2 : Nat} {lv lv1 : List Value} {st st1 : List Value} {L L1 L' : ri_L} {jt : Option Nat} {r : Option Value} {row row2 : ri_row} (hrow : tb[i]? = some row) (h1 : ri_Ok E y (ri_pcs tb) i (ri_pc row) lv st L jt lv1 st1 L1) (hi2 : i2 = jt.getD (i + 1)) (hrow2 : tb[i2]? = some row2) (h2 : ri_Gok E y tb d i2 lv1 st1 L1 r L') : ri_Gok E y tb d i lv st L r L' := by
  obtain ⟨a1, a2, a3⟩ := h1
  obtain ⟨b1, b2, b3⟩ := h2
  refine ⟨Nat.le_trans a1 b1, Nat.le_trans a2 b2, fun G hE mc ms post k n row' hr' hk hn hp => ?_⟩
  cases hrow.symm.trans hr'
  refine a3 G hE (d + 1) mc ms post k n (ri_pc row2) ?_ (Nat.le_add_left 1 d) (by omega) (by omega) (b3 G hE mc ms post _ _ row2 hrow2 (by omega) (by omega) hp)
  subst hi2
  cases jt with
  | none =>
    have h9 : tb[i + 1]? = some row2 := hrow2
    show (tb.map (fun r => ri_pc r))[i + 1]? = some (ri_pc row2)
    rw [List.getElem?_map, h9]
    rfl
  | some t =>
    have h9 : tb[t]? = some row2 := hrow2
    show (tb.map (fun r => ri_pc r))[t]? = some (ri_pc row2)
    rw [List.getElem?_map, h9]
    rfl
theorem ri_isIA_ok {G : am_G} {E : ri_Env} (hE : am_Env G E) {L : ri_L} {v : Value} (h : ri_isIA E L v = true) : ∃ (a : Nat) (l : List Nat), am_cv G v = .ref (am_B G + a) ∧ a < L.1 ∧ ri_get L.2.2 a = some (.inl (0, .inl l)) := by
  unfold ri_isIA at h
  split at h
  · rename_i a
    rw [Bool.and_eq_true] at h
    obtain ⟨h1, h2⟩ := h
    split at h2
    · rename_i l hl
      exact ⟨a, l, rfl, by simp [Nat.blt] at h1; omega, hl⟩
    · cases h2
  · rename_i b
    simp only [Bool.and_eq_true, Nat.ble_eq, List.all_eq_true] at h
    obtain ⟨h1, h2, h3⟩ := h
    obtain ⟨p1, p2⟩ := ri_isC_ok hE h1
    have h4 := h3 _ (List.mem_range.mpr p2)
    split at h4
    · rename_i l hl
      exact ⟨_, l, p1, by omega, hl⟩
    · cases h4
  · cases h
section
variable {E : ri_Env} {callee : ri_Cl} {y : am_M} {tb : List ri_row} {f d i : Nat} {lv : List Value} {st : List Value} {L L' : ri_L} {r : Option Value} {row : ri_row}
theorem ri_go_dflt (hrow : tb[i]? = some row) (hok : ri_rok y (ri_pcs tb) i row = true) (ih : ∀ (i : Nat) (lv : List Value) (st : List Value) (L : ri_L) (r : Option Value) (L' : ri_L), ri_go E callee tb f (tb.drop i) lv st L = some (r, L') → ri_Gok E y tb d i lv st L r L')
    (h : gs_s (ri_stf (ri_ins row)) E callee tb (ri_go E callee tb f) row (tb.drop (i + 1)) lv st L = some (r, L')) : ri_Gok E y tb d i lv st L r L' := by
  unfold gs_s at h
  split at h
  · rename_i lv1 st1 L1 hs
    obtain ⟨row2, hr2⟩ := ri_go_row h
    exact ri_seq hrow (ri_stp_ok hok hs) rfl hr2 (ih _ _ _ _ _ _ h)
  · rename_i t lv1 st1 L1 hs
    rw [ri_drp_eq] at h
    obtain ⟨row2, hr2⟩ := ri_go_row h
    exact ri_seq hrow (ri_stp_ok hok hs) rfl hr2 (ih _ _ _ _ _ _ h)
  · cases h
/-- a call, then the rest -/
theorem ri_go_call {L2 : ri_L} {v : Option Value} {rest : List Value} {row2 : ri_row} (hrow : tb[i]? = some row) (hr2 : tb[i + 1]? = some row2) (a1 : L.1 ≤ L2.1) (a2 : L.2.1 ≤ L2.2.1) (h2 : ri_Gok E y tb d (i + 1) lv (ri_app v rest) L2 r L')
    (kk : ∀ (G : am_G), am_Env G E → ∀ (mc ms : Nat) (post : am_T) (k n : Nat), k + (L2.1 - L.1) ≤ mc → n + (L2.2.1 - L.2.1) ≤ ms → (∀ (r' : Option Value) (N' : Nat) (h' : am_H), ri_post v L2 r' N' h' → am_A G (d + 1) y mc ms post (k + (L2.1 - L.1)) (n + (L2.2.1 - L.2.1)) (ri_pc row2) (ri_lv lv) (r'.toList ++ rest) N' h') → am_A G (d + 1) y mc ms post k n (ri_pc row) (ri_lv lv) st L.1 (ri_h L)) : ri_Gok E y tb d i lv st L r L' := by
  obtain ⟨b1, b2, b3⟩ := h2
  refine ⟨Nat.le_trans a1 b1, Nat.le_trans a2 b2, fun G hE mc ms post k n row' hr' hk hn hp => ?_⟩
  cases hrow.symm.trans hr'
  refine kk G hE mc ms post k n (by omega) (by omega) (fun r' N' h' hq => ?_)
  obtain ⟨rfl, rfl, rfl⟩ := hq
  have e : r'.toList ++ rest = ri_app r' rest := by cases r' <;> rfl
  rw [e]
  exact b3 G hE mc ms post _ _ row2 hr2 (by omega) (by omega) hp
end
set_option maxHeartbeats 8000000 in
theorem ri_go_ok {E : ri_Env} {M : Nat → ri_mi} (hM : ∀ j, ri_okj M j) {d : Nat} {callee : ri_Cl} (hc : ri_Cok E M d callee) (j : Nat) : ∀ (f i : Nat) (lv : List Value) (st : List Value) (L : ri_L) (r : Option Value) (L' : ri_L), ri_go E callee (M j).2.2.2 f ((M j).2.2.2.drop i) lv st L = some (r, L') → ri_Gok E (M j).1 (M j).2.2.2 d i lv st L r L' := by
  intro f
  induction f with
  | zero => intro i lv st L r L' h; cases h
  | succ f ih =>
    intro i lv st L r L' h
    obtain ⟨row, hrow⟩ := ri_go_row h
    have hcur : (M j).2.2.2.drop i = row :: (M j).2.2.2.drop (i + 1) := by
      have hl : i < (M j).2.2.2.length := (List.getElem?_eq_some_iff.mp hrow).1
      rw [List.drop_eq_getElem_cons hl]
      congr 1
      exact (List.getElem?_eq_some_iff.mp hrow).2
    rw [hcur] at h
    obtain ⟨hok, hokI⟩ := (hM j).2.2.2.2.1 i row hrow
    have hok0 := hok
    unfold ri_rok at hok0
    simp only [Bool.and_eq_true, decide_eq_true_eq, Bool.or_eq_true, beq_iff_eq] at hok0
    obtain ⟨hd, -, hnx, hln, hop, hr1⟩ := hok0
    obtain ⟨op, a, b, nn, ts, pc, ins, len, pl⟩ := row
    dsimp only [ri_pc, ri_ins, ri_len, ri_pl] at hd hnx hln hop hr1
    have hop : op = ri_opn ins := by simpa using hop
    subst hop
    replace h : ri_nthD gs_none ri_fns (ri_opn ins) E callee (M j).2.2.2 (ri_go E callee (M j).2.2.2 f) (ri_opn ins, a, b, nn, ts, pc, ins, len, pl) ((M j).2.2.2.drop (i + 1)) lv st L = some (r, L') := h
    cases ins
    case ireturn =>
      replace hln := hln.resolve_left (by simp [ri_sw])
      simp only [ri_ln] at hln
      subst hln
      replace h : gs_ireturn E callee (M j).2.2.2 (ri_go E callee (M j).2.2.2 f) (ri_opn .ireturn, a, b, nn, ts, pc, .ireturn, 1, pl) ((M j).2.2.2.drop (i + 1)) lv st L = some (r, L') := h
      unfold gs_ireturn at h
      split at h
      · rename_i x
        split at h
        · rename_i hb
          simp only [Bool.or_eq_true, Nat.beq_eq, Nat.ble_eq] at hb
          simp only [Option.some.injEq, Prod.mk.injEq] at h
          obtain ⟨rfl, rfl⟩ := h
          refine ⟨Nat.le_refl _, Nat.le_refl _, fun G hE mc ms post k n row' hr' hk hn hp => ?_⟩
          cases hrow.symm.trans hr'
          have hty : ∃ ty, (M j).1.2.2.2 = some ty ∧ narrow ty (.int (nI x)) = .int (nI x) := by
            simp only [ri_rok1] at hr1
            split at hr1
            · rename_i he
              exact ⟨_, he, rfl⟩
            · rename_i he
              have hb1 : b = 1 := by simpa using hr1
              subst hb1
              have hx : x = 0 ∨ x = 1 := by
                rcases hb with hb | hb
                · cases hb
                · omega
              refine ⟨_, he, ?_⟩
              rcases hx with rfl | rfl
              · rfl
              · rfl
            · cases hr1
          obtain ⟨ty, ht1, ht2⟩ := hty
          exact am_iretV rfl hd ht1 ht2 (by omega) (by omega) hp
        · cases h
      · cases h
    case lreturn =>
      replace hln := hln.resolve_left (by simp [ri_sw])
      simp only [ri_ln] at hln
      subst hln
      replace h : gs_lreturn E callee (M j).2.2.2 (ri_go E callee (M j).2.2.2 f) (ri_opn .lreturn, a, b, nn, ts, pc, .lreturn, 1, pl) ((M j).2.2.2.drop (i + 1)) lv st L = some (r, L') := h
      unfold gs_lreturn at h
      split at h
      · simp only [Option.some.injEq, Prod.mk.injEq] at h
        obtain ⟨rfl, rfl⟩ := h
        refine ⟨Nat.le_refl _, Nat.le_refl _, fun G hE mc ms post k n row' hr' hk hn hp => ?_⟩
        cases hrow.symm.trans hr'
        simp only [ri_rok1, decide_eq_true_eq] at hr1
        exact am_lret hd hr1 (by omega) (by omega) hp
      · cases h
    case return_ =>
      replace hln := hln.resolve_left (by simp [ri_sw])
      simp only [ri_ln] at hln
      subst hln
      replace h : gs_return E callee (M j).2.2.2 (ri_go E callee (M j).2.2.2 f) (ri_opn .return_, a, b, nn, ts, pc, .return_, 1, pl) ((M j).2.2.2.drop (i + 1)) lv st L = some (r, L') := h
      unfold gs_return at h
      split at h
      · simp only [Option.some.injEq, Prod.mk.injEq] at h
        obtain ⟨rfl, rfl⟩ := h
        refine ⟨Nat.le_refl _, Nat.le_refl _, fun G hE mc ms post k n row' hr' hk hn hp => ?_⟩
        cases hrow.symm.trans hr'
        simp only [ri_rok1, decide_eq_true_eq] at hr1
        exact am_vret hd hr1 (by omega) (by omega) hp
      · cases h
    case invokevirtual idx =>
      replace hln := hln.resolve_left (by simp [ri_sw])
      simp only [ri_ln] at hln
      subst hln
      replace hnx := hnx.resolve_left (by simp [ri_end])
      have hpc : ∀ row2 : ri_row, (M j).2.2.2[i + 1]? = some row2 → ri_pc row2 = pc + 3 := fun row2 h2 => by
        unfold ri_pcs at hnx
        rw [List.getElem?_map, h2] at hnx
        simpa using hnx
      replace h : gs_virtual E callee (M j).2.2.2 (ri_go E callee (M j).2.2.2 f) (ri_opn (.invokevirtual idx), a, b, nn, ts, pc, (.invokevirtual idx), 3, pl) ((M j).2.2.2.drop (i + 1)) lv st L = some (r, L') := h
      unfold gs_virtual at h
      split at h
      · rename_i as a0 rest hsp
        split at h
        · rename_i ci fs hL
          split at h
          · cases h
          rename_i hbl
          split at h
          · rename_i hcc
            simp only [Bool.and_eq_true, Nat.beq_eq, Nat.ble_eq] at hcc
            split at h
            · rename_i v2 L2 hcal
              obtain ⟨row2, hr2⟩ := ri_go_row h
              obtain ⟨c1, c2, c3⟩ := hc _ _ _ _ _ hcal
              obtain ⟨bs, hb1, hb2, hb3⟩ := ri_spl_ok _ _ _ _ _ hsp
              rw [List.append_nil] at hb1
              subst hb1
              simp only [ri_rokI, ri_ins, ri_pl, Bool.and_eq_true, beq_iff_eq, decide_eq_true_eq, Option.map_eq_some_iff] at hokI
              obtain ⟨hk1, hk0, hk2, q, hq1, hq2⟩ := hokI
              obtain ⟨w1, w2⟩ := (hM a).2.2.1 hk1
              refine ri_go_call hrow hr2 c1 c2 (ih _ _ _ _ _ _ h) (fun G hE mc ms post k n g1 g2 g3 => ?_)
              rw [hpc row2 hr2] at g3
              exact am_callV hd (hM a).1 (ri_lw_in hk2) w1 w2 (by rw [hcc.1]; exact hq1) hq2 (ri_lt hbl) (ri_h_at hL) hb2 (by rw [hk0]; exact hb3) (Nat.le_trans (ri_cnt_cat rest) (by omega)) (Nat.le_refl _) g1 g2 (c3 G hE) g3
            · cases h
          · cases h
        · cases h
      · rename_i as b0 rest hsp
        split at h
        · rename_i hcc
          simp only [Bool.and_eq_true, Nat.beq_eq, Nat.ble_eq, Option.isSome_iff_exists] at hcc
          obtain ⟨hb1, hb2, ⟨x, hpx⟩, hrest⟩ := hcc
          subst hb2
          split at h
          · rename_i v2 L2 hcal
            obtain ⟨row2, hr2⟩ := ri_go_row h
            obtain ⟨c1, c2, c3⟩ := hc _ _ _ _ _ hcal
            obtain ⟨bs, hs1, hs2, hs3⟩ := ri_spl_ok _ _ _ _ _ hsp
            rw [List.append_nil] at hs1
            subst hs1
            obtain ⟨hN, hcell⟩ := ri_pall_ok (ri_pcell_ok hpx)
            simp only [ri_rokI, ri_ins, ri_pl, Bool.and_eq_true, beq_iff_eq, decide_eq_true_eq, Option.map_eq_some_iff] at hokI
            obtain ⟨hk1, hk0, hk2, q, hq1, hq2⟩ := hokI
            obtain ⟨w1, w2⟩ := (hM a).2.2.1 hk1
            refine ri_go_call hrow hr2 c1 c2 (ih _ _ _ _ _ _ h) (fun G hE mc ms post k n g1 g2 g3 => ?_)
            rw [hpc row2 hr2] at g3
            obtain ⟨p1, p2, p3, p4⟩ := ri_isP_ok hE hb1
            have hmap : (Value.float b0 :: as).map (am_cv G) = (Value.ref (90 + 2 * am_px G (b0.toNat - 2000)) :: as).map (am_cv G) := by
              simp only [List.map_cons, p1]
              rfl
            refine am_stc (st2 := as.reverse ++ .ref (90 + 2 * am_px G (b0.toNat - 2000)) :: rest) (by
              rw [hs2, List.map_append, List.map_append, List.map_cons, List.map_cons, p1]
              rfl) (am_callV hd (hM a).1 (ri_lw_in hk2) w1 w2 hq1 hq2 (by omega) (ri_h_at (hcell _ p2)) rfl (by rw [hk0]; exact hs3) (Nat.le_trans (ri_cnt_cat rest) (by omega)) (Nat.le_refl _) g1 g2 ?_ g3)
            have h8 := c3 G hE
            unfold am_C am_P at h8 ⊢
            rw [← hmap]
            exact h8
          · cases h
        · cases h
      · cases h
    case invokestatic idx =>
      replace hln := hln.resolve_left (by simp [ri_sw])
      simp only [ri_ln] at hln
      subst hln
      replace hnx := hnx.resolve_left (by simp [ri_end])
      have hpc : ∀ row2 : ri_row, (M j).2.2.2[i + 1]? = some row2 → ri_pc row2 = pc + 3 := fun row2 h2 => by
        unfold ri_pcs at hnx
        rw [List.getElem?_map, h2] at hnx
        simpa using hnx
      replace h : gs_static E callee (M j).2.2.2 (ri_go E callee (M j).2.2.2 f) (ri_opn (.invokestatic idx), a, b, nn, ts, pc, (.invokestatic idx), 3, pl) ((M j).2.2.2.drop (i + 1)) lv st L = some (r, L') := h
      unfold gs_static at h
      simp only [ri_rokI, ri_ins, ri_pl] at hokI
      split at h
      · rename_i hb2
        rw [if_pos hb2] at hokI
        split at h
        · rename_i st1 L1 hcp
          obtain ⟨row2, hr2⟩ := ri_go_row h
          unfold ri_copy at hcp
          split at hcp
          · rename_i x dp b0 sp a0 st0
            split at hcp
            · rename_i l1 l2 hL1 hL2
              split at hcp
              · cases hcp
              rename_i hbl
              rw [Bool.or_eq_true, not_or] at hbl
              split at hcp
              · cases hcp
              · rename_i hneg
                simp only [Bool.or_eq_true, Nat.ble_eq, not_or] at hneg
                split at hcp
                · rename_i hcc
                  simp only [Bool.and_eq_true, Nat.ble_eq, ri_le_iff] at hcc
                  simp only [Option.some.injEq, Prod.mk.injEq] at hcp
                  obtain ⟨rfl, rfl⟩ := hcp
                  rw [ri_drp_eq, ri_cpf_eq dp x _ l2 (by simp; omega) hcc.2.1] at h
                  refine ri_seq (jt := none) hrow (ri_wr hL2 hnx (fun G d' mc ms post k n hd1 kk => am_stc (st2 := .int (nI x) :: .int (nI dp) :: .ref b0 :: .int (nI sp) :: .ref a0 :: st0) rfl (am_copy hd (ri_lw_in hokI) am_natC am_staC am_iniC (ri_lt hbl.1) (ri_h_at hL1) (ri_lt hbl.2) (ri_h_at hL2) (nI_pos (by omega)) (nI_pos (by omega)) (nI_pos (by omega)) (by rw [nI_clamp (by omega), nI_clamp (by omega)]; exact hcc.1) (by rw [nI_clamp (by omega), nI_clamp (by omega)]; exact hcc.2.1) hd1 (Nat.le_trans (ri_cnt_cat st0) (by omega)) ?_))) rfl hr2 (ih _ _ _ _ _ _ h)
                  simp only [ri_e, ri_va, ri_cpy_len hcc.1 hcc.2.1, ri_cpy_eq hcc.1 hcc.2.1] at kk
                  rw [nI_clamp (by omega), nI_clamp (by omega), nI_clamp (by omega)]
                  exact kk
                · cases hcp
            · cases hcp
          · cases hcp
        · split at h
          · rename_i st1 L1 hcp
            obtain ⟨row2, hr2⟩ := ri_go_row h
            unfold ri_copy0 at hcp
            split at hcp
            · rename_i x dp v2 sp v1 st0 hnone
              split at hcp
              · rename_i hcc
                simp only [Bool.and_eq_true, Nat.beq_eq, Nat.ble_eq] at hcc
                obtain ⟨e1, e2, e3, i1, i2, hcn⟩ := hcc
                subst e1
                subst e2
                subst e3
                simp only [Option.some.injEq, Prod.mk.injEq] at hcp
                obtain ⟨rfl, rfl⟩ := hcp
                refine ri_seq (jt := none) hrow (ri_simple hnx (fun G hE d' mc ms post k n hd1 hk hn kk => ?_)) rfl hr2 (ih _ _ _ _ _ _ h)
                obtain ⟨a1, l1, f1, f2, f3⟩ := ri_isIA_ok hE i1
                obtain ⟨a2, l2, f4, f5, f6⟩ := ri_isIA_ok hE i2
                refine am_stc (st2 := .int 0 :: .int 0 :: .ref a2 :: .int 0 :: .ref a1 :: st0) (by simp only [List.map_cons, f1, f4]; rfl) (am_copy hd (ri_lw_in hokI) am_natC am_staC am_iniC f2 (ri_h_at f3) f5 (ri_h_at f6) (by decide) (by decide) (by decide) (Nat.zero_le _) (Nat.zero_le _) hd1 (Nat.le_trans (ri_cnt_cat st0) (by omega)) ?_)
                have e9 : va_cpy (fun j => nI (l1.getD j 0)) (fun j => nI (l2.getD j 0)) 0 0 0 = (fun j => nI (l2.getD j 0)) := by
                  funext j
                  simp [va_cpy]
                have e10 : va_up (ri_h L) a2 (.inl (0, l2.length, .inl (va_cpy (fun j => nI (l1.getD j 0)) (fun j => nI (l2.getD j 0)) 0 0 0))) = ri_h L := by
                  rw [e9]
                  exact va_up_same (ri_h_at f6)
                show am_A G d' _ mc ms post k n _ _ _ _ (va_up (ri_h L) a2 (.inl (0, l2.length, .inl (va_cpy (fun j => nI (l1.getD j 0)) (fun j => nI (l2.getD j 0)) 0 0 0))))
                rw [e10]
                exact kk
              · cases hcp
            · cases hcp
          · cases h
      · rename_i hb2
        rw [if_neg hb2] at hokI
        split at h
        · rename_i hb3
          rw [if_pos hb3] at hokI
          split at h
          · rename_i x st1 hm
            split at h
            · rename_i hcc
              rw [Nat.ble_eq] at hcc
              have hcc : (st1.map fun v => v.category).sum ≤ 20 := Nat.le_trans (ri_cnt_cat st1) (by omega)
              rw [ri_fn_eq] at h
              obtain ⟨row2, hr2⟩ := ri_go_row h
              refine ri_seq (jt := none) hrow (ri_simple hnx (fun G hE d' mc ms post k n hd1 hk hn kk => ?_)) rfl hr2 (ih _ _ _ _ _ _ h)
              unfold ri_mth at hm
              split at hm
              · rename_i z st2
                split at hm
                · rename_i hb
                  rw [if_pos hb] at hokI
                  simp only [Option.some.injEq, Prod.mk.injEq] at hm
                  obtain ⟨hm1, rfl⟩ := hm
                  refine am_stc (st2 := .int (nI z) :: st2) rfl (am_mabs hd (ri_lw_in hokI) hd1 hk hn hcc (am_stc (st2 := .retAddr x :: st2) ?_ kk))
                  rw [List.map_cons, List.map_cons, ← hm1]
                  refine congrArg (fun v => v :: _) (congrArg Value.int ?_)
                  have hsg := nI_toIntb z
                  unfold ri_sg at hsg
                  by_cases hz : z % 4294967296 < 2147483648
                  · rw [if_pos hz] at hsg
                    rw [if_pos (by rw [Int32.le_iff_toInt_le, hsg]; show (0 : Int) ≤ _; omega), if_pos (by simp [Nat.blt]; omega)]
                  · rw [if_neg hz] at hsg
                    have hm4 : z % 4294967296 < 4294967296 := Nat.mod_lt _ (by decide)
                    rw [if_neg (by rw [Int32.le_iff_toInt_le, hsg]; show ¬ (0 : Int) ≤ _; omega), if_neg (by simp [Nat.blt]; omega), ← nI_neg]
                    simp
                · rename_i hb
                  rw [if_neg hb] at hokI
                  split at hm
                  · rename_i x0 st3
                    split at hm
                    · rename_i hb
                      rw [if_pos hb] at hokI
                      simp only [Option.some.injEq, Prod.mk.injEq] at hm
                      obtain ⟨hm1, rfl⟩ := hm
                      refine am_stc (st2 := .int (nI z) :: .int (nI x0) :: st3) rfl (am_mmax hd (ri_lw_in hokI) hd1 hk hn hcc (am_stc (st2 := .retAddr x :: st3) ?_ kk))
                      rw [List.map_cons, List.map_cons, ← hm1]
                      refine congrArg (fun v => v :: _) (congrArg Value.int ?_)
                      by_cases hlt : nI x0 < nI z
                      · rw [if_pos hlt, if_pos ((ri_cmpn_ok .lt x0 z).mpr hlt)]
                      · rw [if_neg hlt, if_neg (fun q => hlt ((ri_cmpn_ok .lt x0 z).mp q))]
                    · rename_i hb
                      rw [if_neg hb] at hokI
                      split at hm
                      · rename_i hb
                        rw [if_pos hb] at hokI
                        simp only [Option.some.injEq, Prod.mk.injEq] at hm
                        obtain ⟨hm1, rfl⟩ := hm
                        refine am_stc (st2 := .int (nI z) :: .int (nI x0) :: st3) rfl (am_mmin hd (ri_lw_in hokI) hd1 hk hn hcc (am_stc (st2 := .retAddr x :: st3) ?_ kk))
                        rw [List.map_cons, List.map_cons, ← hm1]
                        refine congrArg (fun v => v :: _) (congrArg Value.int ?_)
                        by_cases hlt : nI z < nI x0
                        · rw [if_pos hlt, if_pos ((ri_cmpn_ok .lt z x0).mpr hlt)]
                        · rw [if_neg hlt, if_neg (fun q => hlt ((ri_cmpn_ok .lt z x0).mp q))]
                      · cases hm
                  · cases hm
              · cases hm
            · cases h
          · cases h
        · rename_i hb3
          rw [if_neg hb3] at hokI
          split at h
          · rename_i as rest hsp
            split at h
            · rename_i hcc
              rw [Nat.ble_eq] at hcc
              split at h
              · rename_i v2 L2 hcal
                obtain ⟨row2, hr2⟩ := ri_go_row h
                obtain ⟨c1, c2, c3⟩ := hc _ _ _ _ _ hcal
                obtain ⟨bs, hb1, hb2, hb4⟩ := ri_spl_ok _ _ _ _ _ hsp
                rw [List.append_nil] at hb1
                subst hb1
                simp only [Bool.and_eq_true, beq_iff_eq] at hokI
                refine ri_go_call hrow hr2 c1 c2 (ih _ _ _ _ _ _ h) (fun G hE mc ms post k n g1 g2 g3 => ?_)
                rw [hpc row2 hr2] at g3
                exact am_callS hd (hM a).1 (ri_lw_in hokI.2.2) ((hM a).2.1 hokI.1) hb2 (by rw [hokI.2.1]; exact hb4) (Nat.le_trans (ri_cnt_cat rest) (by omega)) (Nat.le_refl _) g1 g2 (c3 G hE) g3
              · cases h
            · cases h
          · cases h
    case invokespecial idx =>
      replace hln := hln.resolve_left (by simp [ri_sw])
      simp only [ri_ln] at hln
      subst hln
      replace hnx := hnx.resolve_left (by simp [ri_end])
      have hpc : ∀ row2 : ri_row, (M j).2.2.2[i + 1]? = some row2 → ri_pc row2 = pc + 3 := fun row2 h2 => by
        unfold ri_pcs at hnx
        rw [List.getElem?_map, h2] at hnx
        simpa using hnx
      replace h : gs_special E callee (M j).2.2.2 (ri_go E callee (M j).2.2.2 f) (ri_opn (.invokespecial idx), a, b, nn, ts, pc, (.invokespecial idx), 3, pl) ((M j).2.2.2.drop (i + 1)) lv st L = some (r, L') := h
      unfold gs_special at h
      simp only [ri_rokI, ri_ins, ri_pl] at hokI
      split at h
      · rename_i hb2
        rw [if_pos hb2] at hokI
        split at h
        · rename_i a0 st0
          split at h
          · rename_i hcc
            rw [Nat.ble_eq] at hcc
            obtain ⟨row2, hr2⟩ := ri_go_row h
            exact ri_seq (jt := none) hrow (ri_simple hnx (fun G hE d' mc ms post k n hd1 hk9 hn9 kk => am_obj hd (ri_lw_in hokI) am_objI am_objC (Nat.le_trans (ri_cnt_cat st0) (by omega)) hd1 kk)) rfl hr2 (ih _ _ _ _ _ _ h)
          · cases h
        · cases h
      · rename_i hb2
        rw [if_neg hb2] at hokI
        split at h
        · rename_i as a0 rest hsp
          split at h
          · rename_i hcc
            rw [Nat.ble_eq] at hcc
            split at h
            · rename_i v2 L2 hcal
              obtain ⟨row2, hr2⟩ := ri_go_row h
              obtain ⟨c1, c2, c3⟩ := hc _ _ _ _ _ hcal
              obtain ⟨bs, hb1, hb2, hb4⟩ := ri_spl_ok _ _ _ _ _ hsp
              rw [List.append_nil] at hb1
              subst hb1
              simp only [Bool.and_eq_true, beq_iff_eq] at hokI
              obtain ⟨w1, w2, w3⟩ := (hM a).2.2.2.1 hokI.1
              refine ri_go_call hrow hr2 c1 c2 (ih _ _ _ _ _ _ h) (fun G hE mc ms post k n g1 g2 g3 => ?_)
              rw [hpc row2 hr2] at g3
              exact am_callI hd (hM a).1 (ri_lw_in hokI.2.2) w1 w2 w3 hb2 (by rw [hokI.2.1]; exact hb4) (Nat.le_trans (ri_cnt_cat rest) (by omega)) (Nat.le_refl _) g1 g2 (c3 G hE) g3
            · cases h
          · cases h
        · cases h
    case if_icmp c off => cases c <;> exact ri_go_dflt hrow hok ih h
    case ifCond c off => cases c <;> exact ri_go_dflt hrow hok ih h
    case newarray aty => cases aty <;> first | exact ri_go_dflt hrow hok ih h | (cases h; done)
    all_goals first | exact ri_go_dflt hrow hok ih h | (cases h; done)
theorem ri_ls_mem : ∀ (as : List Value) (i off : Nat) (v : Value), (ri_ls as)[i]? = some v → v ≠ .null → (i + off, v) ∈ lv_args off as
  | [], i, off, v, h, _ => by simp [ri_ls] at h
  | w :: t, i, off, v, h, hn => by
    have h : (if ri_c2 w then w :: Value.null :: ri_ls t else w :: ri_ls t)[i]? = some v := h
    unfold lv_args
    rw [List.mem_cons]
    by_cases hc : ri_c2 w = true
    · rw [if_pos hc] at h
      rw [if_pos ((ri_c2_cat w).mp hc)]
      match i, h with
      | 0, h =>
        left
        simp at h
        rw [h, Nat.zero_add]
      | 1, h =>
        simp at h
        exact absurd h.symm hn
      | i + 2, h =>
        right
        simp at h
        have := ri_ls_mem t i (off + 2) v h hn
        rwa [show i + 2 + off = i + (off + 2) by omega]
    · rw [if_neg hc] at h
      rw [if_neg (fun e => hc ((ri_c2_cat w).mpr e))]
      match i, h with
      | 0, h =>
        left
        simp at h
        rw [h, Nat.zero_add]
      | i + 1, h =>
        right
        simp at h
        have := ri_ls_mem t i (off + 1) v h hn
        rwa [show i + 1 + off = i + (off + 1) by omega]
theorem ri_ls_len : ∀ (as : List Value), (ri_ls as).length = (lg_sl as).length
  | [] => rfl
  | w :: t => by
    have ih := ri_ls_len t
    have e : ri_ls (w :: t) = if ri_c2 w then w :: Value.null :: ri_ls t else w :: ri_ls t := rfl
    rw [e]
    simp only [lg_sl] at ih ⊢
    rw [List.flatMap_cons, List.length_append, ← ih]
    by_cases hc : ri_c2 w = true
    · rw [if_pos hc, if_pos ((ri_c2_cat w).mp hc)]
      simp
      omega
    · rw [if_neg hc, if_neg (fun e => hc ((ri_c2_cat w).mpr e))]
      simp
      omega
theorem ri_ls_sub (as : List Value) (n : Nat) : ∀ q ∈ ri_lv (ri_ls as ++ List.replicate n .null), q ∈ lv_args 0 as := by
  rintro ⟨i, v⟩ hq
  rw [ri_lv_mem] at hq
  obtain ⟨h1, h2⟩ := hq
  by_cases hi : i < (ri_ls as).length
  · rw [List.getElem?_append_left hi] at h1
    have := ri_ls_mem as i 0 v h1 h2
    rwa [Nat.add_zero] at this
  · rw [List.getElem?_append_right (by omega), List.getElem?_replicate] at h1
    split at h1
    · cases h1; exact absurd rfl h2
    · cases h1
theorem ri_D_ok {E : ri_Env} {M : Nat → ri_mi} (hM : ∀ j, ri_okj M j) (F : Nat) : ∀ d, ri_Cok E M d (ri_D E M F d) := by
  intro d
  induction d with
  | zero => intro j as L r L' h; cases h
  | succ d ih =>
    intro j as L r L' h
    have h : (if Nat.ble (ri_ls as).length (M j).1.2.2.1 then ri_go E (ri_D E M F d) (M j).2.2.2 F (M j).2.2.2 (ri_ls as ++ List.replicate ((M j).1.2.2.1 - (ri_ls as).length) .null) [] L else none) = some (r, L') := h
    split at h
    · rename_i hl
      rw [Nat.ble_eq] at hl
      have h0 : ri_go E (ri_D E M F d) (M j).2.2.2 F ((M j).2.2.2.drop 0) (ri_ls as ++ List.replicate ((M j).1.2.2.1 - (ri_ls as).length) .null) [] L = some (r, L') := h
      obtain ⟨row, hrow⟩ := ri_go_row h0
      obtain ⟨b1, b2, b3⟩ := ri_go_ok hM ih j F 0 _ _ _ _ _ h0
      refine ⟨b1, b2, fun G hE => am_ofA (hM j).1 (by rw [← ri_ls_len]; exact hl) (am_lvs (ri_ls_sub as ((M j).1.2.2.1 - (ri_ls as).length)) ?_)⟩
      have h5 := b3 G hE (L'.1 - L.1) (L'.2.1 - L.2.1) (ri_post r L') 0 0 row hrow (by omega) (by omega) ⟨rfl, rfl, rfl⟩
      have h6 := (hM j).2.2.2.2.2
      unfold ri_pcs at h6
      rw [List.getElem?_map, hrow] at h6
      have h7 : ri_pc row = 0 := by simpa using h6
      rw [h7] at h5
      exact h5
    · cases h
end
end
section
noncomputable section
/-! ===== the law: calls over W, with the abstract machine's contracts ===== -/
section
variable {G : am_G} {p : Program} {e : Env} {R : Room} {s : State} {m : MethodId} {args : Array Value} {below : List Frame} {meth : Method} {c : Code} {H : Heap} {locs : List Loc} {ls : Array Slot} {k n pc nL N : Nat} {h : am_H} {Q : State → Prop} {cc : ByteArray} {own : String}
/-- behind a call -/
theorem gw_after {a0 : Array Value} {st0 rest : List Value} {mc2 ms2 : Nat} {post2 : am_T}
    (hr : va_Run p G.1 e R s m args below meth c H locs k n mc2 ms2 (F0 m pc ls st0) rest (am_Q G post2 a0) (fun q => am_B G ≤ q)) (hlo : ∀ q ∈ locs, am_B G ≤ q.base)
    (kk : ∀ (r : Option Value) (N' : Nat) (h' : am_H) (H' : Heap) (locs' : List Loc), post2 r N' h' → am_W G N' h' H' → (∀ q ∈ locs', am_B G ≤ q.base) → W p G.1 e R s m args below meth c H' locs' (k + mc2) (n + ms2) Q (F0 m (pc + 3) ls ((r.map (am_cv G)).toList ++ rest))) :
    W p G.1 e R s m args below meth c H locs k n Q (F0 m pc ls st0) := by
  intro T hT Xs
  obtain ⟨v, st₀, t, T', L, h0, X', hL, e1, e2, ⟨r, N', h', hv, hp, hw⟩, stp⟩ := hr T hT Xs
  have hv2 : v = r.map (am_cv G) := by cases hv; rfl
  subst hv2
  obtain ⟨t2, a1, b1⟩ := kk r N' h' T'.heap (locs ++ L) hp (by rw [e1]; exact hw) (fun q hq => by
    rcases List.mem_append.mp hq with h | h
    · exact hlo q h
    · exact hL q h) T' rfl X'
  exact ⟨t2, stp t2 a1, b1⟩
theorem gw_callB {y2 : am_M} {n2 d2 mc2 ms2 idx : Nat} (hts : ∀ w ∈ am_tbl, w.before args s = true) (ok : am_okM y2 n2) (hlk : Cond.methodLink own idx y2.1 ∈ am_tbl) (hd2 : d2 + 1 ≤ R.frames) (hd3 : 100 * d2 + 80 ≤ R.locals) : CallB R s args own idx y2.1 y2.2.1 y2.2.2.1 y2.2.2.2 (am_wy y2) (am_R d2 mc2 ms2) mc2 ms2 n2 :=
  callB_of n2 hts (am_goody ok.2.1) rfl rfl rfl (hts _ ok.2.2.1) (hts _ hlk) ok.2.2.2.1 ⟨hd2, by have := ok.2.2.2.2; show 8 + (y2.2.2.1 + 11) + 100 * d2 ≤ R.locals; omega⟩
theorem gw_callV {y2 : am_M} {n2 d2 mc2 ms2 idx a ci : Nat} {q : vw_C} {fs as rest : List Value} {post2 : am_T} (hx : p.tables.exec = Jvm.exec) (hb : c.code = cc) (hml : c.maxLocals = nL) (hown : s.vm.findClass own = some m.cls) (hts : ∀ w ∈ am_tbl, w.before args s = true) (hK : am_K G s) (hW : am_W G N h H) (hlo : ∀ q ∈ locs, am_B G ≤ q.base) (hls : ls.size = nL)
    (hd : decode cc pc = .ok (.invokevirtual idx, 3)) (ok : am_okM y2 n2) (hlk : Cond.methodLink own idx y2.1 ∈ am_tbl) (hin : Cond.instanceMethod y2.1 ∈ am_tbl) (hsel : Cond.selects y2.1.cls y2.1 y2.1 ∈ am_tbl) (hc : am_cl[ci]? = some q) (hcq : q.1 = y2.1.cls) (ha : a < N) (hr : h a = .inr (ci, fs)) (hn2 : as.length = n2) (hrest : (rest.map fun v => v.category).sum ≤ 8) (hd2 : d2 + 1 ≤ R.frames) (hd3 : 100 * d2 + 80 ≤ R.locals) (hk : k + mc2 ≤ R.cells) (hn : n + ms2 ≤ R.slots)
    (hC : am_C G d2 y2 mc2 ms2 (.ref a :: as) N h post2) {st0 : List Value} (hst : st0 = (as.map (am_cv G)).reverse ++ .ref (am_B G + a) :: rest)
    (kk : ∀ (r : Option Value) (N' : Nat) (h' : am_H) (H' : Heap) (locs' : List Loc), post2 r N' h' → am_W G N' h' H' → (∀ q ∈ locs', am_B G ≤ q.base) → W p G.1 e R s m args below meth c H' locs' (k + mc2) (n + ms2) Q (F0 m (pc + 3) ls ((r.map (am_cv G)).toList ++ rest))) :
    W p G.1 e R s m args below meth c H locs k n Q (F0 m pc ls st0) := by
  subst hst
  refine gw_after (va_runV (C := y2.1.cls) (b := am_B G + a) (As := as.map (am_cv G)) ⟨hx, hb, hml, hown, hts⟩ hC ⟨gw_callB hts ok hlk hd2 hd3, hts _ hin, hts _ hsel⟩ ⟨am_blind G N h _, ?_, fun U hU hWm => ⟨rfl, by rw [hU]; exact hW, am_K.moved hWm.alike hK⟩⟩ rfl (by simpa using hn2) hls rfl (lv_room hrest) hd ⟨hk, hn⟩) hlo kk
  have := va_recv hK.1 hW.2.2 hc (am_wsr ha hr)
  rw [hcq] at this
  exact this
theorem gw_callI {y2 : am_M} {n2 d2 mc2 ms2 idx a : Nat} {as rest : List Value} {post2 : am_T} (hx : p.tables.exec = Jvm.exec) (hb : c.code = cc) (hml : c.maxLocals = nL) (hown : s.vm.findClass own = some m.cls) (hts : ∀ w ∈ am_tbl, w.before args s = true) (hK : am_K G s) (hW : am_W G N h H) (hlo : ∀ q ∈ locs, am_B G ≤ q.base) (hls : ls.size = nL)
    (hd : decode cc pc = .ok (.invokespecial idx, 3)) (ok : am_okM y2 n2) (hlk : Cond.methodLink own idx y2.1 ∈ am_tbl) (hin : Cond.instanceMethod y2.1 ∈ am_tbl) (hy1 : y2.1.name = "<init>") (hret : y2.2.2.2 = none) (hn2 : as.length = n2) (hrest : (rest.map fun v => v.category).sum ≤ 8) (hd2 : d2 + 1 ≤ R.frames) (hd3 : 100 * d2 + 80 ≤ R.locals) (hk : k + mc2 ≤ R.cells) (hn : n + ms2 ≤ R.slots)
    (hC : am_C G d2 y2 mc2 ms2 (.ref a :: as) N h post2) {st0 : List Value} (hst : st0 = (as.map (am_cv G)).reverse ++ .ref (am_B G + a) :: rest)
    (kk : ∀ (r : Option Value) (N' : Nat) (h' : am_H) (H' : Heap) (locs' : List Loc), post2 r N' h' → am_W G N' h' H' → (∀ q ∈ locs', am_B G ≤ q.base) → W p G.1 e R s m args below meth c H' locs' (k + mc2) (n + ms2) Q (F0 m (pc + 3) ls ((r.map (am_cv G)).toList ++ rest))) :
    W p G.1 e R s m args below meth c H locs k n Q (F0 m pc ls st0) := by
  subst hst
  obtain ⟨y2n, y2c, y2m, y2r⟩ := y2
  have hret : y2r = none := hret
  subst hret
  exact gw_after (va_runI (b := am_B G + a) (As := as.map (am_cv G)) ⟨hx, hb, hml, hown, hts⟩ hC ⟨gw_callB hts ok hlk hd2 hd3, hy1, hts _ hin⟩ ⟨am_blind G N h _, fun U hU hWm => ⟨rfl, by rw [hU]; exact hW, am_K.moved hWm.alike hK⟩⟩ rfl (by simpa using hn2) hls rfl (lv_room hrest) hd ⟨hk, hn⟩) hlo kk
theorem gw_new {ci idx : Nat} {q : vw_C} {st : List Value} (hx : p.tables.exec = Jvm.exec) (hb : c.code = cc) (hown : s.vm.findClass own = some m.cls) (hts : ∀ w ∈ am_tbl, w.before args s = true) (hK : am_K G s) (hW : am_W G N h H)
    (hd : decode cc pc = .ok (.new idx, 3)) (hc : am_cl[ci]? = some q) (hlk : Cond.classLink own idx q.1 ∈ am_tbl) (hk : k + 1 ≤ R.cells) (hn : n + q.2.2 ≤ R.slots) (kk : ∀ H', am_W G (N + 1) (va_up h N (.inr (ci, am_df ci))) H' → W p G.1 e R s m args below meth c H' locs (k + 1) (n + q.2.2) Q (F0 m (pc + 3) ls (.ref (am_B G + N) :: st))) : W p G.1 e R s m args below meth c H locs k n Q (F0 m pc ls st) := by
  obtain ⟨C, T, M⟩ := q
  obtain ⟨hin0, ⟨ty, hty⟩, -⟩ := am_cls hc
  have hi := am_inst hc
  have hKn := hK.1.1 ci _ hc
  refine W.newcK hx hb hown (hts _ hlk) (hts _ hi.1) (hts _ hi.2.1) rfl hd hk hn hKn.2.1 hW.1 fun H1 kC hkC e1 z1 o1 => ?_
  refine kk H1 (am_W_push hW ?_ (by rw [z1, hW.1]) (fun q hq => o1 q (by rw [← hW.1]; exact hq)))
  refine ⟨_, hc, (u_born ty hts hin0 hKn hkC e1 hty).to (fun j hj => ?_)⟩
  show _ = vp_V ((am_df ci).map (am_cv G)) j
  rw [am_df_cv]
  have h2 := am_df_ok hc j hj
  rw [hty j hj] at h2
  exact Option.some.inj h2
end
end
end
section
noncomputable section
/-! ===== the heap as two tables of whole numbers ===== -/
abbrev gs_F : Type := Nat → Nat → Int
def gs_up (F : gs_F) (a j : Nat) (z : Int) : gs_F := fun b k => if b = a ∧ k = j then z else F b k
def gs_cp (A : gs_F) (a b sp dp n : Nat) : gs_F := fun c k => if c = b ∧ dp ≤ k ∧ k < dp + n then A a (sp + (k - dp)) else A c k
abbrev gs_iv (z : Int) : Value := .int (Int32.ofInt z)
abbrev gs_lv (z : Int) : Value := .long (Int64.ofInt z)
/-- a cell's shape: an object (class, fields: none is an int, some r the cell r); an array of ints (0) or longs (1) and its length; an array of references: kind, length, first, step -/
abbrev gs_S : Type := (Nat × List (Option Nat)) ⊕ (Nat × Nat) ⊕ (Nat × Nat × Nat × Nat)
def gs_shl : List gs_S := [.inl (8, [some 1, some 2, some 3, some 5, some 12, some 15, some 30, some 43, some 48, some 50, some 52, none, none]),
  .inr (.inr (3, 12, 54, 3)),
  .inr (.inr (4, 8, 90, 2)),
  .inl (4, [some 4, none]),
  .inr (.inl (0, 60)),
  .inl (7, [none, some 6, some 7, some 8, some 10]),
  .inr (.inl (0, 2080)),
  .inr (.inl (0, 3600)),
  .inl (4, [some 9, none]),
  .inr (.inl (0, 9)),
  .inl (4, [some 11, none]),
  .inr (.inl (0, 9)),
  .inl (1, [some 13]),
  .inl (4, [some 14, none]),
  .inr (.inl (0, 60)),
  .inl (0, [some 16, none, some 17, some 5]),
  .inr (.inr (2, 6, 18, 2)),
  .inr (.inl (0, 36)),
  .inl (4, [some 19, none]),
  .inr (.inl (0, 400)),
  .inl (4, [some 21, none]),
  .inr (.inl (0, 400)),
  .inl (4, [some 23, none]),
  .inr (.inl (0, 400)),
  .inl (4, [some 25, none]),
  .inr (.inl (0, 400)),
  .inl (4, [some 27, none]),
  .inr (.inl (0, 400)),
  .inl (4, [some 29, none]),
  .inr (.inl (0, 400)),
  .inl (5, [some 5, some 15, some 31, some 32, some 33, none]),
  .inr (.inr (2, 4, 35, 2)),
  .inr (.inl (0, 16)),
  .inl (4, [some 34, none]),
  .inr (.inl (0, 60)),
  .inl (4, [some 36, none]),
  .inr (.inl (0, 400)),
  .inl (4, [some 38, none]),
  .inr (.inl (0, 400)),
  .inl (4, [some 40, none]),
  .inr (.inl (0, 400)),
  .inl (4, [some 42, none]),
  .inr (.inl (0, 400)),
  .inl (6, [none, none, some 44, some 46, some 47, none, none, none, none, none]),
  .inl (2, [some 45, none]),
  .inr (.inl (0, 60)),
  .inr (.inl (0, 120)),
  .inr (.inl (0, 4)),
  .inl (4, [some 49, none]),
  .inr (.inl (0, 400)),
  .inl (2, [some 51, none]),
  .inr (.inl (0, 60)),
  .inl (2, [some 53, none]),
  .inr (.inl (0, 60)),
  .inl (3, [some 55, none, none]),
  .inl (4, [some 56, none]),
  .inr (.inl (0, 60)),
  .inl (3, [some 58, none, none]),
  .inl (4, [some 59, none]),
  .inr (.inl (0, 60)),
  .inl (3, [some 61, none, none]),
  .inl (4, [some 62, none]),
  .inr (.inl (0, 60)),
  .inl (3, [some 64, none, none]),
  .inl (4, [some 65, none]),
  .inr (.inl (0, 60)),
  .inl (3, [some 67, none, none]),
  .inl (4, [some 68, none]),
  .inr (.inl (0, 60)),
  .inl (3, [some 70, none, none]),
  .inl (4, [some 71, none]),
  .inr (.inl (0, 60)),
  .inl (3, [some 73, none, none]),
  .inl (4, [some 74, none]),
  .inr (.inl (0, 60)),
  .inl (3, [some 76, none, none]),
  .inl (4, [some 77, none]),
  .inr (.inl (0, 60)),
  .inl (3, [some 79, none, none]),
  .inl (4, [some 80, none]),
  .inr (.inl (0, 60)),
  .inl (3, [some 82, none, none]),
  .inl (4, [some 83, none]),
  .inr (.inl (0, 60)),
  .inl (3, [some 85, none, none]),
  .inl (4, [some 86, none]),
  .inr (.inl (0, 60)),
  .inl (3, [some 88, none, none]),
  .inl (4, [some 89, none]),
  .inr (.inl (0, 60)),
  .inl (2, [some 91, none]),
  .inr (.inl (0, 60)),
  .inl (2, [some 93, none]),
  .inr (.inl (0, 60)),
  .inl (2, [some 95, none]),
  .inr (.inl (0, 60)),
  .inl (2, [some 97, none]),
  .inr (.inl (0, 60)),
  .inl (2, [some 99, none]),
  .inr (.inl (0, 60)),
  .inl (2, [some 101, none]),
  .inr (.inl (0, 60)),
  .inl (2, [some 103, none]),
  .inr (.inl (0, 60)),
  .inl (2, [some 105, none]),
  .inr (.inl (0, 60)),
  .inl (9, [none, none, some 107, none, some 108, some 109, some 110, some 111, some 112, none, some 113, none, some 114, none, some 115, none, some 116, none, none, none, none, some 117, none, some 118, none, some 119, some 120, some 121]),
  .inr (.inl (0, 60)),
  .inr (.inl (0, 12)),
  .inr (.inl (0, 720)),
  .inr (.inl (0, 9)),
  .inr (.inl (0, 540)),
  .inr (.inl (0, 400)),
  .inr (.inl (0, 400)),
  .inr (.inl (0, 401)),
  .inr (.inl (0, 3700)),
  .inr (.inl (0, 120)),
  .inr (.inl (0, 4)),
  .inr (.inl (0, 600)),
  .inr (.inl (0, 2400)),
  .inr (.inl (0, 6)),
  .inr (.inl (1, 64))]
def gs_sh (k : Nat) : gs_S := gs_shl.getD k (.inl (0, []))
def gs_bfl : List (List (Int × Int)) := [[(-2147483648, 2147483647), (-2147483648, 2147483647), (-2147483648, 2147483647), (-2147483648, 2147483647), (-2147483648, 2147483647), (-2147483648, 2147483647), (-2147483648, 2147483647), (-2147483648, 2147483647), (-2147483648, 2147483647), (-2147483648, 2147483647), (-2147483648, 2147483647), (1, 3), (0, 12)],
  [],
  [],
  [(-2147483648, 2147483647), (0, 60)],
  [],
  [(1, 8), (-2147483648, 2147483647), (-2147483648, 2147483647), (-2147483648, 2147483647), (-2147483648, 2147483647)],
  [],
  [],
  [(-2147483648, 2147483647), (0, 9)],
  [],
  [(-2147483648, 2147483647), (0, 9)],
  [],
  [(-2147483648, 2147483647)],
  [(-2147483648, 2147483647), (0, 60)],
  [],
  [(-2147483648, 2147483647), (0, 6), (-2147483648, 2147483647), (-2147483648, 2147483647)],
  [],
  [],
  [(-2147483648, 2147483647), (0, 400)],
  [],
  [(-2147483648, 2147483647), (0, 400)],
  [],
  [(-2147483648, 2147483647), (0, 400)],
  [],
  [(-2147483648, 2147483647), (0, 400)],
  [],
  [(-2147483648, 2147483647), (0, 400)],
  [],
  [(-2147483648, 2147483647), (0, 400)],
  [],
  [(-2147483648, 2147483647), (-2147483648, 2147483647), (-2147483648, 2147483647), (-2147483648, 2147483647), (-2147483648, 2147483647), (-2147483648, 2147483647)],
  [],
  [],
  [(-2147483648, 2147483647), (0, 60)],
  [],
  [(-2147483648, 2147483647), (0, 400)],
  [],
  [(-2147483648, 2147483647), (0, 400)],
  [],
  [(-2147483648, 2147483647), (0, 400)],
  [],
  [(-2147483648, 2147483647), (0, 400)],
  [],
  [(0, 120), (-2147483648, 2147483647), (-2147483648, 2147483647), (-2147483648, 2147483647), (-2147483648, 2147483647), (0, 3), (0, 4), (-2147483648, 2147483647), (-2147483648, 2147483647), (-2147483648, 2147483647)],
  [(-2147483648, 2147483647), (0, 60)],
  [],
  [],
  [],
  [(-2147483648, 2147483647), (0, 400)],
  [],
  [(-2147483648, 2147483647), (0, 60)],
  [],
  [(-2147483648, 2147483647), (0, 60)],
  [],
  [(-2147483648, 2147483647), (0, 1), (-2147483648, 2147483647)],
  [(-2147483648, 2147483647), (0, 60)],
  [],
  [(-2147483648, 2147483647), (0, 1), (-2147483648, 2147483647)],
  [(-2147483648, 2147483647), (0, 60)],
  [],
  [(-2147483648, 2147483647), (0, 1), (-2147483648, 2147483647)],
  [(-2147483648, 2147483647), (0, 60)],
  [],
  [(-2147483648, 2147483647), (0, 1), (-2147483648, 2147483647)],
  [(-2147483648, 2147483647), (0, 60)],
  [],
  [(-2147483648, 2147483647), (0, 1), (-2147483648, 2147483647)],
  [(-2147483648, 2147483647), (0, 60)],
  [],
  [(-2147483648, 2147483647), (0, 1), (-2147483648, 2147483647)],
  [(-2147483648, 2147483647), (0, 60)],
  [],
  [(-2147483648, 2147483647), (0, 1), (-2147483648, 2147483647)],
  [(-2147483648, 2147483647), (0, 60)],
  [],
  [(-2147483648, 2147483647), (0, 1), (-2147483648, 2147483647)],
  [(-2147483648, 2147483647), (0, 60)],
  [],
  [(-2147483648, 2147483647), (0, 1), (-2147483648, 2147483647)],
  [(-2147483648, 2147483647), (0, 60)],
  [],
  [(-2147483648, 2147483647), (0, 1), (-2147483648, 2147483647)],
  [(-2147483648, 2147483647), (0, 60)],
  [],
  [(-2147483648, 2147483647), (0, 1), (-2147483648, 2147483647)],
  [(-2147483648, 2147483647), (0, 60)],
  [],
  [(-2147483648, 2147483647), (0, 1), (-2147483648, 2147483647)],
  [(-2147483648, 2147483647), (0, 60)],
  [],
  [(-2147483648, 2147483647), (0, 60)],
  [],
  [(-2147483648, 2147483647), (0, 60)],
  [],
  [(-2147483648, 2147483647), (0, 60)],
  [],
  [(-2147483648, 2147483647), (0, 60)],
  [],
  [(-2147483648, 2147483647), (0, 60)],
  [],
  [(-2147483648, 2147483647), (0, 60)],
  [],
  [(-2147483648, 2147483647), (0, 60)],
  [],
  [(-2147483648, 2147483647), (0, 60)],
  [],
  [(1, 3), (0, 60), (-2147483648, 2147483647), (0, 12), (-2147483648, 2147483647), (-2147483648, 2147483647), (-2147483648, 2147483647), (-2147483648, 2147483647), (-2147483648, 2147483647), (0, 400), (-2147483648, 2147483647), (0, 60), (-2147483648, 2147483647), (0, 400), (-2147483648, 2147483647), (0, 3700), (-2147483648, 2147483647), (0, 120), (0, 120), (0, 4), (-2147483648, 2147483647), (-2147483648, 2147483647), (0, 4), (-2147483648, 2147483647), (0, 60), (-2147483648, 2147483647), (-2147483648, 2147483647), (-2147483648, 2147483647)],
  [],
  [],
  [],
  [],
  [],
  [],
  [],
  [],
  [],
  [],
  [],
  [],
  [],
  [],
  []]
def gs_bF (k j : Nat) : Int × Int := (gs_bfl.getD k []).getD j (-2147483648, 2147483647)
def gs_bal : List (Int × Int) := [(0, 0), (0, 0), (0, 0), (0, 0), (-9, 9), (0, 0), (-9, 9), (-9, 9), (0, 0), (-9, 9), (0, 0), (-9, 9), (0, 0), (0, 0), (-9, 9), (0, 0), (0, 0), (-2147483648, 2147483647), (0, 0), (-9, 9), (0, 0), (-9, 9), (0, 0), (-9, 9), (0, 0), (-9, 9), (0, 0), (-9, 9), (0, 0), (-9, 9), (0, 0), (0, 0), (-2147483648, 2147483647), (0, 0), (-9, 9), (0, 0), (-9, 9), (0, 0), (-9, 9), (0, 0), (-9, 9), (0, 0), (-9, 9), (0, 0), (0, 0), (-2147483648, 2147483647), (-2147483648, 2147483647), (0, 60), (0, 0), (-9, 9), (0, 0), (-2147483648, 2147483647), (0, 0), (-2147483648, 2147483647), (0, 0), (0, 0), (-9, 9), (0, 0), (0, 0), (-9, 9), (0, 0), (0, 0), (-9, 9), (0, 0), (0, 0), (-9, 9), (0, 0), (0, 0), (-9, 9), (0, 0), (0, 0), (-9, 9), (0, 0), (0, 0), (-9, 9), (0, 0), (0, 0), (-9, 9), (0, 0), (0, 0), (-9, 9), (0, 0), (0, 0), (-9, 9), (0, 0), (0, 0), (-9, 9), (0, 0), (0, 0), (-9, 9), (0, 0), (-2147483648, 2147483647), (0, 0), (-2147483648, 2147483647), (0, 0), (-2147483648, 2147483647), (0, 0), (-2147483648, 2147483647), (0, 0), (-2147483648, 2147483647), (0, 0), (-2147483648, 2147483647), (0, 0), (-2147483648, 2147483647), (0, 0), (-2147483648, 2147483647), (0, 0), (-9, 9), (0, 60), (-9, 9), (0, 60), (-2147483648, 2147483647), (-9, 9), (-9, 9), (-9, 9), (-9, 9), (-2147483648, 2147483647), (0, 60), (-2147483648, 2147483647), (-9, 9), (0, 400), (-9223372036854775808, 9223372036854775807)]
def gs_bA (k : Nat) : Int × Int := gs_bal.getD k (0, 0)
def gs_fl (F : gs_F) (a : Nat) : Nat → List (Option Nat) → List Value
  | _, [] => []
  | j, none :: t => gs_iv (F a j) :: gs_fl F a (j + 1) t
  | j, some r :: t => .ref r :: gs_fl F a (j + 1) t
def gs_ar (A : gs_F) (k t n : Nat) : am_E := if t = 0 then .inl (0, n, .inl (fun i => Int32.ofInt (A k i))) else .inl (1, n, .inr (.inl (fun i => Int64.ofInt (A k i))))
def gs_ce (F A : gs_F) (k : Nat) (s : gs_S) : am_E := match s with
  | .inl (ci, fs) => .inr (ci, gs_fl F k 0 fs)
  | .inr (.inl (t, n)) => gs_ar A k t n
  | .inr (.inr (t, n, b, st)) => .inl (t, n, .inr (.inr (.inr (.inr (fun i => if i < n then some (b + st * i) else none)))))
def gs_en (F A : gs_F) : am_H := fun k => gs_ce F A k (gs_sh k)
theorem gs_up_self (F : gs_F) (a j : Nat) (z : Int) : gs_up F a j z a j = z := by simp [gs_up]
theorem gs_up_ne (F : gs_F) {a j b k : Nat} (z : Int) (h : b ≠ a ∨ k ≠ j) : gs_up F a j z b k = F b k := by
  unfold gs_up
  rw [if_neg (by intro q; rcases h with h | h; exact h q.1; exact h q.2)]
theorem gs_up_row (F : gs_F) {a j b : Nat} (z : Int) (h : b ≠ a) : gs_up F a j z b = F b := by
  funext k
  exact gs_up_ne F z (.inl h)
theorem gs_cp_row (A : gs_F) {a b sp dp n c : Nat} (h : c ≠ b) : gs_cp A a b sp dp n c = A c := by
  funext k
  unfold gs_cp
  rw [if_neg (fun q => h q.1)]
theorem gs_fl_len (F : gs_F) (a : Nat) : ∀ (fs : List (Option Nat)) (i : Nat), (gs_fl F a i fs).length = fs.length
  | [], _ => rfl
  | none :: t, i => by simp [gs_fl, gs_fl_len F a t (i + 1)]
  | some r :: t, i => by simp [gs_fl, gs_fl_len F a t (i + 1)]
theorem gs_fl_int (F : gs_F) (a : Nat) : ∀ (fs : List (Option Nat)) (i j : Nat), fs[j]? = some none → (gs_fl F a i fs)[j]? = some (gs_iv (F a (i + j)))
  | [], _, j, h => by simp at h
  | none :: t, i, 0, _ => rfl
  | some r :: t, i, 0, h => by simp at h
  | none :: t, i, j + 1, h => by
    have := gs_fl_int F a t (i + 1) j (by simpa using h)
    simp only [gs_fl, List.getElem?_cons_succ]
    have e : i + 1 + j = i + (j + 1) := by omega
    rw [this, e]
  | some r :: t, i, j + 1, h => by
    have := gs_fl_int F a t (i + 1) j (by simpa using h)
    simp only [gs_fl, List.getElem?_cons_succ]
    have e : i + 1 + j = i + (j + 1) := by omega
    rw [this, e]
theorem gs_fl_ref (F : gs_F) (a : Nat) {r : Nat} : ∀ (fs : List (Option Nat)) (i j : Nat), fs[j]? = some (some r) → (gs_fl F a i fs)[j]? = some (.ref r)
  | [], _, j, h => by simp at h
  | none :: t, i, 0, h => by simp at h
  | some r :: t, i, 0, h => by simp at h; subst h; rfl
  | none :: t, i, j + 1, h => by
    simp only [gs_fl, List.getElem?_cons_succ]
    exact gs_fl_ref F a t (i + 1) j (by simpa using h)
  | some r :: t, i, j + 1, h => by
    simp only [gs_fl, List.getElem?_cons_succ]
    exact gs_fl_ref F a t (i + 1) j (by simpa using h)
theorem gs_fl_eq (F F2 : gs_F) (a : Nat) : ∀ (fs : List (Option Nat)) (i : Nat), (∀ j, i ≤ j → F2 a j = F a j) → gs_fl F2 a i fs = gs_fl F a i fs
  | [], _, _ => rfl
  | none :: t, i, h => by
    simp only [gs_fl]
    rw [gs_fl_eq F F2 a t (i + 1) (fun j hj => h j (by omega)), h i (Nat.le_refl i)]
  | some r :: t, i, h => by
    simp only [gs_fl]
    rw [gs_fl_eq F F2 a t (i + 1) (fun j hj => h j (by omega))]
theorem gs_fl_set (F : gs_F) (a : Nat) (z : Int) : ∀ (fs : List (Option Nat)) (i j : Nat), fs[j]? = some none → (gs_fl F a i fs).set j (gs_iv z) = gs_fl (gs_up F a (i + j) z) a i fs
  | [], _, j, h => by simp at h
  | none :: t, i, 0, _ => by
    simp only [gs_fl, List.set_cons_zero, Nat.add_zero]
    rw [gs_up_self, gs_fl_eq F (gs_up F a i z) a t (i + 1) (fun j hj => gs_up_ne F z (.inr (by omega)))]
  | some r :: t, i, 0, h => by simp at h
  | none :: t, i, j + 1, h => by
    have := gs_fl_set F a z t (i + 1) j (by simpa using h)
    simp only [gs_fl, List.set_cons_succ]
    have e : i + 1 + j = i + (j + 1) := by omega
    rw [this, e, gs_up_ne F z (.inr (by omega))]
  | some r :: t, i, j + 1, h => by
    have := gs_fl_set F a z t (i + 1) j (by simpa using h)
    simp only [gs_fl, List.set_cons_succ]
    have e : i + 1 + j = i + (j + 1) := by omega
    rw [this, e]
theorem gs_ce_F {F F2 A A2 : gs_F} {k : Nat} (h1 : F2 k = F k) (h2 : A2 k = A k) (s : gs_S) : gs_ce F2 A2 k s = gs_ce F A k s := by
  unfold gs_ce gs_ar
  rw [h2]
  split
  · rw [gs_fl_eq F F2 k _ 0 (fun j _ => by rw [h1])]
  · rfl
  · rfl
theorem gs_en_obj {a ci : Nat} {fs : List (Option Nat)} (F A : gs_F) (hs : gs_sh a = .inl (ci, fs)) : gs_en F A a = .inr (ci, gs_fl F a 0 fs) := by unfold gs_en; rw [hs]; rfl
theorem gs_en_ia {a n : Nat} (F A : gs_F) (hs : gs_sh a = .inr (.inl (0, n))) : gs_en F A a = .inl (0, n, .inl (fun i => Int32.ofInt (A a i))) := by unfold gs_en; rw [hs]; rfl
theorem gs_en_la {a n : Nat} (F A : gs_F) (hs : gs_sh a = .inr (.inl (1, n))) : gs_en F A a = .inl (1, n, .inr (.inl (fun i => Int64.ofInt (A a i)))) := by unfold gs_en; rw [hs]; rfl
theorem gs_en_qa {a t n b st : Nat} (F A : gs_F) (hs : gs_sh a = .inr (.inr (t, n, b, st))) : gs_en F A a = .inl (t, n, .inr (.inr (.inr (.inr (fun i => if i < n then some (b + st * i) else none))))) := by unfold gs_en; rw [hs]; rfl
theorem gs_en_put {a ci j : Nat} {fs : List (Option Nat)} (F A : gs_F) (z : Int) (hs : gs_sh a = .inl (ci, fs)) (hj : fs[j]? = some none) : va_up (gs_en F A) a (.inr (ci, (gs_fl F a 0 fs).set j (gs_iv z))) = gs_en (gs_up F a j z) A := by
  funext k
  by_cases hk : k = a
  · subst hk
    rw [va_up_self, gs_en_obj _ _ hs, gs_fl_set F k z fs 0 j hj, Nat.zero_add]
  · rw [va_up_ne _ _ hk]
    exact (gs_ce_F (gs_up_row F z hk) rfl _).symm
theorem gs_en_ast {a n i : Nat} (F A : gs_F) (z : Int) (hs : gs_sh a = .inr (.inl (0, n))) : va_up (gs_en F A) a (.inl (0, n, .inl (upd (fun i => Int32.ofInt (A a i)) i (Int32.ofInt z)))) = gs_en F (gs_up A a i z) := by
  funext k
  by_cases hk : k = a
  · subst hk
    rw [va_up_self, gs_en_ia _ _ hs]
    congr 4
    funext i'
    unfold upd
    by_cases hi : i' = i
    · rw [if_pos hi, hi, gs_up_self]
    · rw [if_neg hi, gs_up_ne A z (.inr hi)]
  · rw [va_up_ne _ _ hk]
    exact (gs_ce_F rfl (gs_up_row A z hk) _).symm
theorem gs_en_last {a n i : Nat} (F A : gs_F) (z : Int) (hs : gs_sh a = .inr (.inl (1, n))) : va_up (gs_en F A) a (.inl (1, n, .inr (.inl (vp_updL (fun i => Int64.ofInt (A a i)) i (Int64.ofInt z))))) = gs_en F (gs_up A a i z) := by
  funext k
  by_cases hk : k = a
  · subst hk
    rw [va_up_self, gs_en_la _ _ hs]
    congr 5
    funext i'
    unfold vp_updL
    by_cases hi : i' = i
    · rw [if_pos hi, hi, gs_up_self]
    · rw [if_neg hi, gs_up_ne A z (.inr hi)]
  · rw [va_up_ne _ _ hk]
    exact (gs_ce_F rfl (gs_up_row A z hk) _).symm
theorem gs_en_cp {a b n2 sp dp x : Nat} (F A : gs_F) (hs : gs_sh b = .inr (.inl (0, n2))) : va_up (gs_en F A) b (.inl (0, n2, .inl (va_cpy (fun i => Int32.ofInt (A a i)) (fun i => Int32.ofInt (A b i)) sp dp x))) = gs_en F (gs_cp A a b sp dp x) := by
  funext k
  by_cases hk : k = b
  · subst hk
    rw [va_up_self, gs_en_ia _ _ hs]
    congr 4
    funext i'
    unfold va_cpy gs_cp
    by_cases hi : dp ≤ i' ∧ i' < dp + x
    · rw [if_pos hi, if_pos ⟨rfl, hi⟩]
    · rw [if_neg hi, if_neg (fun q => hi q.2)]
  · rw [va_up_ne _ _ hk]
    exact (gs_ce_F rfl (gs_cp_row A hk) _).symm
end
end
section
noncomputable section
/-! ===== the machine over the two tables; one rule an instruction ===== -/
abbrev gs_T : Type := Option Value → gs_F → gs_F → Prop
def gs_li (post : gs_T) : am_T := fun r N' h' => ∃ F' A', N' = 122 ∧ h' = gs_en F' A' ∧ post r F' A'
def sC (y : am_M) (d : Nat) (as : List Value) (F A : gs_F) (post : gs_T) : Prop := ∀ G : am_G, am_C G d y 0 0 as 122 (gs_en F A) (gs_li post)
def sA (y : am_M) (d : Nat) (post : gs_T) (pc : Nat) (lv : List (Nat × Value)) (st : List Value) (F A : gs_F) : Prop := ∀ G : am_G, am_A G d y 0 0 (gs_li post) 0 0 pc lv st 122 (gs_en F A)
theorem gs_toI {z : Int} (h : -2147483648 ≤ z ∧ z ≤ 2147483647) : (Int32.ofInt z).toInt = z := Int32.toInt_ofInt_of_le (by omega) (by omega)
theorem gs_toN {z : Int} (h : -2147483648 ≤ z ∧ z ≤ 2147483647) : (Int32.ofInt z).toNatClampNeg = z.toNat := Int32.toNatClampNeg_ofInt_of_le (by omega) (by omega)
theorem gs_lt {x z : Int} (hx : -2147483648 ≤ x ∧ x ≤ 2147483647) (hz : -2147483648 ≤ z ∧ z ≤ 2147483647) : Int32.ofInt x < Int32.ofInt z ↔ x < z := by rw [Int32.lt_iff_toInt_lt, gs_toI hx, gs_toI hz]
theorem gs_le {x z : Int} (hx : -2147483648 ≤ x ∧ x ≤ 2147483647) (hz : -2147483648 ≤ z ∧ z ≤ 2147483647) : Int32.ofInt x ≤ Int32.ofInt z ↔ x ≤ z := by rw [Int32.le_iff_toInt_le, gs_toI hx, gs_toI hz]
theorem gs_eq {x z : Int} (hx : -2147483648 ≤ x ∧ x ≤ 2147483647) (hz : -2147483648 ≤ z ∧ z ≤ 2147483647) : Int32.ofInt x = Int32.ofInt z ↔ x = z := by rw [← Int32.toInt_inj, gs_toI hx, gs_toI hz]
theorem gs_0 : (0 : Int32) = Int32.ofInt 0 := by decide
theorem gs_vp {z : Int} {n : Nat} (h : 0 ≤ z ∧ z < n) (hn : n ≤ 2147483647) : vp_in (Int32.ofInt z) n := by
  unfold vp_in
  rw [gs_0, gs_lt (by omega) (by omega), gs_toN (by omega)]
  omega
def gs_w (z : Int) : Int := (Int32.ofInt z).toInt
theorem gs_w_rng (z : Int) : -2147483648 ≤ gs_w z ∧ gs_w z ≤ 2147483647 := by
  have h1 := Int32.le_toInt (Int32.ofInt z)
  have h2 := Int32.toInt_lt (Int32.ofInt z)
  unfold gs_w
  omega
theorem gs_w_id {z : Int} (h : -2147483648 ≤ z ∧ z ≤ 2147483647) : gs_w z = z := gs_toI h
theorem gs_w_iv (z : Int) : Int32.ofInt (gs_w z) = Int32.ofInt z := Int32.ofInt_toInt _
def gs_t (x : Int32) : Int := x.toInt
theorem gs_t_rng (x : Int32) : -2147483648 ≤ gs_t x ∧ gs_t x ≤ 2147483647 := by
  have h1 := Int32.le_toInt x
  have h2 := Int32.toInt_lt x
  unfold gs_t
  omega
theorem gs_t_iv (x : Int32) : Int32.ofInt (gs_t x) = x := Int32.ofInt_toInt _
section
variable {y : am_M} {d : Nat} {post : gs_T} {pc : Nat} {lv lv' : List (Nat × Value)} {st : List Value} {F A : gs_F}
theorem sA_sub {lv2 : List (Nat × Value)} (hs : ∀ q ∈ lv2, q ∈ lv) (kk : sA y d post pc lv2 st F A) : sA y d post pc lv st F A := fun G => am_lvs hs (kk G)
theorem sA_iconst {z : Int} (hd : decode y.2.1 pc = .ok (.iconst z, 1)) (kk : sA y d post (pc + 1) lv (gs_iv z :: st) (F) (A)) : sA y d post (pc) lv (st) (F) (A) := fun G => am_iconst hd rfl (kk G)
theorem sA_bipush {z : Int} (hd : decode y.2.1 pc = .ok (.bipush z, 2)) (hv : (Int8.ofInt z).toInt32 = Int32.ofInt z) (kk : sA y d post (pc + 2) lv (gs_iv z :: st) (F) (A)) : sA y d post (pc) lv (st) (F) (A) := fun G => am_bipush hd hv (kk G)
theorem sA_sipush {z : Int} (hd : decode y.2.1 pc = .ok (.sipush z, 3)) (hv : (Int16.ofInt z).toInt32 = Int32.ofInt z) (kk : sA y d post (pc + 3) lv (gs_iv z :: st) (F) (A)) : sA y d post (pc) lv (st) (F) (A) := fun G => am_sipush hd hv (kk G)
theorem sA_ldcw {i : Nat} {z : Int} (hd : decode y.2.1 pc = .ok (.ldc_w i, 3)) (hc : Cond.constant y.1.cls i (Int32.ofInt z) ∈ am_tbl) (kk : sA y d post (pc + 3) lv (gs_iv z :: st) (F) (A)) : sA y d post (pc) lv (st) (F) (A) := fun G => am_ldcw hd hc (kk G)
theorem sA_lconst {i : Fin 2} {z : Int} (hd : decode y.2.1 pc = .ok (.lconst i, 1)) (hv : Int64.ofNat (i : Nat) = Int64.ofInt z) (kk : sA y d post (pc + 1) lv (gs_lv z :: st) (F) (A)) : sA y d post (pc) lv (st) (F) (A) := fun G => am_lconst hd hv (kk G)
theorem sA_ldc2 {i : Nat} {z : Int} (hd : decode y.2.1 pc = .ok (.ldc2_w i, 3)) (hc : Cond.constantLong y.1.cls i (Int64.ofInt z) ∈ am_tbl) (kk : sA y d post (pc + 3) lv (gs_lv z :: st) (F) (A)) : sA y d post (pc) lv (st) (F) (A) := fun G => am_ldc2 hd hc (kk G)
theorem sA_iload_n {j : Fin 4} {i : Nat} {z : Int} (hd : decode y.2.1 pc = .ok (.iload_n j, 1)) (hi : (j : Nat) = i) (hv : (i, gs_iv z) ∈ lv) (kk : sA y d post (pc + 1) lv (gs_iv z :: st) (F) (A)) : sA y d post (pc) lv (st) (F) (A) := fun G => am_iload_n hd hi hv (kk G)
theorem sA_iload {i : Nat} {z : Int} (hd : decode y.2.1 pc = .ok (.iload i, 2)) (hv : (i, gs_iv z) ∈ lv) (kk : sA y d post (pc + 2) lv (gs_iv z :: st) (F) (A)) : sA y d post (pc) lv (st) (F) (A) := fun G => am_iload hd hv (kk G)
theorem sA_lload_n {j : Fin 4} {i : Nat} {z : Int64} (hd : decode y.2.1 pc = .ok (.lload_n j, 1)) (hi : (j : Nat) = i) (hv : (i, Value.long z) ∈ lv) (kk : sA y d post (pc + 1) lv (Value.long z :: st) (F) (A)) : sA y d post (pc) lv (st) (F) (A) := fun G => am_lload_n hd hi hv (kk G)
theorem sA_lload {i : Nat} {z : Int64} (hd : decode y.2.1 pc = .ok (.lload i, 2)) (hv : (i, Value.long z) ∈ lv) (kk : sA y d post (pc + 2) lv (Value.long z :: st) (F) (A)) : sA y d post (pc) lv (st) (F) (A) := fun G => am_lload hd hv (kk G)
theorem sA_aload_n {j : Fin 4} {i : Nat} {z : Nat} (hd : decode y.2.1 pc = .ok (.aload_n j, 1)) (hi : (j : Nat) = i) (hv : (i, Value.ref z) ∈ lv) (kk : sA y d post (pc + 1) lv (Value.ref z :: st) (F) (A)) : sA y d post (pc) lv (st) (F) (A) := fun G => am_aload_n hd hi hv (kk G)
theorem sA_aload {i : Nat} {z : Nat} (hd : decode y.2.1 pc = .ok (.aload i, 2)) (hv : (i, Value.ref z) ∈ lv) (kk : sA y d post (pc + 2) lv (Value.ref z :: st) (F) (A)) : sA y d post (pc) lv (st) (F) (A) := fun G => am_aload hd hv (kk G)
theorem sA_istore_n {j : Fin 4} {i : Nat} {z : Int} (hd : decode y.2.1 pc = .ok (.istore_n j, 1)) (hi : (j : Nat) = i) (hn : i < y.2.2.1) (hlv : (i, gs_iv z) :: lv.filter (am_f1 i) = lv') (kk : sA y d post (pc + 1) lv' (st) (F) (A)) : sA y d post (pc) lv (gs_iv z :: st) (F) (A) := fun G => am_istore_n hd hi hn hlv (kk G)
theorem sA_istore {i : Nat} {z : Int} (hd : decode y.2.1 pc = .ok (.istore i, 2)) (hn : i < y.2.2.1) (hlv : (i, gs_iv z) :: lv.filter (am_f1 i) = lv') (kk : sA y d post (pc + 2) lv' (st) (F) (A)) : sA y d post (pc) lv (gs_iv z :: st) (F) (A) := fun G => am_istore hd hn hlv (kk G)
theorem sA_lstore_n {j : Fin 4} {i : Nat} {z : Int64} (hd : decode y.2.1 pc = .ok (.lstore_n j, 1)) (hi : (j : Nat) = i) (hn : i + 1 < y.2.2.1) (hlv : (i, Value.long z) :: lv.filter (am_f2 i) = lv') (kk : sA y d post (pc + 1) lv' (st) (F) (A)) : sA y d post (pc) lv (Value.long z :: st) (F) (A) := fun G => am_lstore_n hd hi hn hlv (kk G)
theorem sA_lstore {i : Nat} {z : Int64} (hd : decode y.2.1 pc = .ok (.lstore i, 2)) (hn : i + 1 < y.2.2.1) (hlv : (i, Value.long z) :: lv.filter (am_f2 i) = lv') (kk : sA y d post (pc + 2) lv' (st) (F) (A)) : sA y d post (pc) lv (Value.long z :: st) (F) (A) := fun G => am_lstore hd hn hlv (kk G)
theorem sA_astore_n {j : Fin 4} {i : Nat} {z : Nat} (hd : decode y.2.1 pc = .ok (.astore_n j, 1)) (hi : (j : Nat) = i) (hn : i < y.2.2.1) (hlv : (i, Value.ref z) :: lv.filter (am_f1 i) = lv') (kk : sA y d post (pc + 1) lv' (st) (F) (A)) : sA y d post (pc) lv (Value.ref z :: st) (F) (A) := fun G => am_astore_n hd hi hn hlv (kk G)
theorem sA_astore {i : Nat} {z : Nat} (hd : decode y.2.1 pc = .ok (.astore i, 2)) (hn : i < y.2.2.1) (hlv : (i, Value.ref z) :: lv.filter (am_f1 i) = lv') (kk : sA y d post (pc + 2) lv' (st) (F) (A)) : sA y d post (pc) lv (Value.ref z :: st) (F) (A) := fun G => am_astore hd hn hlv (kk G)
theorem sA_iinc {i : Nat} {n z : Int} (hd : decode y.2.1 pc = .ok (.iinc i n, 3)) (hv : (i, gs_iv z) ∈ lv) (hn : i < y.2.2.1) (hlv : (i, gs_iv (z + n)) :: lv.filter (am_f1 i) = lv') (kk : sA y d post (pc + 3) lv' (st) (F) (A)) : sA y d post (pc) lv (st) (F) (A) := fun G => am_iinc hd hv (Int32.ofInt_add z n).symm hn hlv (kk G)
theorem sA_iadd {x z : Int} (hd : decode y.2.1 pc = .ok (.iadd, 1)) (kk : sA y d post (pc + 1) lv (gs_iv (x + z) :: st) (F) (A)) : sA y d post (pc) lv (gs_iv z :: gs_iv x :: st) (F) (A) := fun G => am_iadd hd (by have k := kk G; unfold gs_iv at k; rw [Int32.ofInt_add x z] at k; exact k)
theorem sA_isub {x z : Int} (hd : decode y.2.1 pc = .ok (.isub, 1)) (kk : sA y d post (pc + 1) lv (gs_iv (x - z) :: st) (F) (A)) : sA y d post (pc) lv (gs_iv z :: gs_iv x :: st) (F) (A) := fun G => am_isub hd (by have k := kk G; unfold gs_iv at k; rw [Int32.ofInt_sub x z] at k; exact k)
theorem sA_imul {x z : Int} (hd : decode y.2.1 pc = .ok (.imul, 1)) (kk : sA y d post (pc + 1) lv (gs_iv (x * z) :: st) (F) (A)) : sA y d post (pc) lv (gs_iv z :: gs_iv x :: st) (F) (A) := fun G => am_imul hd (by have k := kk G; unfold gs_iv at k; rw [Int32.ofInt_mul x z] at k; exact k)
theorem sA_ineg {x : Int} (hd : decode y.2.1 pc = .ok (.ineg, 1)) (kk : sA y d post (pc + 1) lv (gs_iv (-x) :: st) (F) (A)) : sA y d post (pc) lv (gs_iv x :: st) (F) (A) := fun G => am_ineg hd (by have k := kk G; unfold gs_iv at k; rw [Int32.ofInt_neg x] at k; exact k)
theorem sA_ladd {x z : Int} (hd : decode y.2.1 pc = .ok (.ladd, 1)) (kk : sA y d post (pc + 1) lv (gs_lv (x + z) :: st) (F) (A)) : sA y d post (pc) lv (gs_lv z :: gs_lv x :: st) (F) (A) := fun G => am_ladd hd (by have k := kk G; unfold gs_lv at k; rw [Int64.ofInt_add x z] at k; exact k)
theorem sA_lsub {x z : Int} (hd : decode y.2.1 pc = .ok (.lsub, 1)) (kk : sA y d post (pc + 1) lv (gs_lv (x - z) :: st) (F) (A)) : sA y d post (pc) lv (gs_lv z :: gs_lv x :: st) (F) (A) := fun G => am_lsub hd (by have k := kk G; unfold gs_lv at k; rw [Int64.ofInt_sub x z] at k; exact k)
theorem sA_lmul {x z : Int} (hd : decode y.2.1 pc = .ok (.lmul, 1)) (kk : sA y d post (pc + 1) lv (gs_lv (x * z) :: st) (F) (A)) : sA y d post (pc) lv (gs_lv z :: gs_lv x :: st) (F) (A) := fun G => am_lmul hd (by have k := kk G; unfold gs_lv at k; rw [Int64.ofInt_mul x z] at k; exact k)
theorem sA_idiv {x z : Int} (hd : decode y.2.1 pc = .ok (.idiv, 1)) (hx : -2147483648 ≤ x ∧ x ≤ 2147483647) (hz : -2147483648 ≤ z ∧ z ≤ 2147483647) (hne : z ≠ 0) (kk : sA y d post (pc + 1) lv (gs_iv (x.tdiv z) :: st) (F) (A)) : sA y d post (pc) lv (gs_iv z :: gs_iv x :: st) (F) (A) := fun G => am_idiv hd (fun q => hne ((gs_eq hz (by omega)).mp (q.trans gs_0))) (by have k := kk G; unfold gs_iv at k; rw [Int32.ofInt_tdiv (by rw [Int32.toInt_minValue]; omega) (by rw [Int32.toInt_maxValue]; omega) (by rw [Int32.toInt_minValue]; omega) (by rw [Int32.toInt_maxValue]; omega)] at k; exact k)
theorem gs_rem {x z : Int} (hx : -2147483648 ≤ x ∧ x ≤ 2147483647) (hz : -2147483648 ≤ z ∧ z ≤ 2147483647) : Int32.ofInt x - Int32.ofInt x / Int32.ofInt z * Int32.ofInt z = Int32.ofInt (x.tmod z) := by
  have e : x.tmod z = x - x.tdiv z * z := by have h := Int.tmod_add_mul_tdiv x z; rw [Int.mul_comm] at h; omega
  rw [e, Int32.ofInt_sub, Int32.ofInt_mul, Int32.ofInt_tdiv (by rw [Int32.toInt_minValue]; omega) (by rw [Int32.toInt_maxValue]; omega) (by rw [Int32.toInt_minValue]; omega) (by rw [Int32.toInt_maxValue]; omega)]
theorem sA_irem {x z : Int} (hd : decode y.2.1 pc = .ok (.irem, 1)) (hx : -2147483648 ≤ x ∧ x ≤ 2147483647) (hz : -2147483648 ≤ z ∧ z ≤ 2147483647) (hne : z ≠ 0) (kk : sA y d post (pc + 1) lv (gs_iv (x.tmod z) :: st) (F) (A)) : sA y d post (pc) lv (gs_iv z :: gs_iv x :: st) (F) (A) := fun G => am_irem hd (fun q => hne ((gs_eq hz (by omega)).mp (q.trans gs_0))) (by rw [gs_rem hx hz]; exact kk G)
theorem sA_wrap {z : Int} (kk : sA y d post (pc) lv (gs_iv (gs_w z) :: st) (F) (A)) : sA y d post (pc) lv (gs_iv z :: st) (F) (A) := fun G => by have k := kk G; unfold gs_iv at k; rw [gs_w_iv] at k; exact k
theorem sA_iand {x z : Int} (hd : decode y.2.1 pc = .ok (.iand, 1)) (kk : sA y d post (pc + 1) lv (gs_iv (gs_t (Int32.ofInt x &&& Int32.ofInt z)) :: st) (F) (A)) : sA y d post (pc) lv (gs_iv z :: gs_iv x :: st) (F) (A) := fun G => am_iand hd (by have k := kk G; unfold gs_iv at k; rw [gs_t_iv] at k; exact k)
theorem sA_ior {x z : Int} (hd : decode y.2.1 pc = .ok (.ior, 1)) (kk : sA y d post (pc + 1) lv (gs_iv (gs_t (Int32.ofInt x ||| Int32.ofInt z)) :: st) (F) (A)) : sA y d post (pc) lv (gs_iv z :: gs_iv x :: st) (F) (A) := fun G => am_ior hd (by have k := kk G; unfold gs_iv at k; rw [gs_t_iv] at k; exact k)
theorem sA_ixor {x z : Int} (hd : decode y.2.1 pc = .ok (.ixor, 1)) (kk : sA y d post (pc + 1) lv (gs_iv (gs_t (Int32.ofInt x ^^^ Int32.ofInt z)) :: st) (F) (A)) : sA y d post (pc) lv (gs_iv z :: gs_iv x :: st) (F) (A) := fun G => am_ixor hd (by have k := kk G; unfold gs_iv at k; rw [gs_t_iv] at k; exact k)
theorem sA_ishl {x z : Int} (hd : decode y.2.1 pc = .ok (.ishl, 1)) (kk : sA y d post (pc + 1) lv (gs_iv (gs_t (Int32.ofInt x <<< (Int32.ofInt z &&& 31))) :: st) (F) (A)) : sA y d post (pc) lv (gs_iv z :: gs_iv x :: st) (F) (A) := fun G => am_ishl hd (by have k := kk G; unfold gs_iv at k; rw [gs_t_iv] at k; exact k)
theorem sA_ishr {x z : Int} (hd : decode y.2.1 pc = .ok (.ishr, 1)) (kk : sA y d post (pc + 1) lv (gs_iv (gs_t (Int32.ofInt x >>> (Int32.ofInt z &&& 31))) :: st) (F) (A)) : sA y d post (pc) lv (gs_iv z :: gs_iv x :: st) (F) (A) := fun G => am_ishr hd (by have k := kk G; unfold gs_iv at k; rw [gs_t_iv] at k; exact k)
theorem sA_iushr {x z : Int} (hd : decode y.2.1 pc = .ok (.iushr, 1)) (kk : sA y d post (pc + 1) lv (gs_iv (gs_t (((Int32.ofInt x).toUInt32 >>> ((Int32.ofInt z).toUInt32 &&& Int32.toUInt32 31)).toInt32)) :: st) (F) (A)) : sA y d post (pc) lv (gs_iv z :: gs_iv x :: st) (F) (A) := fun G => am_iushr hd (by have k := kk G; unfold gs_iv at k; rw [gs_t_iv] at k; exact k)
theorem sA_i2l {x : Int} (hd : decode y.2.1 pc = .ok (.i2l, 1)) (hx : -2147483648 ≤ x ∧ x ≤ 2147483647) (kk : sA y d post (pc + 1) lv (gs_lv x :: st) (F) (A)) : sA y d post (pc) lv (gs_iv x :: st) (F) (A) := fun G => am_i2l hd (by have k := kk G; unfold gs_lv at k; rw [← Int32.toInt64_ofInt (by rw [Int32.toInt_minValue]; omega) (by rw [Int32.toInt_maxValue]; omega)] at k; exact k)
theorem sA_l2i {x : Int64} (hd : decode y.2.1 pc = .ok (.l2i, 1)) (kk : sA y d post (pc + 1) lv (gs_iv (gs_t x.toInt32) :: st) (F) (A)) : sA y d post (pc) lv (.long x :: st) (F) (A) := fun G => am_l2i hd (by have k := kk G; unfold gs_iv at k; rw [gs_t_iv] at k; exact k)
theorem sA_land {x z : Int64} (hd : decode y.2.1 pc = .ok (.land, 1)) (kk : sA y d post (pc + 1) lv (.long (x &&& z) :: st) (F) (A)) : sA y d post (pc) lv (.long z :: .long x :: st) (F) (A) := fun G => am_land hd (kk G)
theorem sA_lshr {x : Int64} {z : Int} (hd : decode y.2.1 pc = .ok (.lshr, 1)) (kk : sA y d post (pc + 1) lv (.long (x >>> ((Int32.ofInt z).toInt64 &&& 63)) :: st) (F) (A)) : sA y d post (pc) lv (gs_iv z :: .long x :: st) (F) (A) := fun G => am_lshr hd (kk G)
theorem gs_lcmp {x z : Int} (hx : -9223372036854775808 ≤ x ∧ x ≤ 9223372036854775807) (hz : -9223372036854775808 ≤ z ∧ z ≤ 9223372036854775807) : (z < x ∧ lg_cmp (Int64.ofInt x) (Int64.ofInt z) = Int32.ofInt 1) ∨ (x = z ∧ lg_cmp (Int64.ofInt x) (Int64.ofInt z) = Int32.ofInt 0) ∨ (x < z ∧ lg_cmp (Int64.ofInt x) (Int64.ofInt z) = Int32.ofInt (-1)) := by
  have ex : (Int64.ofInt x).toInt = x := Int64.toInt_ofInt_of_le (by omega) (by omega)
  have ez : (Int64.ofInt z).toInt = z := Int64.toInt_ofInt_of_le (by omega) (by omega)
  unfold lg_cmp
  have e1 : (Int64.ofInt x > Int64.ofInt z) ↔ z < x := by show Int64.ofInt z < Int64.ofInt x ↔ _; rw [Int64.lt_iff_toInt_lt, ex, ez]
  have e2 : (Int64.ofInt x = Int64.ofInt z) ↔ x = z := by rw [← Int64.toInt_inj, ex, ez]
  rcases Int.lt_trichotomy x z with h | h | h
  · right; right
    refine ⟨h, ?_⟩
    rw [if_neg (fun q => by have := e1.mp q; omega), if_neg (fun q => by have := e2.mp q; omega)]
    rfl
  · right; left
    refine ⟨h, ?_⟩
    rw [if_neg (fun q => by have := e1.mp q; omega), if_pos (e2.mpr h)]
    rfl
  · left
    refine ⟨h, ?_⟩
    rw [if_pos (e1.mpr h)]
    rfl
theorem sA_lcmp {x z : Int} (hd : decode y.2.1 pc = .ok (.lcmp, 1)) (hx : -9223372036854775808 ≤ x ∧ x ≤ 9223372036854775807) (hz : -9223372036854775808 ≤ z ∧ z ≤ 9223372036854775807) (kk : ∀ w : Int, (z < x ∧ w = 1) ∨ (x = z ∧ w = 0) ∨ (x < z ∧ w = -1) → sA y d post (pc + 1) lv (gs_iv w :: st) (F) (A)) : sA y d post (pc) lv (gs_lv z :: gs_lv x :: st) (F) (A) := fun G => am_lcmp hd (by
  rcases gs_lcmp hx hz with ⟨q, e⟩ | ⟨q, e⟩ | ⟨q, e⟩
  · rw [e]; exact kk 1 (.inl ⟨q, rfl⟩) G
  · rw [e]; exact kk 0 (.inr (.inl ⟨q, rfl⟩)) G
  · rw [e]; exact kk (-1) (.inr (.inr ⟨q, rfl⟩)) G)
theorem sA_dup {v : Value} (hd : decode y.2.1 pc = .ok (.dup, 1)) (hv : v.category = 1) (kk : sA y d post (pc + 1) lv (v :: v :: st) (F) (A)) : sA y d post (pc) lv (v :: st) (F) (A) := fun G => am_dup hd hv (kk G)
theorem sA_dup2 {v w : Value} (hd : decode y.2.1 pc = .ok (.dup2, 1)) (hv : v.category = 1) (hw : w.category = 1) (kk : sA y d post (pc + 1) lv (v :: w :: v :: w :: st) (F) (A)) : sA y d post (pc) lv (v :: w :: st) (F) (A) := fun G => am_dup2 hd hv hw (kk G)
theorem sA_icmp_eq {x z : Int} {off : Int} {tgt : Nat} (hd : decode y.2.1 pc = .ok (.if_icmp .eq off, 3)) (ht : (pc : Int) + off = (tgt : Int)) (hx : -2147483648 ≤ x ∧ x ≤ 2147483647) (hz : -2147483648 ≤ z ∧ z ≤ 2147483647) (kt : x = z → sA y d post (tgt) lv (st) (F) (A)) (kf : x ≠ z → sA y d post (pc + 3) lv (st) (F) (A)) : sA y d post (pc) lv (gs_iv z :: gs_iv x :: st) (F) (A) := fun G => am_icmp_eq hd ht (fun q => kt ((gs_eq hx hz).mp q) G) (fun q => kf (fun w => q ((gs_eq hx hz).mpr w)) G)
theorem sA_if_eq {x : Int} {off : Int} {tgt : Nat} (hd : decode y.2.1 pc = .ok (.ifCond .eq off, 3)) (ht : (pc : Int) + off = (tgt : Int)) (hx : -2147483648 ≤ x ∧ x ≤ 2147483647) (kt : x = 0 → sA y d post (tgt) lv (st) (F) (A)) (kf : x ≠ 0 → sA y d post (pc + 3) lv (st) (F) (A)) : sA y d post (pc) lv (gs_iv x :: st) (F) (A) := fun G => am_if_eq hd ht (fun q => by
    rw [gs_0] at q
    exact kt (by have q2 := (gs_eq hx (show -2147483648 ≤ (0 : Int) ∧ (0 : Int) ≤ 2147483647 by decide)).mp q; omega) G) (fun q => by
    rw [gs_0] at q
    exact kf (by have q2 := mt (gs_eq hx (show -2147483648 ≤ (0 : Int) ∧ (0 : Int) ≤ 2147483647 by decide)).mpr q; omega) G)
theorem sA_icmp_ne {x z : Int} {off : Int} {tgt : Nat} (hd : decode y.2.1 pc = .ok (.if_icmp .ne off, 3)) (ht : (pc : Int) + off = (tgt : Int)) (hx : -2147483648 ≤ x ∧ x ≤ 2147483647) (hz : -2147483648 ≤ z ∧ z ≤ 2147483647) (kt : x ≠ z → sA y d post (tgt) lv (st) (F) (A)) (kf : x = z → sA y d post (pc + 3) lv (st) (F) (A)) : sA y d post (pc) lv (gs_iv z :: gs_iv x :: st) (F) (A) := fun G => am_icmp_ne hd ht (fun q => kt (fun w => q ((gs_eq hx hz).mpr w)) G) (fun q => kf ((gs_eq hx hz).mp q) G)
theorem sA_if_ne {x : Int} {off : Int} {tgt : Nat} (hd : decode y.2.1 pc = .ok (.ifCond .ne off, 3)) (ht : (pc : Int) + off = (tgt : Int)) (hx : -2147483648 ≤ x ∧ x ≤ 2147483647) (kt : x ≠ 0 → sA y d post (tgt) lv (st) (F) (A)) (kf : x = 0 → sA y d post (pc + 3) lv (st) (F) (A)) : sA y d post (pc) lv (gs_iv x :: st) (F) (A) := fun G => am_if_ne hd ht (fun q => by
    rw [gs_0] at q
    exact kt (by have q2 := mt (gs_eq hx (show -2147483648 ≤ (0 : Int) ∧ (0 : Int) ≤ 2147483647 by decide)).mpr q; omega) G) (fun q => by
    rw [gs_0] at q
    exact kf (by have q2 := (gs_eq hx (show -2147483648 ≤ (0 : Int) ∧ (0 : Int) ≤ 2147483647 by decide)).mp q; omega) G)
theorem sA_icmp_lt {x z : Int} {off : Int} {tgt : Nat} (hd : decode y.2.1 pc = .ok (.if_icmp .lt off, 3)) (ht : (pc : Int) + off = (tgt : Int)) (hx : -2147483648 ≤ x ∧ x ≤ 2147483647) (hz : -2147483648 ≤ z ∧ z ≤ 2147483647) (kt : x < z → sA y d post (tgt) lv (st) (F) (A)) (kf : z ≤ x → sA y d post (pc + 3) lv (st) (F) (A)) : sA y d post (pc) lv (gs_iv z :: gs_iv x :: st) (F) (A) := fun G => am_icmp_lt hd ht (fun q => kt ((gs_lt hx hz).mp q) G) (fun q => kf (by have q2 := mt (gs_lt hx hz).mpr q; omega) G)
theorem sA_if_lt {x : Int} {off : Int} {tgt : Nat} (hd : decode y.2.1 pc = .ok (.ifCond .lt off, 3)) (ht : (pc : Int) + off = (tgt : Int)) (hx : -2147483648 ≤ x ∧ x ≤ 2147483647) (kt : x < 0 → sA y d post (tgt) lv (st) (F) (A)) (kf : 0 ≤ x → sA y d post (pc + 3) lv (st) (F) (A)) : sA y d post (pc) lv (gs_iv x :: st) (F) (A) := fun G => am_if_lt hd ht (fun q => by
    rw [gs_0] at q
    exact kt (by have q2 := (gs_lt hx (show -2147483648 ≤ (0 : Int) ∧ (0 : Int) ≤ 2147483647 by decide)).mp q; omega) G) (fun q => by
    rw [gs_0] at q
    exact kf (by have q2 := mt (gs_lt hx (show -2147483648 ≤ (0 : Int) ∧ (0 : Int) ≤ 2147483647 by decide)).mpr q; omega) G)
theorem sA_icmp_ge {x z : Int} {off : Int} {tgt : Nat} (hd : decode y.2.1 pc = .ok (.if_icmp .ge off, 3)) (ht : (pc : Int) + off = (tgt : Int)) (hx : -2147483648 ≤ x ∧ x ≤ 2147483647) (hz : -2147483648 ≤ z ∧ z ≤ 2147483647) (kt : z ≤ x → sA y d post (tgt) lv (st) (F) (A)) (kf : x < z → sA y d post (pc + 3) lv (st) (F) (A)) : sA y d post (pc) lv (gs_iv z :: gs_iv x :: st) (F) (A) := fun G => am_icmp_ge hd ht (fun q => kt ((gs_le hz hx).mp q) G) (fun q => kf (by have q2 := mt (gs_le hz hx).mpr q; omega) G)
theorem sA_if_ge {x : Int} {off : Int} {tgt : Nat} (hd : decode y.2.1 pc = .ok (.ifCond .ge off, 3)) (ht : (pc : Int) + off = (tgt : Int)) (hx : -2147483648 ≤ x ∧ x ≤ 2147483647) (kt : 0 ≤ x → sA y d post (tgt) lv (st) (F) (A)) (kf : x < 0 → sA y d post (pc + 3) lv (st) (F) (A)) : sA y d post (pc) lv (gs_iv x :: st) (F) (A) := fun G => am_if_ge hd ht (fun q => by
    rw [gs_0] at q
    exact kt (by have q2 := (gs_le (show -2147483648 ≤ (0 : Int) ∧ (0 : Int) ≤ 2147483647 by decide) hx).mp q; omega) G) (fun q => by
    rw [gs_0] at q
    exact kf (by have q2 := mt (gs_le (show -2147483648 ≤ (0 : Int) ∧ (0 : Int) ≤ 2147483647 by decide) hx).mpr q; omega) G)
theorem sA_icmp_gt {x z : Int} {off : Int} {tgt : Nat} (hd : decode y.2.1 pc = .ok (.if_icmp .gt off, 3)) (ht : (pc : Int) + off = (tgt : Int)) (hx : -2147483648 ≤ x ∧ x ≤ 2147483647) (hz : -2147483648 ≤ z ∧ z ≤ 2147483647) (kt : z < x → sA y d post (tgt) lv (st) (F) (A)) (kf : x ≤ z → sA y d post (pc + 3) lv (st) (F) (A)) : sA y d post (pc) lv (gs_iv z :: gs_iv x :: st) (F) (A) := fun G => am_icmp_gt hd ht (fun q => kt ((gs_lt hz hx).mp q) G) (fun q => kf (by have q2 := mt (gs_lt hz hx).mpr q; omega) G)
theorem sA_if_gt {x : Int} {off : Int} {tgt : Nat} (hd : decode y.2.1 pc = .ok (.ifCond .gt off, 3)) (ht : (pc : Int) + off = (tgt : Int)) (hx : -2147483648 ≤ x ∧ x ≤ 2147483647) (kt : 0 < x → sA y d post (tgt) lv (st) (F) (A)) (kf : x ≤ 0 → sA y d post (pc + 3) lv (st) (F) (A)) : sA y d post (pc) lv (gs_iv x :: st) (F) (A) := fun G => am_if_gt hd ht (fun q => by
    rw [gs_0] at q
    exact kt (by have q2 := (gs_lt (show -2147483648 ≤ (0 : Int) ∧ (0 : Int) ≤ 2147483647 by decide) hx).mp q; omega) G) (fun q => by
    rw [gs_0] at q
    exact kf (by have q2 := mt (gs_lt (show -2147483648 ≤ (0 : Int) ∧ (0 : Int) ≤ 2147483647 by decide) hx).mpr q; omega) G)
theorem sA_icmp_le {x z : Int} {off : Int} {tgt : Nat} (hd : decode y.2.1 pc = .ok (.if_icmp .le off, 3)) (ht : (pc : Int) + off = (tgt : Int)) (hx : -2147483648 ≤ x ∧ x ≤ 2147483647) (hz : -2147483648 ≤ z ∧ z ≤ 2147483647) (kt : x ≤ z → sA y d post (tgt) lv (st) (F) (A)) (kf : z < x → sA y d post (pc + 3) lv (st) (F) (A)) : sA y d post (pc) lv (gs_iv z :: gs_iv x :: st) (F) (A) := fun G => am_icmp_le hd ht (fun q => kt ((gs_le hx hz).mp q) G) (fun q => kf (by have q2 := mt (gs_le hx hz).mpr q; omega) G)
theorem sA_if_le {x : Int} {off : Int} {tgt : Nat} (hd : decode y.2.1 pc = .ok (.ifCond .le off, 3)) (ht : (pc : Int) + off = (tgt : Int)) (hx : -2147483648 ≤ x ∧ x ≤ 2147483647) (kt : x ≤ 0 → sA y d post (tgt) lv (st) (F) (A)) (kf : 0 < x → sA y d post (pc + 3) lv (st) (F) (A)) : sA y d post (pc) lv (gs_iv x :: st) (F) (A) := fun G => am_if_le hd ht (fun q => by
    rw [gs_0] at q
    exact kt (by have q2 := (gs_le hx (show -2147483648 ≤ (0 : Int) ∧ (0 : Int) ≤ 2147483647 by decide)).mp q; omega) G) (fun q => by
    rw [gs_0] at q
    exact kf (by have q2 := mt (gs_le hx (show -2147483648 ≤ (0 : Int) ∧ (0 : Int) ≤ 2147483647 by decide)).mpr q; omega) G)
theorem sA_icmpD {c : ClassFile.Cond} {x z : Int} {off : Int} {tgt : Nat} (hd : decode y.2.1 pc = .ok (.if_icmp c off, 3)) (ht : (pc : Int) + off = (tgt : Int)) (kt : sA y d post (tgt) lv (st) (F) (A)) (kf : sA y d post (pc + 3) lv (st) (F) (A)) : sA y d post (pc) lv (gs_iv z :: gs_iv x :: st) (F) (A) := fun G => am_icmp hd ht (fun _ => kt G) (fun _ => kf G)
theorem sA_ifD {c : ClassFile.Cond} {x : Int} {off : Int} {tgt : Nat} (hd : decode y.2.1 pc = .ok (.ifCond c off, 3)) (ht : (pc : Int) + off = (tgt : Int)) (kt : sA y d post (tgt) lv (st) (F) (A)) (kf : sA y d post (pc + 3) lv (st) (F) (A)) : sA y d post (pc) lv (gs_iv x :: st) (F) (A) := fun G => am_ifc hd ht (fun _ => kt G) (fun _ => kf G)
theorem sA_goto {off : Int} {tgt : Nat} (hd : decode y.2.1 pc = .ok (.goto off, 3)) (ht : (pc : Int) + off = (tgt : Int)) (kk : sA y d post (tgt) lv (st) (F) (A)) : sA y d post (pc) lv (st) (F) (A) := fun G => am_goto hd ht (kk G)
theorem sA_tblIn {dflt lo hi : Int} {offs : Array Int} {len : Nat} {x : Int} {off : Int} {tgt : Nat} (hd : decode y.2.1 pc = .ok (.tableswitch dflt lo hi offs, len)) (hx : -2147483648 ≤ x ∧ x ≤ 2147483647) (h1 : lo ≤ x ∧ x ≤ hi) (ho : offs[(x - lo).toNat]? = some off) (ht : (pc : Int) + off = (tgt : Int)) (kk : sA y d post (tgt) lv (st) (F) (A)) : sA y d post (pc) lv (gs_iv x :: st) (F) (A) := fun G => am_tblIn hd (by rw [gs_toI hx]; omega) (by rw [gs_toI hx]; omega) (by rw [gs_toI hx]; exact ho) ht (kk G)
theorem sA_tblOut {dflt lo hi : Int} {offs : Array Int} {len : Nat} {x : Int} {tgt : Nat} (hd : decode y.2.1 pc = .ok (.tableswitch dflt lo hi offs, len)) (hx : -2147483648 ≤ x ∧ x ≤ 2147483647) (h0 : x < lo ∨ hi < x) (ht : (pc : Int) + dflt = (tgt : Int)) (kk : sA y d post (tgt) lv (st) (F) (A)) : sA y d post (pc) lv (gs_iv x :: st) (F) (A) := fun G => am_tblOut hd (by rw [gs_toI hx]; exact h0) ht (kk G)
theorem sA_lookup {dflt : Int} {ps : Array (Int × Int)} {len : Nat} {x : Int} {off : Int} {tgt : Nat} (hd : decode y.2.1 pc = .ok (.lookupswitch dflt ps, len)) (hp : (ps.toList.zip (ps.toList.drop 1)).all (fun (a, next) => a.1 < next.1) = true) (hx : -2147483648 ≤ x ∧ x ≤ 2147483647) (ho : Op.lookupswitch.offset ps.toList dflt x = off) (ht : (pc : Int) + off = (tgt : Int)) (kk : sA y d post (tgt) lv (st) (F) (A)) : sA y d post (pc) lv (gs_iv x :: st) (F) (A) := fun G => am_lookup hd hp (by rw [gs_toI hx]; exact ho) ht (kk G)
theorem sA_geti {a ci j idx : Nat} {q : vw_C} {fs : List (Option Nat)} (hd : decode y.2.1 pc = .ok (.getfield idx, 3)) (hc : am_cl[ci]? = some q) (hj : j < q.2.2) (hlk : Cond.fieldLink y.1.cls idx (q.2.1 j).1 (q.2.1 j).2.1 (q.2.1 j).2.2.1 ∈ am_tbl) (ha : a < 122) (hs : gs_sh a = .inl (ci, fs)) (hf : fs[j]? = some none) (kk : sA y d post (pc + 3) lv (gs_iv (F a j) :: st) (F) (A)) : sA y d post (pc) lv (.ref a :: st) (F) (A) := fun G => am_get hd hc hj hlk ha (gs_en_obj F A hs) (by have e := gs_fl_int F a fs 0 j hf; rw [Nat.zero_add] at e; exact e) (kk G)
theorem sA_getr {a ci j idx r : Nat} {q : vw_C} {fs : List (Option Nat)} (hd : decode y.2.1 pc = .ok (.getfield idx, 3)) (hc : am_cl[ci]? = some q) (hj : j < q.2.2) (hlk : Cond.fieldLink y.1.cls idx (q.2.1 j).1 (q.2.1 j).2.1 (q.2.1 j).2.2.1 ∈ am_tbl) (ha : a < 122) (hs : gs_sh a = .inl (ci, fs)) (hf : fs[j]? = some (some r)) (kk : sA y d post (pc + 3) lv (.ref r :: st) (F) (A)) : sA y d post (pc) lv (.ref a :: st) (F) (A) := fun G => am_get hd hc hj hlk ha (gs_en_obj F A hs) (gs_fl_ref F a fs 0 j hf) (kk G)
theorem sA_put {a ci j idx : Nat} {q : vw_C} {fs : List (Option Nat)} {ty : FieldType} {z : Int} (hd : decode y.2.1 pc = .ok (.putfield idx, 3)) (hc : am_cl[ci]? = some q) (hj : j < q.2.2) (hlk : Cond.fieldLink y.1.cls idx (q.2.1 j).1 (q.2.1 j).2.1 (q.2.1 j).2.2.1 ∈ am_tbl) (hfin : (q.2.1 j).2.2.2 = false) (hty : parseFieldDescriptor (q.2.1 j).2.2.1 = some ty) (hnv : narrow ty (gs_iv z) = gs_iv z) (hfv : fits ty (gs_iv z) = true) (ha : a < 122) (hs : gs_sh a = .inl (ci, fs)) (hf : fs[j]? = some none) (kk : sA y d post (pc + 3) lv (st) (gs_up F a j z) (A)) : sA y d post (pc) lv (gs_iv z :: .ref a :: st) (F) (A) := fun G => am_put hd hc hj hlk hfin hty hnv hfv ha (gs_en_obj F A hs) (by rw [gs_fl_len]; exact (List.getElem?_eq_some_iff.mp hf).1) (by rw [gs_en_put F A z hs hf]; exact kk G)
theorem sA_iald {a n : Nat} {z : Int} (hd : decode y.2.1 pc = .ok (.iaload, 1)) (ha : a < 122) (hs : gs_sh a = .inr (.inl (0, n))) (hi : 0 ≤ z ∧ z < n) (hn : n ≤ 2147483647) (kk : sA y d post (pc + 1) lv (gs_iv (A a z.toNat) :: st) (F) (A)) : sA y d post (pc) lv (gs_iv z :: .ref a :: st) (F) (A) := fun G => am_iald hd ha (gs_en_ia F A hs) (gs_vp hi hn) (by rw [gs_toN (by omega)]; exact kk G)
theorem sA_iast {a n : Nat} {z x : Int} (hd : decode y.2.1 pc = .ok (.iastore, 1)) (ha : a < 122) (hs : gs_sh a = .inr (.inl (0, n))) (hi : 0 ≤ z ∧ z < n) (hn : n ≤ 2147483647) (kk : sA y d post (pc + 1) lv (st) (F) (gs_up A a z.toNat x)) : sA y d post (pc) lv (gs_iv x :: gs_iv z :: .ref a :: st) (F) (A) := fun G => am_iast hd ha (gs_en_ia F A hs) (gs_vp hi hn) (by rw [gs_toN (by omega), gs_en_ast F A x hs]; exact kk G)
theorem sA_lald {a n : Nat} {z : Int} (hd : decode y.2.1 pc = .ok (.laload, 1)) (ha : a < 122) (hs : gs_sh a = .inr (.inl (1, n))) (hi : 0 ≤ z ∧ z < n) (hn : n ≤ 2147483647) (kk : sA y d post (pc + 1) lv (gs_lv (A a z.toNat) :: st) (F) (A)) : sA y d post (pc) lv (gs_iv z :: .ref a :: st) (F) (A) := fun G => am_lald hd ha (gs_en_la F A hs) (gs_vp hi hn) (by rw [gs_toN (by omega)]; exact kk G)
theorem sA_last {a n : Nat} {z x : Int} (hd : decode y.2.1 pc = .ok (.lastore, 1)) (ha : a < 122) (hs : gs_sh a = .inr (.inl (1, n))) (hi : 0 ≤ z ∧ z < n) (hn : n ≤ 2147483647) (kk : sA y d post (pc + 1) lv (st) (F) (gs_up A a z.toNat x)) : sA y d post (pc) lv (gs_lv x :: gs_iv z :: .ref a :: st) (F) (A) := fun G => am_last hd ha (gs_en_la F A hs) (gs_vp hi hn) (by rw [gs_toN (by omega), gs_en_last F A x hs]; exact kk G)
theorem sA_aald {a t n b s : Nat} {z : Int} (hd : decode y.2.1 pc = .ok (.aaload, 1)) (h1 : 2 ≤ t) (h2 : t < 5) (ha : a < 122) (hs : gs_sh a = .inr (.inr (t, n, b, s))) (hi : 0 ≤ z ∧ z < n) (hn : n ≤ 2147483647) (kk : sA y d post (pc + 1) lv (.ref (b + s * z.toNat) :: st) (F) (A)) : sA y d post (pc) lv (gs_iv z :: .ref a :: st) (F) (A) := fun G => am_aald hd h1 h2 ha (gs_en_qa F A hs) (gs_vp hi hn) (b := b + s * z.toNat) (by rw [gs_toN (by omega), if_pos (by omega)]) (kk G)
theorem sA_alen {a n : Nat} (hd : decode y.2.1 pc = .ok (.arraylength, 1)) (ha : a < 122) (hs : gs_sh a = .inr (.inl (0, n))) (kk : sA y d post (pc + 1) lv (gs_iv (n : Int) :: st) (F) (A)) : sA y d post (pc) lv (.ref a :: st) (F) (A) := fun G => am_alen (t := 0) hd (by decide) ha (gs_en_ia F A hs) (by have k := kk G; unfold gs_iv at k; rw [Int32.ofInt_eq_ofNat] at k; exact k)
theorem sA_alenq {a t n b s : Nat} (hd : decode y.2.1 pc = .ok (.arraylength, 1)) (h2 : t < 5) (ha : a < 122) (hs : gs_sh a = .inr (.inr (t, n, b, s))) (kk : sA y d post (pc + 1) lv (gs_iv (n : Int) :: st) (F) (A)) : sA y d post (pc) lv (.ref a :: st) (F) (A) := fun G => am_alen hd h2 ha (gs_en_qa F A hs) (by have k := kk G; unfold gs_iv at k; rw [Int32.ofInt_eq_ofNat] at k; exact k)
theorem sA_gets {idx : Nat} (hd : decode y.2.1 pc = .ok (.getstatic idx, 3)) (hlk : Cond.fieldLink y.1.cls idx RX1 "PLACES" "[I" ∈ am_tbl) (kk : sA y d post (pc + 3) lv (.float 4294967295 :: st) (F) (A)) : sA y d post (pc) lv (st) (F) (A) := fun G => am_gets hd hlk (kk G)
theorem sA_plald {z : Int} (hd : decode y.2.1 pc = .ok (.iaload, 1)) (hi : 0 ≤ z ∧ z < 13) (kk : sA y d post (pc + 1) lv (gs_iv (gs_t (am_PL z.toNat)) :: st) (F) (A)) : sA y d post (pc) lv (gs_iv z :: .float 4294967295 :: st) (F) (A) := fun G => am_plald hd (gs_vp (n := 13) (by omega) (by decide)) (by have k := kk G; unfold gs_iv at k; rw [gs_t_iv] at k; rw [gs_toN (by omega)]; exact k)
theorem sA_plen (hd : decode y.2.1 pc = .ok (.arraylength, 1)) (kk : sA y d post (pc + 1) lv (gs_iv 13 :: st) (F) (A)) : sA y d post (pc) lv (.float 4294967295 :: st) (F) (A) := fun G => am_plen hd (kk G)
theorem sA_copy {a b n1 n2 idx : Nat} {sp dp x : Int} (hd : decode y.2.1 pc = .ok (.invokestatic idx, 3)) (hlk : Cond.methodLink y.1.cls idx arraycopyName ∈ am_tbl) (hw : Cond.native arraycopyName ∈ am_tbl ∧ Cond.static arraycopyName ∈ am_tbl ∧ Cond.initialized "java/lang/System" ∈ am_tbl) (ha : a < 122) (hs : gs_sh a = .inr (.inl (0, n1))) (hb : b < 122) (hsb : gs_sh b = .inr (.inl (0, n2))) (h1 : 0 ≤ sp) (h2 : 0 ≤ dp) (h3 : 0 ≤ x) (h4 : sp + x ≤ n1) (h5 : dp + x ≤ n2) (hn1 : n1 ≤ 2147483647) (hn2 : n2 ≤ 2147483647) (hdd : 1 ≤ d) (hrest : (st.map fun v => v.category).sum ≤ 20) (kk : sA y d post (pc + 3) lv (st) (F) (gs_cp A a b sp.toNat dp.toNat x.toNat)) : sA y d post (pc) lv (gs_iv x :: gs_iv dp :: .ref b :: gs_iv sp :: .ref a :: st) (F) (A) := fun G =>
  am_copy hd hlk hw.1 hw.2.1 hw.2.2 ha (gs_en_ia F A hs) hb (gs_en_ia F A hsb) (by rw [gs_0, gs_lt (by omega) (by omega)]; omega) (by rw [gs_0, gs_lt (by omega) (by omega)]; omega) (by rw [gs_0, gs_lt (by omega) (by omega)]; omega) (by rw [gs_toN (by omega), gs_toN (by omega)]; omega) (by rw [gs_toN (by omega), gs_toN (by omega)]; omega) hdd hrest (by rw [gs_toN (by omega), gs_toN (by omega), gs_toN (by omega), gs_en_cp F A hsb]; exact kk G)
theorem sA_callV {y2 : am_M} {n2 d2 idx a ci : Nat} {q : vw_C} {fs : List (Option Nat)} {as rest : List Value} {post2 : gs_T} (hd : decode y.2.1 pc = .ok (.invokevirtual idx, 3)) (ok : am_okM y2 n2 ∧ Cond.instanceMethod y2.1 ∈ am_tbl ∧ Cond.selects y2.1.cls y2.1 y2.1 ∈ am_tbl) (hlk : Cond.methodLink y.1.cls idx y2.1 ∈ am_tbl) (hc : am_cl[ci]? = some q) (hcq : q.1 = y2.1.cls) (ha : a < 122) (hs : gs_sh a = .inl (ci, fs)) (hst : st = as.reverse ++ .ref a :: rest) (hn2 : as.length = n2) (hrest : (rest.map fun v => v.category).sum ≤ 8) (hd2 : d2 + 1 ≤ d)
    (hC : sC y2 d2 (.ref a :: as) F A post2) (kk : ∀ r F' A', post2 r F' A' → sA y d post (pc + 3) lv (r.toList ++ rest) F' A') : sA y d post (pc) lv (st) (F) (A) := fun G =>
  am_callV (mc2 := 0) (ms2 := 0) hd ok.1 hlk ok.2.1 ok.2.2 hc hcq ha (gs_en_obj F A hs) hst hn2 hrest hd2 (Nat.le_refl _) (Nat.le_refl _) (hC G) (fun r N' h' hp => by
    obtain ⟨F', A', e1, e2, e3⟩ := hp
    subst e1 e2
    exact kk r F' A' e3 G)
theorem sA_callS {y2 : am_M} {n2 d2 idx : Nat} {as rest : List Value} {post2 : gs_T} (hd : decode y.2.1 pc = .ok (.invokestatic idx, 3)) (ok : am_okM y2 n2 ∧ Cond.static y2.1 ∈ am_tbl) (hlk : Cond.methodLink y.1.cls idx y2.1 ∈ am_tbl) (hst : st = as.reverse ++ rest) (hn2 : as.length = n2) (hrest : (rest.map fun v => v.category).sum ≤ 8) (hd2 : d2 + 1 ≤ d)
    (hC : sC y2 d2 as F A post2) (kk : ∀ r F' A', post2 r F' A' → sA y d post (pc + 3) lv (r.toList ++ rest) F' A') : sA y d post (pc) lv (st) (F) (A) := fun G =>
  am_callS (mc2 := 0) (ms2 := 0) hd ok.1 hlk ok.2 hst hn2 hrest hd2 (Nat.le_refl _) (Nat.le_refl _) (hC G) (fun r N' h' hp => by
    obtain ⟨F', A', e1, e2, e3⟩ := hp
    subst e1 e2
    exact kk r F' A' e3 G)
theorem sA_iret {z : Int} (hd : decode y.2.1 pc = .ok (.ireturn, 1)) (hrt : y.2.2.2 = some .int) (hp : post (some (gs_iv z)) F A) : sA y d post (pc) lv ([gs_iv z]) (F) (A) := fun G => am_iret (ty := .int) hd hrt rfl (Nat.le_refl _) (Nat.le_refl _) ⟨F, A, rfl, rfl, hp⟩
theorem gs_bool {z : Int} (h : z = 0 ∨ z = 1) : narrow .boolean (gs_iv z) = gs_iv z := by rcases h with rfl | rfl <;> rfl
theorem sA_bret {z : Int} (hd : decode y.2.1 pc = .ok (.ireturn, 1)) (hrt : y.2.2.2 = some .boolean) (hz : z = 0 ∨ z = 1) (hp : post (some (gs_iv z)) F A) : sA y d post (pc) lv ([gs_iv z]) (F) (A) := fun G => am_iret (ty := .boolean) hd hrt (gs_bool hz) (Nat.le_refl _) (Nat.le_refl _) ⟨F, A, rfl, rfl, hp⟩
theorem sA_lret {x : Int64} (hd : decode y.2.1 pc = .ok (.lreturn, 1)) (hrt : y.2.2.2 = some .long) (hp : post (some (.long x)) F A) : sA y d post (pc) lv ([.long x]) (F) (A) := fun G => am_lret hd hrt (Nat.le_refl _) (Nat.le_refl _) ⟨F, A, rfl, rfl, hp⟩
theorem sA_vret (hd : decode y.2.1 pc = .ok (.return_, 1)) (hrt : y.2.2.2 = none) (hp : post none F A) : sA y d post (pc) lv ([]) (F) (A) := fun G => am_vret hd hrt (Nat.le_refl _) (Nat.le_refl _) ⟨F, A, rfl, rfl, hp⟩
theorem sC_of {n2 : Nat} {as : List Value} (ok : am_okM y n2) (hlen : (lg_sl as).length ≤ y.2.2.1) (kk : sA y d post 0 (lv_args 0 as) [] F A) : sC y d as F A post := fun G => am_ofA ok hlen (kk G)
theorem sC.mono {as : List Value} {post2 : gs_T} (hC : sC y d as F A post) (hp : ∀ r F' A', post r F' A' → post2 r F' A') : sC y d as F A post2 := fun G => (hC G).mono (fun r N' h' q => by
  obtain ⟨F', A', e1, e2, e3⟩ := q
  exact ⟨F', A', e1, e2, hp _ _ _ e3⟩)
theorem sA_mmax {x z : Int} {idx : Nat} (hd : decode y.2.1 pc = .ok (.invokestatic idx, 3)) (hlk : Cond.methodLink y.1.cls idx Lib.Math.max.name ∈ am_tbl) (hdd : 1 ≤ d) (hx : -2147483648 ≤ x ∧ x ≤ 2147483647) (hz : -2147483648 ≤ z ∧ z ≤ 2147483647) (hrest : (st.map fun v => v.category).sum ≤ 20) (kk : ∀ w : Int, (w = x ∨ w = z) ∧ x ≤ w ∧ z ≤ w → sA y d post (pc + 3) lv (gs_iv w :: st) (F) (A)) : sA y d post (pc) lv (gs_iv z :: gs_iv x :: st) (F) (A) := fun G => am_mmax hd hlk hdd (Nat.le_refl _) (Nat.le_refl _) hrest (by
  by_cases q : x < z
  · rw [if_pos ((gs_lt hx hz).mpr q)]
    exact kk z ⟨.inr rfl, by omega⟩ G
  · rw [if_neg (fun w => q ((gs_lt hx hz).mp w))]
    exact kk x ⟨.inl rfl, by omega⟩ G)
theorem sA_mmin {x z : Int} {idx : Nat} (hd : decode y.2.1 pc = .ok (.invokestatic idx, 3)) (hlk : Cond.methodLink y.1.cls idx Lib.Math.min.name ∈ am_tbl) (hdd : 1 ≤ d) (hx : -2147483648 ≤ x ∧ x ≤ 2147483647) (hz : -2147483648 ≤ z ∧ z ≤ 2147483647) (hrest : (st.map fun v => v.category).sum ≤ 20) (kk : ∀ w : Int, (w = x ∨ w = z) ∧ w ≤ x ∧ w ≤ z → sA y d post (pc + 3) lv (gs_iv w :: st) (F) (A)) : sA y d post (pc) lv (gs_iv z :: gs_iv x :: st) (F) (A) := fun G => am_mmin hd hlk hdd (Nat.le_refl _) (Nat.le_refl _) hrest (by
  by_cases q : z < x
  · rw [if_pos ((gs_lt hz hx).mpr q)]
    exact kk z ⟨.inr rfl, by omega⟩ G
  · rw [if_neg (fun w => q ((gs_lt hz hx).mp w))]
    exact kk x ⟨.inl rfl, by omega⟩ G)
theorem sA_mabs {x : Int} {idx : Nat} (hd : decode y.2.1 pc = .ok (.invokestatic idx, 3)) (hlk : Cond.methodLink y.1.cls idx Lib.Math.abs.name ∈ am_tbl) (hdd : 1 ≤ d) (hx : -2147483648 ≤ x ∧ x ≤ 2147483647) (hrest : (st.map fun v => v.category).sum ≤ 20) (kk : ∀ w : Int, (0 ≤ x ∧ w = x) ∨ (x < 0 ∧ w = 0 - x) → sA y d post (pc + 3) lv (gs_iv w :: st) (F) (A)) : sA y d post (pc) lv (gs_iv x :: st) (F) (A) := fun G => am_mabs hd hlk hdd (Nat.le_refl _) (Nat.le_refl _) hrest (by
  by_cases q : 0 ≤ x
  · rw [if_pos (by rw [gs_0]; exact (gs_le (by omega) hx).mpr q)]
    exact kk x (.inl ⟨q, rfl⟩) G
  · rw [if_neg (fun w => q ((gs_le (by omega) hx).mp (by rw [gs_0] at w; exact w)))]
    have k := kk (0 - x) (.inr ⟨by omega, rfl⟩) G
    unfold gs_iv at k
    rw [Int32.ofInt_sub] at k
    exact k)
theorem sA_idivN {x z : Int} (hd : decode y.2.1 pc = .ok (.idiv, 1)) (h0 : 0 ≤ x) (hx : x ≤ 2147483647) (hz : 0 < z ∧ z ≤ 2147483647) (kk : sA y d post (pc + 1) lv (gs_iv (x / z) :: st) (F) (A)) : sA y d post (pc) lv (gs_iv z :: gs_iv x :: st) (F) (A) := sA_idiv hd (by omega) (by omega) (by omega) (by rw [Int.tdiv_eq_ediv_of_nonneg h0]; exact kk)
theorem sA_iremN {x z : Int} (hd : decode y.2.1 pc = .ok (.irem, 1)) (h0 : 0 ≤ x) (hx : x ≤ 2147483647) (hz : 0 < z ∧ z ≤ 2147483647) (kk : sA y d post (pc + 1) lv (gs_iv (x % z) :: st) (F) (A)) : sA y d post (pc) lv (gs_iv z :: gs_iv x :: st) (F) (A) := sA_irem hd (by omega) (by omega) (by omega) (by rw [Int.tmod_eq_emod_of_nonneg h0]; exact kk)
theorem sA_laddR {x z : Int64} (hd : decode y.2.1 pc = .ok (.ladd, 1)) (kk : sA y d post (pc + 1) lv (.long (x + z) :: st) (F) (A)) : sA y d post (pc) lv (.long z :: .long x :: st) (F) (A) := fun G => am_ladd hd (kk G)
theorem sA_lsubR {x z : Int64} (hd : decode y.2.1 pc = .ok (.lsub, 1)) (kk : sA y d post (pc + 1) lv (.long (x - z) :: st) (F) (A)) : sA y d post (pc) lv (.long z :: .long x :: st) (F) (A) := fun G => am_lsub hd (kk G)
theorem sA_lmulR {x z : Int64} (hd : decode y.2.1 pc = .ok (.lmul, 1)) (kk : sA y d post (pc + 1) lv (.long (x * z) :: st) (F) (A)) : sA y d post (pc) lv (.long z :: .long x :: st) (F) (A) := fun G => am_lmul hd (kk G)
theorem gs_l_rng (x : Int64) : -9223372036854775808 ≤ x.toInt ∧ x.toInt ≤ 9223372036854775807 := by
  have h1 := Int64.le_toInt x
  have h2 := Int64.toInt_lt x
  omega
theorem sA_lastR {a n : Nat} {z : Int} {x : Int64} (hd : decode y.2.1 pc = .ok (.lastore, 1)) (ha : a < 122) (hs : gs_sh a = .inr (.inl (1, n))) (hi : 0 ≤ z ∧ z < n) (hn : n ≤ 2147483647) (kk : sA y d post (pc + 1) lv (st) (F) (gs_up A a z.toNat x.toInt)) : sA y d post (pc) lv (.long x :: gs_iv z :: .ref a :: st) (F) (A) := by
  have e : Value.long x = gs_lv x.toInt := by unfold gs_lv; rw [Int64.ofInt_toInt]
  rw [e]
  exact sA_last hd ha hs hi hn kk
end
end
end
section
noncomputable section
/-! ===== what holds of the two tables between calls; which cells a call may change ===== -/
def gs_I (F A : gs_F) : Prop := (∀ a j, (gs_bF a j).1 ≤ F a j ∧ F a j ≤ (gs_bF a j).2) ∧ (∀ a i, (gs_bA a).1 ≤ A a i ∧ A a i ≤ (gs_bA a).2)
def gs_fr (S : Nat → Nat → Prop) (T : Nat → Prop) (F A F' A' : gs_F) : Prop := (∀ b j, ¬ S b j → F' b j = F b j) ∧ (∀ b, ¬ T b → A' b = A b)
section
variable {F A F1 A1 F2 A2 : gs_F} {S S2 : Nat → Nat → Prop} {T T2 : Nat → Prop}
theorem gs_I_put (h : gs_I F A) {a j : Nat} {z : Int} (hz : (gs_bF a j).1 ≤ z ∧ z ≤ (gs_bF a j).2) : gs_I (gs_up F a j z) A := ⟨fun b k => by
  by_cases q : b = a ∧ k = j
  · obtain ⟨rfl, rfl⟩ := q
    rw [gs_up_self]
    exact hz
  · rw [gs_up_ne F z (by omega)]
    exact h.1 b k, h.2⟩
theorem gs_I_ast (h : gs_I F A) {a i : Nat} {z : Int} (hz : (gs_bA a).1 ≤ z ∧ z ≤ (gs_bA a).2) : gs_I F (gs_up A a i z) := ⟨h.1, fun b k => by
  by_cases q : b = a ∧ k = i
  · obtain ⟨rfl, rfl⟩ := q
    rw [gs_up_self]
    exact hz
  · rw [gs_up_ne A z (by omega)]
    exact h.2 b k⟩
theorem gs_I_cp (h : gs_I F A) {a b sp dp n : Nat} {p q : Int × Int} (hb : gs_bA b = p) (ha : gs_bA a = q) (hpq : p.1 ≤ q.1 ∧ q.2 ≤ p.2) : gs_I F (gs_cp A a b sp dp n) := ⟨h.1, fun c k => by
  unfold gs_cp
  split
  · rename_i w
    have h2 := h.2 a (sp + (k - dp))
    rw [w.1, hb]
    rw [ha] at h2
    omega
  · exact h.2 c k⟩
theorem gs_fr_refl (S : Nat → Nat → Prop) (T : Nat → Prop) (F A : gs_F) : gs_fr S T F A F A := ⟨fun _ _ _ => rfl, fun _ _ => rfl⟩
theorem gs_fr_put (h : gs_fr S T F A F1 A1) {a j : Nat} {z : Int} (hS : S a j) : gs_fr S T F A (gs_up F1 a j z) A1 := ⟨fun b k hb => by
  rw [gs_up_ne F1 z (by
    rcases Classical.em (b = a) with rfl | q
    · right; intro q2; subst q2; exact hb hS
    · exact .inl q)]
  exact h.1 b k hb, h.2⟩
theorem gs_fr_ast (h : gs_fr S T F A F1 A1) {a i : Nat} {z : Int} (hS : T a) : gs_fr S T F A F1 (gs_up A1 a i z) := ⟨h.1, fun b hb => by
  rw [gs_up_row A1 z (by intro q; subst q; exact hb hS)]
  exact h.2 b hb⟩
theorem gs_fr_cp (h : gs_fr S T F A F1 A1) {a b sp dp n : Nat} (hS : T b) : gs_fr S T F A F1 (gs_cp A1 a b sp dp n) := ⟨h.1, fun c hc => by
  rw [gs_cp_row A1 (by intro q; subst q; exact hc hS)]
  exact h.2 c hc⟩
theorem gs_fr_tr (h : gs_fr S T F A F1 A1) (h2 : gs_fr S2 T2 F1 A1 F2 A2) (hS : ∀ b j, S2 b j → S b j) (hT : ∀ b, T2 b → T b) : gs_fr S T F A F2 A2 :=
  ⟨fun b j q => (h2.1 b j (fun w => q (hS b j w))).trans (h.1 b j q), fun b q => (h2.2 b (fun w => q (hT b w))).trans (h.2 b q)⟩
end
abbrev gs_row (a L : Nat) : Prop := a + 1 < 122 ∧ gs_sh a = .inl (4, [some (a + 1), none]) ∧ gs_sh (a + 1) = .inr (.inl (0, L)) ∧ gs_bF a 1 = (0, (L : Int)) ∧ gs_bA (a + 1) = (-9, 9) ∧ 1 ≤ L ∧ L ≤ 400
abbrev gs_plan (a : Nat) : Prop := a + 1 < 122 ∧ gs_sh a = .inl (2, [some (a + 1), none]) ∧ gs_sh (a + 1) = .inr (.inl (0, 60)) ∧ gs_bF a 1 = (0, 60) ∧ gs_bA (a + 1) = (-2147483648, 2147483647)
abbrev gs_ring (a : Nat) : Prop := a + 1 < 122 ∧ gs_sh a = .inl (3, [some (a + 1), none, none]) ∧ gs_row (a + 1) 60 ∧ gs_bF a 1 = (0, 1) ∧ gs_bF a 2 = (-2147483648, 2147483647)
theorem gs_row_im {k : Nat} (h : k < 6) : gs_row (18 + 2 * k) 400 := by
  match k, h with
  | 0, _ => decide +kernel
  | 1, _ => decide +kernel
  | 2, _ => decide +kernel
  | 3, _ => decide +kernel
  | 4, _ => decide +kernel
  | 5, _ => decide +kernel
  | k + 6, h => omega
theorem gs_row_st {k : Nat} (h : k < 4) : gs_row (35 + 2 * k) 400 := by
  match k, h with
  | 0, _ => decide +kernel
  | 1, _ => decide +kernel
  | 2, _ => decide +kernel
  | 3, _ => decide +kernel
  | k + 4, h => omega
theorem gs_plan_at {k : Nat} (h : k < 8) : gs_plan (90 + 2 * k) := by
  match k, h with
  | 0, _ => decide +kernel
  | 1, _ => decide +kernel
  | 2, _ => decide +kernel
  | 3, _ => decide +kernel
  | 4, _ => decide +kernel
  | 5, _ => decide +kernel
  | 6, _ => decide +kernel
  | 7, _ => decide +kernel
  | k + 8, h => omega
theorem gs_ring_at {k : Nat} (h : k < 12) : gs_ring (54 + 3 * k) := by
  match k, h with
  | 0, _ => exact ⟨by decide, by decide +kernel, (by decide +kernel : gs_row _ 60), by decide +kernel, by decide +kernel⟩
  | 1, _ => exact ⟨by decide, by decide +kernel, (by decide +kernel : gs_row _ 60), by decide +kernel, by decide +kernel⟩
  | 2, _ => exact ⟨by decide, by decide +kernel, (by decide +kernel : gs_row _ 60), by decide +kernel, by decide +kernel⟩
  | 3, _ => exact ⟨by decide, by decide +kernel, (by decide +kernel : gs_row _ 60), by decide +kernel, by decide +kernel⟩
  | 4, _ => exact ⟨by decide, by decide +kernel, (by decide +kernel : gs_row _ 60), by decide +kernel, by decide +kernel⟩
  | 5, _ => exact ⟨by decide, by decide +kernel, (by decide +kernel : gs_row _ 60), by decide +kernel, by decide +kernel⟩
  | 6, _ => exact ⟨by decide, by decide +kernel, (by decide +kernel : gs_row _ 60), by decide +kernel, by decide +kernel⟩
  | 7, _ => exact ⟨by decide, by decide +kernel, (by decide +kernel : gs_row _ 60), by decide +kernel, by decide +kernel⟩
  | 8, _ => exact ⟨by decide, by decide +kernel, (by decide +kernel : gs_row _ 60), by decide +kernel, by decide +kernel⟩
  | 9, _ => exact ⟨by decide, by decide +kernel, (by decide +kernel : gs_row _ 60), by decide +kernel, by decide +kernel⟩
  | 10, _ => exact ⟨by decide, by decide +kernel, (by decide +kernel : gs_row _ 60), by decide +kernel, by decide +kernel⟩
  | 11, _ => exact ⟨by decide, by decide +kernel, (by decide +kernel : gs_row _ 60), by decide +kernel, by decide +kernel⟩
  | k + 12, h => omega
theorem gs_row_3 : gs_row 3 60 := by decide +kernel
theorem gs_row_8 : gs_row 8 9 := by decide +kernel
theorem gs_row_10 : gs_row 10 9 := by decide +kernel
theorem gs_row_13 : gs_row 13 60 := by decide +kernel
theorem gs_row_33 : gs_row 33 60 := by decide +kernel
theorem gs_row_35 : gs_row 35 400 := by decide +kernel
theorem gs_row_48 : gs_row 48 400 := by decide +kernel
theorem gs_plan_44 : gs_plan 44 := by decide +kernel
theorem gs_plan_50 : gs_plan 50 := by decide +kernel
theorem gs_plan_52 : gs_plan 52 := by decide +kernel
section
variable {F A : gs_F} {a L : Nat}
theorem gs_row_sz (h : gs_row a L) (hI : gs_I F A) : 0 ≤ F a 1 ∧ F a 1 ≤ (L : Int) ∧ (L : Int) ≤ 400 := by
  have b := hI.1 a 1
  rw [h.2.2.2.1] at b
  have := h.2.2.2.2.2.2
  exact ⟨b.1, b.2, by omega⟩
theorem gs_row_el (h : gs_row a L) (hI : gs_I F A) (i : Nat) : -9 ≤ A (a + 1) i ∧ A (a + 1) i ≤ 9 := by
  have b := hI.2 (a + 1) i
  rw [h.2.2.2.2.1] at b
  exact b
theorem gs_row_put (h : gs_row a L) (hI : gs_I F A) {z : Int} (hz : 0 ≤ z ∧ z ≤ (L : Int)) : gs_I (gs_up F a 1 z) A := gs_I_put hI (by rw [h.2.2.2.1]; exact hz)
theorem gs_row_ast (h : gs_row a L) (hI : gs_I F A) {i : Nat} {z : Int} (hz : -9 ≤ z ∧ z ≤ 9) : gs_I F (gs_up A (a + 1) i z) := gs_I_ast hI (by rw [h.2.2.2.2.1]; exact hz)
theorem gs_plan_sz (h : gs_plan a) (hI : gs_I F A) : 0 ≤ F a 1 ∧ F a 1 ≤ 60 := by
  have b := hI.1 a 1
  rw [h.2.2.2.1] at b
  exact b
theorem gs_plan_el (h : gs_plan a) (hI : gs_I F A) (i : Nat) : -2147483648 ≤ A (a + 1) i ∧ A (a + 1) i ≤ 2147483647 := by
  have b := hI.2 (a + 1) i
  rw [h.2.2.2.2] at b
  exact b
theorem gs_plan_put (h : gs_plan a) (hI : gs_I F A) {z : Int} (hz : 0 ≤ z ∧ z ≤ 60) : gs_I (gs_up F a 1 z) A := gs_I_put hI (by rw [h.2.2.2.1]; exact hz)
theorem gs_plan_ast (h : gs_plan a) (hI : gs_I F A) {i : Nat} {z : Int} (hz : -2147483648 ≤ z ∧ z ≤ 2147483647) : gs_I F (gs_up A (a + 1) i z) := gs_I_ast hI (by rw [h.2.2.2.2]; exact hz)
theorem gs_ring_f1 (h : gs_ring a) (hI : gs_I F A) : 0 ≤ F a 1 ∧ F a 1 ≤ 1 := by
  have b := hI.1 a 1
  rw [h.2.2.2.1] at b
  exact b
theorem gs_ring_f2 (h : gs_ring a) (hI : gs_I F A) : -2147483648 ≤ F a 2 ∧ F a 2 ≤ 2147483647 := by
  have b := hI.1 a 2
  rw [h.2.2.2.2] at b
  exact b
theorem gs_ring_put1 (h : gs_ring a) (hI : gs_I F A) {z : Int} (hz : 0 ≤ z ∧ z ≤ 1) : gs_I (gs_up F a 1 z) A := gs_I_put hI (by rw [h.2.2.2.1]; exact hz)
theorem gs_ring_put2 (h : gs_ring a) (hI : gs_I F A) {z : Int} (hz : -2147483648 ≤ z ∧ z ≤ 2147483647) : gs_I (gs_up F a 2 z) A := gs_I_put hI (by rw [h.2.2.2.2]; exact hz)
end
theorem gs_copyok : Cond.native arraycopyName ∈ am_tbl ∧ Cond.static arraycopyName ∈ am_tbl ∧ Cond.initialized "java/lang/System" ∈ am_tbl := by decide +kernel
theorem gs_pl_bd (k : Nat) : 0 ≤ gs_t (am_PL k) ∧ gs_t (am_PL k) ≤ 11 := by
  match k with
  | 0 => decide
  | 1 => decide
  | 2 => decide
  | 3 => decide
  | 4 => decide
  | 5 => decide
  | 6 => decide
  | 7 => decide
  | 8 => decide
  | 9 => decide
  | 10 => decide
  | 11 => decide
  | 12 => decide
  | k + 13 =>
    have e : am_PL (k + 13) = 0 := by simp [am_PL]
    rw [e]
    decide
theorem gs_and_le {x z : Int} (h : 0 ≤ x ∧ x ≤ 2147483647) : 0 ≤ gs_t (Int32.ofInt x &&& Int32.ofInt z) ∧ gs_t (Int32.ofInt x &&& Int32.ofInt z) ≤ x := by
  have hx : (Int32.ofInt x).toBitVec.toNat = x.toNat := by
    have h2 : (Int32.ofInt x).toBitVec.toInt = x := gs_toI ⟨by omega, by omega⟩
    have h3 := (Int32.ofInt x).toBitVec.isLt
    rw [BitVec.toInt_eq_toNat_cond] at h2
    split at h2 <;> omega
  have hle : (Int32.ofInt x &&& Int32.ofInt z).toBitVec.toNat ≤ x.toNat := by
    rw [Int32.toBitVec_and, BitVec.toNat_and, hx]
    exact Nat.and_le_left
  have e2 : gs_t (Int32.ofInt x &&& Int32.ofInt z) = ((Int32.ofInt x &&& Int32.ofInt z).toBitVec.toNat : Int) := by
    unfold gs_t
    show (Int32.ofInt x &&& Int32.ofInt z).toBitVec.toInt = _
    rw [BitVec.toInt_eq_toNat_of_lt (by omega)]
  omega
theorem gs_row_37 : gs_row 37 400 := by decide +kernel
theorem gs_row_39 : gs_row 39 400 := by decide +kernel
theorem gs_row_41 : gs_row 41 400 := by decide +kernel
theorem gs_shl1 {x : Int} (h : 0 ≤ x ∧ x ≤ 6) : 1 ≤ gs_t (Int32.ofInt 1 <<< (Int32.ofInt x &&& 31)) ∧ gs_t (Int32.ofInt 1 <<< (Int32.ofInt x &&& 31)) ≤ 64 := by
  have e : x = 0 ∨ x = 1 ∨ x = 2 ∨ x = 3 ∨ x = 4 ∨ x = 5 ∨ x = 6 := by omega
  rcases e with rfl | rfl | rfl | rfl | rfl | rfl | rfl <;> decide
theorem gs_mul_bd {x y m k : Int} (h1 : -m ≤ x ∧ x ≤ m) (h2 : 0 ≤ y ∧ y ≤ k) (h3 : 0 ≤ m) : -(m * k) ≤ x * y ∧ x * y ≤ m * k := by
  have a1 : x * y ≤ m * y := Int.mul_le_mul_of_nonneg_right h1.2 h2.1
  have a2 : m * y ≤ m * k := Int.mul_le_mul_of_nonneg_left h2.2 h3
  have a3 : -m * y ≤ x * y := Int.mul_le_mul_of_nonneg_right h1.1 h2.1
  have a4 : -m * y = -(m * y) := Int.neg_mul m y
  omega
theorem gs_mul_np {x y : Int} (h1 : x ≤ 0) (h2 : 0 ≤ y) : x * y ≤ 0 := by
  have := Int.mul_le_mul_of_nonneg_right h1 h2
  omega
theorem gs_tdiv2 {x : Int} : (0 ≤ x ∧ x.tdiv 2 = x / 2) ∨ (x ≤ 0 ∧ x.tdiv 2 = -((-x) / 2)) := by
  rcases Int.le_total 0 x with h | h
  · left
    exact ⟨h, Int.tdiv_eq_ediv_of_nonneg h⟩
  · right
    refine ⟨h, ?_⟩
    have e : (-(-x)).tdiv 2 = -((-x).tdiv 2) := Int.neg_tdiv (-x) 2
    rw [Int.neg_neg] at e
    rw [e, Int.tdiv_eq_ediv_of_nonneg (by omega)]
theorem gs_tdiv2s (x : Int) (h : -200 ≤ x ∧ x ≤ 200) : -100 ≤ x.tdiv 2 ∧ x.tdiv 2 ≤ 100 := by
  rcases @gs_tdiv2 x with ⟨q, e⟩ | ⟨q, e⟩ <;> rw [e] <;> omega
theorem gs_tdiv2b (x : Int) (h : -2147483648 ≤ x ∧ x ≤ 2147483647) : -1073741824 ≤ x.tdiv 2 ∧ x.tdiv 2 ≤ 1073741823 := by
  rcases @gs_tdiv2 x with ⟨q, e⟩ | ⟨q, e⟩ <;> rw [e] <;> omega
theorem gs_mul_ge {x y : Int} (h1 : 0 ≤ x) (h2 : 1 ≤ y) : x ≤ x * y := by
  have := Int.mul_le_mul_of_nonneg_left h2 h1
  omega
theorem gs_up_cs (A : gs_F) (a j : Nat) (z : Int) (k : Nat) : (k = j ∧ gs_up A a j z a k = z) ∨ (k ≠ j ∧ gs_up A a j z a k = A a k) := by
  by_cases h : k = j
  · left
    rw [h]
    exact ⟨rfl, gs_up_self _ _ _ _⟩
  · right
    exact ⟨h, gs_up_ne _ _ (.inr h)⟩
theorem gs_X_fr {F A F' A' : gs_F} (hX : ∀ r : Nat, (r : Int) < F 106 3 → 1 ≤ A 108 r) (h1 : F' 106 3 = F 106 3) (h2 : A' 108 = A 108) : ∀ r : Nat, (r : Int) < F' 106 3 → 1 ≤ A' 108 r := fun r h => by
  rw [h2]
  exact hX r (by omega)
end
end
section
noncomputable section
theorem dd_X4_push_0 : decode cX4_push 0 = .ok (.aload_n 0, 1) := by decide +kernel
theorem dd_X4_push_1 : decode cX4_push 1 = .ok (.getfield 19, 3) := by decide +kernel
theorem dd_X4_push_4 : decode cX4_push 4 = .ok (.ifCond .le 32, 3) := by decide +kernel
theorem dd_X4_push_7 : decode cX4_push 7 = .ok (.aload_n 0, 1) := by decide +kernel
theorem dd_X4_push_8 : decode cX4_push 8 = .ok (.getfield 13, 3) := by decide +kernel
theorem dd_X4_push_11 : decode cX4_push 11 = .ok (.aload_n 0, 1) := by decide +kernel
theorem dd_X4_push_12 : decode cX4_push 12 = .ok (.getfield 19, 3) := by decide +kernel
theorem dd_X4_push_15 : decode cX4_push 15 = .ok (.iconst 1, 1) := by decide +kernel
theorem dd_X4_push_16 : decode cX4_push 16 = .ok (.isub, 1) := by decide +kernel
theorem dd_X4_push_17 : decode cX4_push 17 = .ok (.iaload, 1) := by decide +kernel
theorem dd_X4_push_18 : decode cX4_push 18 = .ok (.iload_n 1, 1) := by decide +kernel
theorem dd_X4_push_19 : decode cX4_push 19 = .ok (.ineg, 1) := by decide +kernel
theorem dd_X4_push_20 : decode cX4_push 20 = .ok (.if_icmp .ne 16, 3) := by decide +kernel
theorem dd_X4_push_23 : decode cX4_push 23 = .ok (.aload_n 0, 1) := by decide +kernel
theorem dd_X4_push_24 : decode cX4_push 24 = .ok (.dup, 1) := by decide +kernel
theorem dd_X4_push_25 : decode cX4_push 25 = .ok (.getfield 19, 3) := by decide +kernel
theorem dd_X4_push_28 : decode cX4_push 28 = .ok (.iconst 1, 1) := by decide +kernel
theorem dd_X4_push_29 : decode cX4_push 29 = .ok (.isub, 1) := by decide +kernel
theorem dd_X4_push_30 : decode cX4_push 30 = .ok (.putfield 19, 3) := by decide +kernel
theorem dd_X4_push_33 : decode cX4_push 33 = .ok (.goto 35, 3) := by decide +kernel
theorem dd_X4_push_36 : decode cX4_push 36 = .ok (.aload_n 0, 1) := by decide +kernel
theorem dd_X4_push_37 : decode cX4_push 37 = .ok (.getfield 19, 3) := by decide +kernel
theorem dd_X4_push_40 : decode cX4_push 40 = .ok (.aload_n 0, 1) := by decide +kernel
theorem dd_X4_push_41 : decode cX4_push 41 = .ok (.getfield 13, 3) := by decide +kernel
theorem dd_X4_push_44 : decode cX4_push 44 = .ok (.arraylength, 1) := by decide +kernel
theorem dd_X4_push_45 : decode cX4_push 45 = .ok (.if_icmp .ge 23, 3) := by decide +kernel
theorem dd_X4_push_48 : decode cX4_push 48 = .ok (.aload_n 0, 1) := by decide +kernel
theorem dd_X4_push_49 : decode cX4_push 49 = .ok (.getfield 13, 3) := by decide +kernel
theorem dd_X4_push_52 : decode cX4_push 52 = .ok (.aload_n 0, 1) := by decide +kernel
theorem dd_X4_push_53 : decode cX4_push 53 = .ok (.getfield 19, 3) := by decide +kernel
theorem dd_X4_push_56 : decode cX4_push 56 = .ok (.iload_n 1, 1) := by decide +kernel
theorem dd_X4_push_57 : decode cX4_push 57 = .ok (.iastore, 1) := by decide +kernel
theorem dd_X4_push_58 : decode cX4_push 58 = .ok (.aload_n 0, 1) := by decide +kernel
theorem dd_X4_push_59 : decode cX4_push 59 = .ok (.dup, 1) := by decide +kernel
theorem dd_X4_push_60 : decode cX4_push 60 = .ok (.getfield 19, 3) := by decide +kernel
theorem dd_X4_push_63 : decode cX4_push 63 = .ok (.iconst 1, 1) := by decide +kernel
theorem dd_X4_push_64 : decode cX4_push 64 = .ok (.iadd, 1) := by decide +kernel
theorem dd_X4_push_65 : decode cX4_push 65 = .ok (.putfield 19, 3) := by decide +kernel
theorem dd_X4_push_68 : decode cX4_push 68 = .ok (.return_, 1) := by decide +kernel
theorem fl_X4_13 : Cond.fieldLink RX4 13 (TX4 0).1 (TX4 0).2.1 (TX4 0).2.2.1 ∈ am_tbl := ri_lw_in (pl := 116) (by decide +kernel)
theorem fl_X4_19 : Cond.fieldLink RX4 19 (TX4 1).1 (TX4 1).2.1 (TX4 1).2.2.1 ∈ am_tbl := ri_lw_in (pl := 120) (by decide +kernel)
theorem ok_X4_push : am_okM m_X4_push 1 ∧ Cond.instanceMethod m_X4_push.1 ∈ am_tbl ∧ Cond.selects m_X4_push.1.cls m_X4_push.1 m_X4_push.1 ∈ am_tbl := ⟨(ri_all 27).1, (ri_all 27).2.2.1 (by decide +kernel)⟩
theorem c_X4_push {a L : Nat} {x : Int} {F A : gs_F} (hI : gs_I F A) (hr : gs_row a L) (hx : -9 ≤ x ∧ x ≤ 9) : sC m_X4_push 1 [.ref a, gs_iv x] F A (fun r F' A' => r = none ∧ gs_I F' A' ∧ gs_fr (fun c j => c = a ∧ j = 1) (fun c => c = a + 1) F A F' A' ∧ (F' a 1 ≤ F a 1 + 1 ∧ F a 1 - 1 ≤ F' a 1)) := by
  refine sC_of ok_X4_push.1 (Nat.le_of_ble_eq_true rfl) ?_
  show sA _ _ _ 0 [(0, .ref a), (1, gs_iv x)] [] F A
  have hf : gs_fr (fun c j => c = a ∧ j = 1) (fun c => c = a + 1) F A F A := gs_fr_refl _ _ _ _
  have b1 := gs_row_sz hr hI
  refine sA_aload_n dd_X4_push_0 rfl (.head _) ?_
  refine sA_geti (ci := 4) (j := 1) (q := (RX4, TX4, 2)) dd_X4_push_1 rfl (by decide) fl_X4_19 (Nat.lt_of_succ_lt hr.1) hr.2.1 rfl ?_
  refine sA_if_le (tgt := 36) dd_X4_push_4 (by decide) (by omega) (fun q2 => ?_) (fun q2 => ?_)
  · skip
    refine sA_aload_n dd_X4_push_36 rfl (.head _) ?_
    refine sA_geti (ci := 4) (j := 1) (q := (RX4, TX4, 2)) dd_X4_push_37 rfl (by decide) fl_X4_19 (Nat.lt_of_succ_lt hr.1) hr.2.1 rfl ?_
    refine sA_aload_n dd_X4_push_40 rfl (.head _) ?_
    refine sA_getr (ci := 4) (j := 0) (q := (RX4, TX4, 2)) dd_X4_push_41 rfl (by decide) fl_X4_13 (Nat.lt_of_succ_lt hr.1) hr.2.1 rfl ?_
    refine sA_alen (n := L) dd_X4_push_44 hr.1 hr.2.2.1 ?_
    have b3 := hr.2.2.2.2.2
    refine sA_icmp_ge (tgt := 68) dd_X4_push_45 (by decide) (by omega) (by omega) (fun q4 => ?_) (fun q4 => ?_)
    · skip
      refine sA_vret dd_X4_push_68 rfl ?_
      exact ⟨rfl, hI, hf, by omega⟩
    · skip
      refine sA_aload_n dd_X4_push_48 rfl (.head _) ?_
      refine sA_getr (ci := 4) (j := 0) (q := (RX4, TX4, 2)) dd_X4_push_49 rfl (by decide) fl_X4_13 (Nat.lt_of_succ_lt hr.1) hr.2.1 rfl ?_
      refine sA_aload_n dd_X4_push_52 rfl (.head _) ?_
      refine sA_geti (ci := 4) (j := 1) (q := (RX4, TX4, 2)) dd_X4_push_53 rfl (by decide) fl_X4_19 (Nat.lt_of_succ_lt hr.1) hr.2.1 rfl ?_
      refine sA_iload_n dd_X4_push_56 rfl (.tail _ (.head _)) ?_
      refine sA_iast (n := L) dd_X4_push_57 hr.1 hr.2.2.1 (by omega) (Nat.le_trans hr.2.2.2.2.2.2 (by decide)) ?_
      have I6 : gs_I F (gs_up A (a + 1) ((F a 1).toNat) x) := gs_row_ast hr hI (by omega)
      have f7 := gs_fr_ast hf (a := a + 1) (z := x) (i := (F a 1).toNat) (by first | omega | (dsimp only; omega) | (dsimp only))
      generalize gs_up A (a + 1) ((F a 1).toNat) x = A5 at I6 f7 ⊢
      refine sA_aload_n dd_X4_push_58 rfl (.head _) ?_
      refine sA_dup dd_X4_push_59 rfl ?_
      refine sA_geti (ci := 4) (j := 1) (q := (RX4, TX4, 2)) dd_X4_push_60 rfl (by decide) fl_X4_19 (Nat.lt_of_succ_lt hr.1) hr.2.1 rfl ?_
      refine sA_iconst (z := 1) dd_X4_push_63 ?_
      refine sA_iadd dd_X4_push_64 ?_
      refine sA_put (ci := 4) (j := 1) (q := (RX4, TX4, 2)) (ty := .int) dd_X4_push_65 rfl (by decide) fl_X4_19 rfl (tyX4_ok 1 (by decide)) rfl rfl (Nat.lt_of_succ_lt hr.1) hr.2.1 rfl ?_
      have I9 : gs_I (gs_up F a 1 ((F a 1) + 1)) A5 := gs_row_put hr I6 (by omega)
      have f10 := gs_fr_put f7 (a := a) (z := (F a 1) + 1) (j := 1) (by first | omega | (dsimp only; omega) | (dsimp only))
      have v11 : gs_up F a 1 ((F a 1) + 1) a 1 = (F a 1) + 1 := gs_up_self _ _ _ _
      generalize gs_up F a 1 ((F a 1) + 1) = F8 at I9 f10 v11 ⊢
      refine sA_vret dd_X4_push_68 rfl ?_
      exact ⟨rfl, I9, f10, by omega⟩
  · skip
    refine sA_aload_n dd_X4_push_7 rfl (.head _) ?_
    refine sA_getr (ci := 4) (j := 0) (q := (RX4, TX4, 2)) dd_X4_push_8 rfl (by decide) fl_X4_13 (Nat.lt_of_succ_lt hr.1) hr.2.1 rfl ?_
    refine sA_aload_n dd_X4_push_11 rfl (.head _) ?_
    refine sA_geti (ci := 4) (j := 1) (q := (RX4, TX4, 2)) dd_X4_push_12 rfl (by decide) fl_X4_19 (Nat.lt_of_succ_lt hr.1) hr.2.1 rfl ?_
    refine sA_iconst (z := 1) dd_X4_push_15 ?_
    refine sA_isub dd_X4_push_16 ?_
    refine sA_iald (n := L) dd_X4_push_17 hr.1 hr.2.2.1 (by omega) (Nat.le_trans hr.2.2.2.2.2.2 (by decide)) ?_
    have b12 := gs_row_el hr hI ((F a 1) - 1).toNat
    refine sA_iload_n dd_X4_push_18 rfl (.tail _ (.head _)) ?_
    refine sA_ineg dd_X4_push_19 ?_
    refine sA_icmp_ne (tgt := 36) dd_X4_push_20 (by decide) (by omega) (by omega) (fun q13 => ?_) (fun q13 => ?_)
    · skip
      refine sA_aload_n dd_X4_push_36 rfl (.head _) ?_
      refine sA_geti (ci := 4) (j := 1) (q := (RX4, TX4, 2)) dd_X4_push_37 rfl (by decide) fl_X4_19 (Nat.lt_of_succ_lt hr.1) hr.2.1 rfl ?_
      refine sA_aload_n dd_X4_push_40 rfl (.head _) ?_
      refine sA_getr (ci := 4) (j := 0) (q := (RX4, TX4, 2)) dd_X4_push_41 rfl (by decide) fl_X4_13 (Nat.lt_of_succ_lt hr.1) hr.2.1 rfl ?_
      refine sA_alen (n := L) dd_X4_push_44 hr.1 hr.2.2.1 ?_
      have b14 := hr.2.2.2.2.2
      refine sA_icmp_ge (tgt := 68) dd_X4_push_45 (by decide) (by omega) (by omega) (fun q15 => ?_) (fun q15 => ?_)
      · skip
        refine sA_vret dd_X4_push_68 rfl ?_
        exact ⟨rfl, hI, hf, by omega⟩
      · skip
        refine sA_aload_n dd_X4_push_48 rfl (.head _) ?_
        refine sA_getr (ci := 4) (j := 0) (q := (RX4, TX4, 2)) dd_X4_push_49 rfl (by decide) fl_X4_13 (Nat.lt_of_succ_lt hr.1) hr.2.1 rfl ?_
        refine sA_aload_n dd_X4_push_52 rfl (.head _) ?_
        refine sA_geti (ci := 4) (j := 1) (q := (RX4, TX4, 2)) dd_X4_push_53 rfl (by decide) fl_X4_19 (Nat.lt_of_succ_lt hr.1) hr.2.1 rfl ?_
        refine sA_iload_n dd_X4_push_56 rfl (.tail _ (.head _)) ?_
        refine sA_iast (n := L) dd_X4_push_57 hr.1 hr.2.2.1 (by omega) (Nat.le_trans hr.2.2.2.2.2.2 (by decide)) ?_
        have I17 : gs_I F (gs_up A (a + 1) ((F a 1).toNat) x) := gs_row_ast hr hI (by omega)
        have f18 := gs_fr_ast hf (a := a + 1) (z := x) (i := (F a 1).toNat) (by first | omega | (dsimp only; omega) | (dsimp only))
        generalize gs_up A (a + 1) ((F a 1).toNat) x = A16 at I17 f18 ⊢
        refine sA_aload_n dd_X4_push_58 rfl (.head _) ?_
        refine sA_dup dd_X4_push_59 rfl ?_
        refine sA_geti (ci := 4) (j := 1) (q := (RX4, TX4, 2)) dd_X4_push_60 rfl (by decide) fl_X4_19 (Nat.lt_of_succ_lt hr.1) hr.2.1 rfl ?_
        refine sA_iconst (z := 1) dd_X4_push_63 ?_
        refine sA_iadd dd_X4_push_64 ?_
        refine sA_put (ci := 4) (j := 1) (q := (RX4, TX4, 2)) (ty := .int) dd_X4_push_65 rfl (by decide) fl_X4_19 rfl (tyX4_ok 1 (by decide)) rfl rfl (Nat.lt_of_succ_lt hr.1) hr.2.1 rfl ?_
        have I20 : gs_I (gs_up F a 1 ((F a 1) + 1)) A16 := gs_row_put hr I17 (by omega)
        have f21 := gs_fr_put f18 (a := a) (z := (F a 1) + 1) (j := 1) (by first | omega | (dsimp only; omega) | (dsimp only))
        have v22 : gs_up F a 1 ((F a 1) + 1) a 1 = (F a 1) + 1 := gs_up_self _ _ _ _
        generalize gs_up F a 1 ((F a 1) + 1) = F19 at I20 f21 v22 ⊢
        refine sA_vret dd_X4_push_68 rfl ?_
        exact ⟨rfl, I20, f21, by omega⟩
    · skip
      refine sA_aload_n dd_X4_push_23 rfl (.head _) ?_
      refine sA_dup dd_X4_push_24 rfl ?_
      refine sA_geti (ci := 4) (j := 1) (q := (RX4, TX4, 2)) dd_X4_push_25 rfl (by decide) fl_X4_19 (Nat.lt_of_succ_lt hr.1) hr.2.1 rfl ?_
      refine sA_iconst (z := 1) dd_X4_push_28 ?_
      refine sA_isub dd_X4_push_29 ?_
      refine sA_put (ci := 4) (j := 1) (q := (RX4, TX4, 2)) (ty := .int) dd_X4_push_30 rfl (by decide) fl_X4_19 rfl (tyX4_ok 1 (by decide)) rfl rfl (Nat.lt_of_succ_lt hr.1) hr.2.1 rfl ?_
      have I24 : gs_I (gs_up F a 1 ((F a 1) - 1)) A := gs_row_put hr hI (by omega)
      have f25 := gs_fr_put hf (a := a) (z := (F a 1) - 1) (j := 1) (by first | omega | (dsimp only; omega) | (dsimp only))
      have v26 : gs_up F a 1 ((F a 1) - 1) a 1 = (F a 1) - 1 := gs_up_self _ _ _ _
      generalize gs_up F a 1 ((F a 1) - 1) = F23 at I24 f25 v26 ⊢
      refine sA_goto (tgt := 68) dd_X4_push_33 (by decide) ?_
      refine sA_vret dd_X4_push_68 rfl ?_
      exact ⟨rfl, I24, f25, by omega⟩
theorem dd_X4_becomeLetter_0 : decode cX4_becomeLetter 0 = .ok (.aload_n 0, 1) := by decide +kernel
theorem dd_X4_becomeLetter_1 : decode cX4_becomeLetter 1 = .ok (.getfield 13, 3) := by decide +kernel
theorem dd_X4_becomeLetter_4 : decode cX4_becomeLetter 4 = .ok (.iconst 0, 1) := by decide +kernel
theorem dd_X4_becomeLetter_5 : decode cX4_becomeLetter 5 = .ok (.iload_n 1, 1) := by decide +kernel
theorem dd_X4_becomeLetter_6 : decode cX4_becomeLetter 6 = .ok (.iastore, 1) := by decide +kernel
theorem dd_X4_becomeLetter_7 : decode cX4_becomeLetter 7 = .ok (.aload_n 0, 1) := by decide +kernel
theorem dd_X4_becomeLetter_8 : decode cX4_becomeLetter 8 = .ok (.iconst 1, 1) := by decide +kernel
theorem dd_X4_becomeLetter_9 : decode cX4_becomeLetter 9 = .ok (.putfield 19, 3) := by decide +kernel
theorem dd_X4_becomeLetter_12 : decode cX4_becomeLetter 12 = .ok (.return_, 1) := by decide +kernel
theorem ok_X4_becomeLetter : am_okM m_X4_becomeLetter 1 ∧ Cond.instanceMethod m_X4_becomeLetter.1 ∈ am_tbl ∧ Cond.selects m_X4_becomeLetter.1.cls m_X4_becomeLetter.1 m_X4_becomeLetter.1 ∈ am_tbl := ⟨(ri_all 28).1, (ri_all 28).2.2.1 (by decide +kernel)⟩
theorem c_X4_becomeLetter {a L : Nat} {x : Int} {F A : gs_F} (hI : gs_I F A) (hr : gs_row a L) (hx : -9 ≤ x ∧ x ≤ 9) : sC m_X4_becomeLetter 1 [.ref a, gs_iv x] F A (fun r F' A' => r = none ∧ gs_I F' A' ∧ gs_fr (fun c j => c = a ∧ j = 1) (fun c => c = a + 1) F A F' A' ∧ (F' a 1 = 1)) := by
  refine sC_of ok_X4_becomeLetter.1 (Nat.le_of_ble_eq_true rfl) ?_
  show sA _ _ _ 0 [(0, .ref a), (1, gs_iv x)] [] F A
  have hf : gs_fr (fun c j => c = a ∧ j = 1) (fun c => c = a + 1) F A F A := gs_fr_refl _ _ _ _
  have b1 := gs_row_sz hr hI
  have hL := hr.2.2.2.2.2.1
  refine sA_aload_n dd_X4_becomeLetter_0 rfl (.head _) ?_
  refine sA_getr (ci := 4) (j := 0) (q := (RX4, TX4, 2)) dd_X4_becomeLetter_1 rfl (by decide) fl_X4_13 (Nat.lt_of_succ_lt hr.1) hr.2.1 rfl ?_
  refine sA_iconst (z := 0) dd_X4_becomeLetter_4 ?_
  refine sA_iload_n dd_X4_becomeLetter_5 rfl (.tail _ (.head _)) ?_
  refine sA_iast (n := L) dd_X4_becomeLetter_6 hr.1 hr.2.2.1 (by omega) (Nat.le_trans hr.2.2.2.2.2.2 (by decide)) ?_
  have I3 : gs_I F (gs_up A (a + 1) ((0 : Int).toNat) x) := gs_row_ast hr hI (by omega)
  have f4 := gs_fr_ast hf (a := a + 1) (z := x) (i := (0 : Int).toNat) (by first | omega | (dsimp only; omega) | (dsimp only))
  generalize gs_up A (a + 1) ((0 : Int).toNat) x = A2 at I3 f4 ⊢
  refine sA_aload_n dd_X4_becomeLetter_7 rfl (.head _) ?_
  refine sA_iconst (z := 1) dd_X4_becomeLetter_8 ?_
  refine sA_put (ci := 4) (j := 1) (q := (RX4, TX4, 2)) (ty := .int) dd_X4_becomeLetter_9 rfl (by decide) fl_X4_19 rfl (tyX4_ok 1 (by decide)) rfl rfl (Nat.lt_of_succ_lt hr.1) hr.2.1 rfl ?_
  have I6 : gs_I (gs_up F a 1 1) A2 := gs_row_put hr I3 (by omega)
  have f7 := gs_fr_put f4 (a := a) (z := 1) (j := 1) (by first | omega | (dsimp only; omega) | (dsimp only))
  have v8 : gs_up F a 1 1 a 1 = 1 := gs_up_self _ _ _ _
  generalize gs_up F a 1 1 = F5 at I6 f7 v8 ⊢
  refine sA_vret dd_X4_becomeLetter_12 rfl ?_
  exact ⟨rfl, I6, f7, by omega⟩
theorem dd_X4_copy_0 : decode cX4_copy 0 = .ok (.aload_n 0, 1) := by decide +kernel
theorem dd_X4_copy_1 : decode cX4_copy 1 = .ok (.aload_n 1, 1) := by decide +kernel
theorem dd_X4_copy_2 : decode cX4_copy 2 = .ok (.getfield 19, 3) := by decide +kernel
theorem dd_X4_copy_5 : decode cX4_copy 5 = .ok (.aload_n 0, 1) := by decide +kernel
theorem dd_X4_copy_6 : decode cX4_copy 6 = .ok (.getfield 13, 3) := by decide +kernel
theorem dd_X4_copy_9 : decode cX4_copy 9 = .ok (.arraylength, 1) := by decide +kernel
theorem dd_X4_copy_10 : decode cX4_copy 10 = .ok (.invokestatic 23, 3) := by decide +kernel
theorem dd_X4_copy_13 : decode cX4_copy 13 = .ok (.putfield 19, 3) := by decide +kernel
theorem dd_X4_copy_16 : decode cX4_copy 16 = .ok (.aload_n 1, 1) := by decide +kernel
theorem dd_X4_copy_17 : decode cX4_copy 17 = .ok (.getfield 13, 3) := by decide +kernel
theorem dd_X4_copy_20 : decode cX4_copy 20 = .ok (.iconst 0, 1) := by decide +kernel
theorem dd_X4_copy_21 : decode cX4_copy 21 = .ok (.aload_n 0, 1) := by decide +kernel
theorem dd_X4_copy_22 : decode cX4_copy 22 = .ok (.getfield 13, 3) := by decide +kernel
theorem dd_X4_copy_25 : decode cX4_copy 25 = .ok (.iconst 0, 1) := by decide +kernel
theorem dd_X4_copy_26 : decode cX4_copy 26 = .ok (.aload_n 0, 1) := by decide +kernel
theorem dd_X4_copy_27 : decode cX4_copy 27 = .ok (.getfield 19, 3) := by decide +kernel
theorem dd_X4_copy_30 : decode cX4_copy 30 = .ok (.invokestatic 26, 3) := by decide +kernel
theorem dd_X4_copy_33 : decode cX4_copy 33 = .ok (.return_, 1) := by decide +kernel
theorem ok_X4_copy : am_okM m_X4_copy 1 ∧ Cond.instanceMethod m_X4_copy.1 ∈ am_tbl ∧ Cond.selects m_X4_copy.1.cls m_X4_copy.1 m_X4_copy.1 ∈ am_tbl := ⟨(ri_all 29).1, (ri_all 29).2.2.1 (by decide +kernel)⟩
theorem c_X4_copy {a L b M : Nat} {F A : gs_F} (hI : gs_I F A) (hr : gs_row a L) (ho : gs_row b M) : sC m_X4_copy 1 [.ref a, .ref b] F A (fun r F' A' => r = none ∧ gs_I F' A' ∧ gs_fr (fun c j => c = a ∧ j = 1) (fun c => c = a + 1) F A F' A' ∧ (F' a 1 ≤ F b 1 ∧ (F b 1 ≤ (L : Int) → F' a 1 = F b 1))) := by
  refine sC_of ok_X4_copy.1 (Nat.le_of_ble_eq_true rfl) ?_
  show sA _ _ _ 0 [(0, .ref a), (1, .ref b)] [] F A
  have hf : gs_fr (fun c j => c = a ∧ j = 1) (fun c => c = a + 1) F A F A := gs_fr_refl _ _ _ _
  have b1 := gs_row_sz hr hI
  have b2 := gs_row_sz ho hI
  refine sA_aload_n dd_X4_copy_0 rfl (.head _) ?_
  refine sA_aload_n dd_X4_copy_1 rfl (.tail _ (.head _)) ?_
  refine sA_geti (ci := 4) (j := 1) (q := (RX4, TX4, 2)) dd_X4_copy_2 rfl (by decide) fl_X4_19 (Nat.lt_of_succ_lt ho.1) ho.2.1 rfl ?_
  refine sA_aload_n dd_X4_copy_5 rfl (.head _) ?_
  refine sA_getr (ci := 4) (j := 0) (q := (RX4, TX4, 2)) dd_X4_copy_6 rfl (by decide) fl_X4_13 (Nat.lt_of_succ_lt hr.1) hr.2.1 rfl ?_
  refine sA_alen (n := L) dd_X4_copy_9 hr.1 hr.2.2.1 ?_
  have b3 := hr.2.2.2.2.2
  refine sA_mmin dd_X4_copy_10 (ri_lw_in (pl := 338) (by decide +kernel)) (by decide) (by omega) (by omega) (Nat.le_of_ble_eq_true rfl) (fun w4 q5 => ?_)
  refine sA_put (ci := 4) (j := 1) (q := (RX4, TX4, 2)) (ty := .int) dd_X4_copy_13 rfl (by decide) fl_X4_19 rfl (tyX4_ok 1 (by decide)) rfl rfl (Nat.lt_of_succ_lt hr.1) hr.2.1 rfl ?_
  have I7 : gs_I (gs_up F a 1 w4) A := gs_row_put hr hI (by omega)
  have f8 := gs_fr_put hf (a := a) (z := w4) (j := 1) (by first | omega | (dsimp only; omega) | (dsimp only))
  have v9 : gs_up F a 1 w4 a 1 = w4 := gs_up_self _ _ _ _
  generalize gs_up F a 1 w4 = F6 at I7 f8 v9 ⊢
  refine sA_aload_n dd_X4_copy_16 rfl (.tail _ (.head _)) ?_
  refine sA_getr (ci := 4) (j := 0) (q := (RX4, TX4, 2)) dd_X4_copy_17 rfl (by decide) fl_X4_13 (Nat.lt_of_succ_lt ho.1) ho.2.1 rfl ?_
  refine sA_iconst (z := 0) dd_X4_copy_20 ?_
  refine sA_aload_n dd_X4_copy_21 rfl (.head _) ?_
  refine sA_getr (ci := 4) (j := 0) (q := (RX4, TX4, 2)) dd_X4_copy_22 rfl (by decide) fl_X4_13 (Nat.lt_of_succ_lt hr.1) hr.2.1 rfl ?_
  refine sA_iconst (z := 0) dd_X4_copy_25 ?_
  refine sA_aload_n dd_X4_copy_26 rfl (.head _) ?_
  refine sA_geti (ci := 4) (j := 1) (q := (RX4, TX4, 2)) dd_X4_copy_27 rfl (by decide) fl_X4_19 (Nat.lt_of_succ_lt hr.1) hr.2.1 rfl ?_
  have b10 := gs_row_sz hr I7
  refine sA_copy (n1 := M) (n2 := L) dd_X4_copy_30 (ri_lw_in (pl := 412) (by decide +kernel)) gs_copyok ho.1 ho.2.2.1 hr.1 hr.2.2.1 (by omega) (by omega) (by omega) (by omega) (by omega) (Nat.le_trans ho.2.2.2.2.2.2 (by decide)) (Nat.le_trans hr.2.2.2.2.2.2 (by decide)) (by decide) (Nat.le_of_ble_eq_true rfl) ?_
  have I12 : gs_I F6 (gs_cp A (b + 1) (a + 1) (0 : Int).toNat (0 : Int).toNat (F6 a 1).toNat) := gs_I_cp I7 (b := (a + 1)) (a := (b + 1)) (p := ((-9), 9)) (q := ((-9), 9)) hr.2.2.2.2.1 ho.2.2.2.2.1 (by decide)
  have f13 := gs_fr_cp f8 (a := (b + 1)) (b := (a + 1)) (sp := (0 : Int).toNat) (dp := (0 : Int).toNat) (n := (F6 a 1).toNat) (by first | omega | (dsimp only; omega) | (dsimp only))
  generalize gs_cp A (b + 1) (a + 1) (0 : Int).toNat (0 : Int).toNat (F6 a 1).toNat = A11 at I12 f13 ⊢
  refine sA_vret dd_X4_copy_33 rfl ?_
  exact ⟨rfl, I12, f13, by omega⟩
theorem dd_X4_becomeBack_0 : decode cX4_becomeBack 0 = .ok (.aload_n 0, 1) := by decide +kernel
theorem dd_X4_becomeBack_1 : decode cX4_becomeBack 1 = .ok (.aload_n 1, 1) := by decide +kernel
theorem dd_X4_becomeBack_2 : decode cX4_becomeBack 2 = .ok (.getfield 19, 3) := by decide +kernel
theorem dd_X4_becomeBack_5 : decode cX4_becomeBack 5 = .ok (.aload_n 0, 1) := by decide +kernel
theorem dd_X4_becomeBack_6 : decode cX4_becomeBack 6 = .ok (.getfield 13, 3) := by decide +kernel
theorem dd_X4_becomeBack_9 : decode cX4_becomeBack 9 = .ok (.arraylength, 1) := by decide +kernel
theorem dd_X4_becomeBack_10 : decode cX4_becomeBack 10 = .ok (.invokestatic 23, 3) := by decide +kernel
theorem dd_X4_becomeBack_13 : decode cX4_becomeBack 13 = .ok (.putfield 19, 3) := by decide +kernel
theorem dd_X4_becomeBack_16 : decode cX4_becomeBack 16 = .ok (.iconst 0, 1) := by decide +kernel
theorem dd_X4_becomeBack_17 : decode cX4_becomeBack 17 = .ok (.istore_n 2, 1) := by decide +kernel
theorem dd_X4_becomeBack_18 : decode cX4_becomeBack 18 = .ok (.iload_n 2, 1) := by decide +kernel
theorem dd_X4_becomeBack_19 : decode cX4_becomeBack 19 = .ok (.aload_n 0, 1) := by decide +kernel
theorem dd_X4_becomeBack_20 : decode cX4_becomeBack 20 = .ok (.getfield 19, 3) := by decide +kernel
theorem dd_X4_becomeBack_23 : decode cX4_becomeBack 23 = .ok (.if_icmp .ge 29, 3) := by decide +kernel
theorem dd_X4_becomeBack_26 : decode cX4_becomeBack 26 = .ok (.aload_n 0, 1) := by decide +kernel
theorem dd_X4_becomeBack_27 : decode cX4_becomeBack 27 = .ok (.getfield 13, 3) := by decide +kernel
theorem dd_X4_becomeBack_30 : decode cX4_becomeBack 30 = .ok (.iload_n 2, 1) := by decide +kernel
theorem dd_X4_becomeBack_31 : decode cX4_becomeBack 31 = .ok (.aload_n 1, 1) := by decide +kernel
theorem dd_X4_becomeBack_32 : decode cX4_becomeBack 32 = .ok (.getfield 13, 3) := by decide +kernel
theorem dd_X4_becomeBack_35 : decode cX4_becomeBack 35 = .ok (.aload_n 0, 1) := by decide +kernel
theorem dd_X4_becomeBack_36 : decode cX4_becomeBack 36 = .ok (.getfield 19, 3) := by decide +kernel
theorem dd_X4_becomeBack_39 : decode cX4_becomeBack 39 = .ok (.iconst 1, 1) := by decide +kernel
theorem dd_X4_becomeBack_40 : decode cX4_becomeBack 40 = .ok (.isub, 1) := by decide +kernel
theorem dd_X4_becomeBack_41 : decode cX4_becomeBack 41 = .ok (.iload_n 2, 1) := by decide +kernel
theorem dd_X4_becomeBack_42 : decode cX4_becomeBack 42 = .ok (.isub, 1) := by decide +kernel
theorem dd_X4_becomeBack_43 : decode cX4_becomeBack 43 = .ok (.iaload, 1) := by decide +kernel
theorem dd_X4_becomeBack_44 : decode cX4_becomeBack 44 = .ok (.ineg, 1) := by decide +kernel
theorem dd_X4_becomeBack_45 : decode cX4_becomeBack 45 = .ok (.iastore, 1) := by decide +kernel
theorem dd_X4_becomeBack_46 : decode cX4_becomeBack 46 = .ok (.iinc 2 1, 3) := by decide +kernel
theorem dd_X4_becomeBack_49 : decode cX4_becomeBack 49 = .ok (.goto (-31), 3) := by decide +kernel
theorem dd_X4_becomeBack_52 : decode cX4_becomeBack 52 = .ok (.return_, 1) := by decide +kernel
theorem ok_X4_becomeBack : am_okM m_X4_becomeBack 1 ∧ Cond.instanceMethod m_X4_becomeBack.1 ∈ am_tbl ∧ Cond.selects m_X4_becomeBack.1.cls m_X4_becomeBack.1 m_X4_becomeBack.1 ∈ am_tbl := ⟨(ri_all 30).1, (ri_all 30).2.2.1 (by decide +kernel)⟩
theorem k_X4_becomeBack {a L b M : Nat} {F A : gs_F} (hI : gs_I F A) (hr : gs_row a L) (ho : gs_row b M) : ∀ n : Nat, (∀ (k : Int)  (F1 A1 : gs_F), gs_I F1 A1 → gs_fr (fun c j => c = a ∧ j = 1) (fun c => c = a + 1) F A F1 A1 → 0 ≤ k → k ≤ F1 a 1 → F1 a 1 ≤ (M : Int) → F1 a 1 ≤ F b 1 → F1 a 1 - k < (n : Int) → sA m_X4_becomeBack 1 (fun r F' A' => r = none ∧ gs_I F' A' ∧ gs_fr (fun c j => c = a ∧ j = 1) (fun c => c = a + 1) F A F' A' ∧ (F' a 1 ≤ F b 1)) 18 [(2, gs_iv k), (0, .ref a), (1, .ref b)] [] F1 A1) := by
  intro n
  induction n with
  | zero =>
    exact fun a0 a1 a2 a3 a4 i0 i1 i2 i3 hm => by exfalso; omega
  | succ n ih =>
    intro k F1 A1 hI1 hf1 i0 i1 i2 i3 hm
    have b1 := gs_row_sz hr hI1
    have b2 := gs_row_sz ho hI1
    refine sA_iload_n dd_X4_becomeBack_18 rfl (.head _) ?_
    refine sA_aload_n dd_X4_becomeBack_19 rfl (.tail _ (.head _)) ?_
    refine sA_geti (ci := 4) (j := 1) (q := (RX4, TX4, 2)) dd_X4_becomeBack_20 rfl (by decide) fl_X4_19 (Nat.lt_of_succ_lt hr.1) hr.2.1 rfl ?_
    refine sA_icmp_ge (tgt := 52) dd_X4_becomeBack_23 (by decide) (by omega) (by omega) (fun q3 => ?_) (fun q3 => ?_)
    · skip
      refine sA_vret dd_X4_becomeBack_52 rfl ?_
      exact ⟨rfl, hI1, hf1, by omega⟩
    · skip
      refine sA_aload_n dd_X4_becomeBack_26 rfl (.tail _ (.head _)) ?_
      refine sA_getr (ci := 4) (j := 0) (q := (RX4, TX4, 2)) dd_X4_becomeBack_27 rfl (by decide) fl_X4_13 (Nat.lt_of_succ_lt hr.1) hr.2.1 rfl ?_
      refine sA_iload_n dd_X4_becomeBack_30 rfl (.head _) ?_
      refine sA_aload_n dd_X4_becomeBack_31 rfl (.tail _ (.tail _ (.head _))) ?_
      refine sA_getr (ci := 4) (j := 0) (q := (RX4, TX4, 2)) dd_X4_becomeBack_32 rfl (by decide) fl_X4_13 (Nat.lt_of_succ_lt ho.1) ho.2.1 rfl ?_
      refine sA_aload_n dd_X4_becomeBack_35 rfl (.tail _ (.head _)) ?_
      refine sA_geti (ci := 4) (j := 1) (q := (RX4, TX4, 2)) dd_X4_becomeBack_36 rfl (by decide) fl_X4_19 (Nat.lt_of_succ_lt hr.1) hr.2.1 rfl ?_
      refine sA_iconst (z := 1) dd_X4_becomeBack_39 ?_
      refine sA_isub dd_X4_becomeBack_40 ?_
      refine sA_iload_n dd_X4_becomeBack_41 rfl (.head _) ?_
      refine sA_isub dd_X4_becomeBack_42 ?_
      refine sA_iald (n := M) dd_X4_becomeBack_43 ho.1 ho.2.2.1 (by omega) (Nat.le_trans ho.2.2.2.2.2.2 (by decide)) ?_
      have b4 := gs_row_el ho hI1 (((F1 a 1) - 1) - k).toNat
      refine sA_ineg dd_X4_becomeBack_44 ?_
      refine sA_iast (n := L) dd_X4_becomeBack_45 hr.1 hr.2.2.1 (by omega) (Nat.le_trans hr.2.2.2.2.2.2 (by decide)) ?_
      have I6 : gs_I F1 (gs_up A1 (a + 1) k.toNat (-(A1 (b + 1) (((F1 a 1) - 1) - k).toNat))) := gs_row_ast hr hI1 (by omega)
      have f7 := gs_fr_ast hf1 (a := a + 1) (z := -(A1 (b + 1) (((F1 a 1) - 1) - k).toNat)) (i := k.toNat) (by first | omega | (dsimp only; omega) | (dsimp only))
      generalize gs_up A1 (a + 1) k.toNat (-(A1 (b + 1) (((F1 a 1) - 1) - k).toNat)) = A5 at I6 f7 ⊢
      refine sA_iinc (lv' := [(2, gs_iv (k + 1)), (0, .ref a), (1, .ref b)]) dd_X4_becomeBack_46 (.head _) (by decide) rfl ?_
      refine sA_goto (tgt := 18) dd_X4_becomeBack_49 (by decide) ?_
      refine sA_sub (lv2 := [(2, gs_iv (k + 1)), (0, .ref a), (1, .ref b)]) (List.forall_mem_cons.mpr ⟨(.head _), (List.forall_mem_cons.mpr ⟨(.tail _ (.head _)), (List.forall_mem_cons.mpr ⟨(.tail _ (.tail _ (.head _))), (fun _ h => absurd h List.not_mem_nil)⟩)⟩)⟩) ?_
      exact ih (k + 1) F1 A5 I6 f7 (by omega) (by omega) (by omega) (by omega) (by omega)
theorem c_X4_becomeBack {a L b M : Nat} {F A : gs_F} (hI : gs_I F A) (hr : gs_row a L) (ho : gs_row b M) : sC m_X4_becomeBack 1 [.ref a, .ref b] F A (fun r F' A' => r = none ∧ gs_I F' A' ∧ gs_fr (fun c j => c = a ∧ j = 1) (fun c => c = a + 1) F A F' A' ∧ (F' a 1 ≤ F b 1)) := by
  refine sC_of ok_X4_becomeBack.1 (Nat.le_of_ble_eq_true rfl) ?_
  show sA _ _ _ 0 [(0, .ref a), (1, .ref b)] [] F A
  have hf : gs_fr (fun c j => c = a ∧ j = 1) (fun c => c = a + 1) F A F A := gs_fr_refl _ _ _ _
  have b8 := gs_row_sz hr hI
  have b9 := gs_row_sz ho hI
  refine sA_aload_n dd_X4_becomeBack_0 rfl (.head _) ?_
  refine sA_aload_n dd_X4_becomeBack_1 rfl (.tail _ (.head _)) ?_
  refine sA_geti (ci := 4) (j := 1) (q := (RX4, TX4, 2)) dd_X4_becomeBack_2 rfl (by decide) fl_X4_19 (Nat.lt_of_succ_lt ho.1) ho.2.1 rfl ?_
  refine sA_aload_n dd_X4_becomeBack_5 rfl (.head _) ?_
  refine sA_getr (ci := 4) (j := 0) (q := (RX4, TX4, 2)) dd_X4_becomeBack_6 rfl (by decide) fl_X4_13 (Nat.lt_of_succ_lt hr.1) hr.2.1 rfl ?_
  refine sA_alen (n := L) dd_X4_becomeBack_9 hr.1 hr.2.2.1 ?_
  have b10 := hr.2.2.2.2.2
  refine sA_mmin dd_X4_becomeBack_10 (ri_lw_in (pl := 338) (by decide +kernel)) (by decide) (by omega) (by omega) (Nat.le_of_ble_eq_true rfl) (fun w11 q12 => ?_)
  refine sA_put (ci := 4) (j := 1) (q := (RX4, TX4, 2)) (ty := .int) dd_X4_becomeBack_13 rfl (by decide) fl_X4_19 rfl (tyX4_ok 1 (by decide)) rfl rfl (Nat.lt_of_succ_lt hr.1) hr.2.1 rfl ?_
  have I14 : gs_I (gs_up F a 1 w11) A := gs_row_put hr hI (by omega)
  have f15 := gs_fr_put hf (a := a) (z := w11) (j := 1) (by first | omega | (dsimp only; omega) | (dsimp only))
  have v16 : gs_up F a 1 w11 a 1 = w11 := gs_up_self _ _ _ _
  generalize gs_up F a 1 w11 = F13 at I14 f15 v16 ⊢
  refine sA_iconst (z := 0) dd_X4_becomeBack_16 ?_
  refine sA_istore_n (lv' := [(2, gs_iv 0), (0, .ref a), (1, .ref b)]) dd_X4_becomeBack_17 rfl (by decide) rfl ?_
  have b17 := gs_row_sz hr I14
  have b18 := gs_row_sz ho I14
  refine sA_sub (lv2 := [(2, gs_iv 0), (0, .ref a), (1, .ref b)]) (List.forall_mem_cons.mpr ⟨(.head _), (List.forall_mem_cons.mpr ⟨(.tail _ (.head _)), (List.forall_mem_cons.mpr ⟨(.tail _ (.tail _ (.head _))), (fun _ h => absurd h List.not_mem_nil)⟩)⟩)⟩) ?_
  exact (k_X4_becomeBack hI hr ho (F13 a 1 - 0).toNat.succ) 0 F13 A I14 f15 (by omega) (by omega) (by omega) (by omega) (by omega)
theorem dd_X4_looseEnds_0 : decode cX4_looseEnds 0 = .ok (.iconst 0, 1) := by decide +kernel
theorem dd_X4_looseEnds_1 : decode cX4_looseEnds 1 = .ok (.istore_n 1, 1) := by decide +kernel
theorem dd_X4_looseEnds_2 : decode cX4_looseEnds 2 = .ok (.iload_n 1, 1) := by decide +kernel
theorem dd_X4_looseEnds_3 : decode cX4_looseEnds 3 = .ok (.aload_n 0, 1) := by decide +kernel
theorem dd_X4_looseEnds_4 : decode cX4_looseEnds 4 = .ok (.getfield 19, 3) := by decide +kernel
theorem dd_X4_looseEnds_7 : decode cX4_looseEnds 7 = .ok (.iconst 2, 1) := by decide +kernel
theorem dd_X4_looseEnds_8 : decode cX4_looseEnds 8 = .ok (.idiv, 1) := by decide +kernel
theorem dd_X4_looseEnds_9 : decode cX4_looseEnds 9 = .ok (.if_icmp .ge 32, 3) := by decide +kernel
theorem dd_X4_looseEnds_12 : decode cX4_looseEnds 12 = .ok (.aload_n 0, 1) := by decide +kernel
theorem dd_X4_looseEnds_13 : decode cX4_looseEnds 13 = .ok (.getfield 13, 3) := by decide +kernel
theorem dd_X4_looseEnds_16 : decode cX4_looseEnds 16 = .ok (.iload_n 1, 1) := by decide +kernel
theorem dd_X4_looseEnds_17 : decode cX4_looseEnds 17 = .ok (.iaload, 1) := by decide +kernel
theorem dd_X4_looseEnds_18 : decode cX4_looseEnds 18 = .ok (.aload_n 0, 1) := by decide +kernel
theorem dd_X4_looseEnds_19 : decode cX4_looseEnds 19 = .ok (.getfield 13, 3) := by decide +kernel
theorem dd_X4_looseEnds_22 : decode cX4_looseEnds 22 = .ok (.aload_n 0, 1) := by decide +kernel
theorem dd_X4_looseEnds_23 : decode cX4_looseEnds 23 = .ok (.getfield 19, 3) := by decide +kernel
theorem dd_X4_looseEnds_26 : decode cX4_looseEnds 26 = .ok (.iconst 1, 1) := by decide +kernel
theorem dd_X4_looseEnds_27 : decode cX4_looseEnds 27 = .ok (.isub, 1) := by decide +kernel
theorem dd_X4_looseEnds_28 : decode cX4_looseEnds 28 = .ok (.iload_n 1, 1) := by decide +kernel
theorem dd_X4_looseEnds_29 : decode cX4_looseEnds 29 = .ok (.isub, 1) := by decide +kernel
theorem dd_X4_looseEnds_30 : decode cX4_looseEnds 30 = .ok (.iaload, 1) := by decide +kernel
theorem dd_X4_looseEnds_31 : decode cX4_looseEnds 31 = .ok (.ineg, 1) := by decide +kernel
theorem dd_X4_looseEnds_32 : decode cX4_looseEnds 32 = .ok (.if_icmp .ne 9, 3) := by decide +kernel
theorem dd_X4_looseEnds_35 : decode cX4_looseEnds 35 = .ok (.iinc 1 1, 3) := by decide +kernel
theorem dd_X4_looseEnds_38 : decode cX4_looseEnds 38 = .ok (.goto (-36), 3) := by decide +kernel
theorem dd_X4_looseEnds_41 : decode cX4_looseEnds 41 = .ok (.iload_n 1, 1) := by decide +kernel
theorem dd_X4_looseEnds_42 : decode cX4_looseEnds 42 = .ok (.ireturn, 1) := by decide +kernel
theorem ok_X4_looseEnds : am_okM m_X4_looseEnds 0 ∧ Cond.instanceMethod m_X4_looseEnds.1 ∈ am_tbl ∧ Cond.selects m_X4_looseEnds.1.cls m_X4_looseEnds.1 m_X4_looseEnds.1 ∈ am_tbl := ⟨(ri_all 31).1, (ri_all 31).2.2.1 (by decide +kernel)⟩
theorem k_X4_looseEnds {a L : Nat} {F A : gs_F} (hI : gs_I F A) (hr : gs_row a L) : ∀ n : Nat, (∀ (k : Int),  0 ≤ k → 2 * k ≤ F a 1 → F a 1 - k < (n : Int) → sA m_X4_looseEnds 1 (fun r F' A' => ∃ z : Int, r = some (gs_iv z) ∧ F = F' ∧ A = A' ∧ (0 ≤ z ∧ 2 * z ≤ F a 1)) 2 [(1, gs_iv k), (0, .ref a)] [] F A) := by
  intro n
  induction n with
  | zero =>
    exact fun a0 i0 i1 hm => by exfalso; omega
  | succ n ih =>
    intro k i0 i1 hm
    have b1 := gs_row_sz hr hI
    refine sA_iload_n dd_X4_looseEnds_2 rfl (.head _) ?_
    refine sA_aload_n dd_X4_looseEnds_3 rfl (.tail _ (.head _)) ?_
    refine sA_geti (ci := 4) (j := 1) (q := (RX4, TX4, 2)) dd_X4_looseEnds_4 rfl (by decide) fl_X4_19 (Nat.lt_of_succ_lt hr.1) hr.2.1 rfl ?_
    refine sA_iconst (z := 2) dd_X4_looseEnds_7 ?_
    refine sA_idivN dd_X4_looseEnds_8 (by omega) (by omega) (by omega) ?_
    refine sA_icmp_ge (tgt := 41) dd_X4_looseEnds_9 (by decide) (by omega) (by omega) (fun q2 => ?_) (fun q2 => ?_)
    · skip
      refine sA_iload_n dd_X4_looseEnds_41 rfl (.head _) ?_
      refine sA_iret (z := k) dd_X4_looseEnds_42 rfl ?_
      exact ⟨_, rfl, rfl, rfl, by omega⟩
    · skip
      refine sA_aload_n dd_X4_looseEnds_12 rfl (.tail _ (.head _)) ?_
      refine sA_getr (ci := 4) (j := 0) (q := (RX4, TX4, 2)) dd_X4_looseEnds_13 rfl (by decide) fl_X4_13 (Nat.lt_of_succ_lt hr.1) hr.2.1 rfl ?_
      refine sA_iload_n dd_X4_looseEnds_16 rfl (.head _) ?_
      refine sA_iald (n := L) dd_X4_looseEnds_17 hr.1 hr.2.2.1 (by omega) (Nat.le_trans hr.2.2.2.2.2.2 (by decide)) ?_
      have b3 := gs_row_el hr hI k.toNat
      refine sA_aload_n dd_X4_looseEnds_18 rfl (.tail _ (.head _)) ?_
      refine sA_getr (ci := 4) (j := 0) (q := (RX4, TX4, 2)) dd_X4_looseEnds_19 rfl (by decide) fl_X4_13 (Nat.lt_of_succ_lt hr.1) hr.2.1 rfl ?_
      refine sA_aload_n dd_X4_looseEnds_22 rfl (.tail _ (.head _)) ?_
      refine sA_geti (ci := 4) (j := 1) (q := (RX4, TX4, 2)) dd_X4_looseEnds_23 rfl (by decide) fl_X4_19 (Nat.lt_of_succ_lt hr.1) hr.2.1 rfl ?_
      refine sA_iconst (z := 1) dd_X4_looseEnds_26 ?_
      refine sA_isub dd_X4_looseEnds_27 ?_
      refine sA_iload_n dd_X4_looseEnds_28 rfl (.head _) ?_
      refine sA_isub dd_X4_looseEnds_29 ?_
      refine sA_iald (n := L) dd_X4_looseEnds_30 hr.1 hr.2.2.1 (by omega) (Nat.le_trans hr.2.2.2.2.2.2 (by decide)) ?_
      have b4 := gs_row_el hr hI (((F a 1) - 1) - k).toNat
      refine sA_ineg dd_X4_looseEnds_31 ?_
      refine sA_icmp_ne (tgt := 41) dd_X4_looseEnds_32 (by decide) (by omega) (by omega) (fun q5 => ?_) (fun q5 => ?_)
      · skip
        refine sA_iload_n dd_X4_looseEnds_41 rfl (.head _) ?_
        refine sA_iret (z := k) dd_X4_looseEnds_42 rfl ?_
        exact ⟨_, rfl, rfl, rfl, by omega⟩
      · skip
        refine sA_iinc (lv' := [(1, gs_iv (k + 1)), (0, .ref a)]) dd_X4_looseEnds_35 (.head _) (by decide) rfl ?_
        refine sA_goto (tgt := 2) dd_X4_looseEnds_38 (by decide) ?_
        refine sA_sub (lv2 := [(1, gs_iv (k + 1)), (0, .ref a)]) (List.forall_mem_cons.mpr ⟨(.head _), (List.forall_mem_cons.mpr ⟨(.tail _ (.head _)), (fun _ h => absurd h List.not_mem_nil)⟩)⟩) ?_
        exact ih (k + 1)  (by omega) (by omega) (by omega)
theorem c_X4_looseEnds {a L : Nat} {F A : gs_F} (hI : gs_I F A) (hr : gs_row a L) : sC m_X4_looseEnds 1 [.ref a] F A (fun r F' A' => ∃ z : Int, r = some (gs_iv z) ∧ F = F' ∧ A = A' ∧ (0 ≤ z ∧ 2 * z ≤ F a 1)) := by
  refine sC_of ok_X4_looseEnds.1 (Nat.le_of_ble_eq_true rfl) ?_
  show sA _ _ _ 0 [(0, .ref a)] [] F A
  have b6 := gs_row_sz hr hI
  refine sA_iconst (z := 0) dd_X4_looseEnds_0 ?_
  refine sA_istore_n (lv' := [(1, gs_iv 0), (0, .ref a)]) dd_X4_looseEnds_1 rfl (by decide) rfl ?_
  refine sA_sub (lv2 := [(1, gs_iv 0), (0, .ref a)]) (List.forall_mem_cons.mpr ⟨(.head _), (List.forall_mem_cons.mpr ⟨(.tail _ (.head _)), (fun _ h => absurd h List.not_mem_nil)⟩)⟩) ?_
  exact (k_X4_looseEnds hI hr (F a 1 - 0).toNat.succ) 0  (by omega) (by omega) (by omega)
theorem dd_X4_closedSize_0 : decode cX4_closedSize 0 = .ok (.aload_n 0, 1) := by decide +kernel
theorem dd_X4_closedSize_1 : decode cX4_closedSize 1 = .ok (.getfield 19, 3) := by decide +kernel
theorem dd_X4_closedSize_4 : decode cX4_closedSize 4 = .ok (.iconst 2, 1) := by decide +kernel
theorem dd_X4_closedSize_5 : decode cX4_closedSize 5 = .ok (.aload_n 0, 1) := by decide +kernel
theorem dd_X4_closedSize_6 : decode cX4_closedSize 6 = .ok (.invokevirtual 32, 3) := by decide +kernel
theorem dd_X4_closedSize_9 : decode cX4_closedSize 9 = .ok (.imul, 1) := by decide +kernel
theorem dd_X4_closedSize_10 : decode cX4_closedSize 10 = .ok (.isub, 1) := by decide +kernel
theorem dd_X4_closedSize_11 : decode cX4_closedSize 11 = .ok (.ireturn, 1) := by decide +kernel
theorem ml_X4_32 : Cond.methodLink RX4 32 m_X4_looseEnds.1 ∈ am_tbl := ri_lw_in (pl := 417) (by decide +kernel)
theorem ok_X4_closedSize : am_okM m_X4_closedSize 0 ∧ Cond.instanceMethod m_X4_closedSize.1 ∈ am_tbl ∧ Cond.selects m_X4_closedSize.1.cls m_X4_closedSize.1 m_X4_closedSize.1 ∈ am_tbl := ⟨(ri_all 32).1, (ri_all 32).2.2.1 (by decide +kernel)⟩
theorem c_X4_closedSize {a L : Nat} {F A : gs_F} (hI : gs_I F A) (hr : gs_row a L) : sC m_X4_closedSize 2 [.ref a] F A (fun r F' A' => ∃ z : Int, r = some (gs_iv z) ∧ F = F' ∧ A = A' ∧ (0 ≤ z ∧ z ≤ F a 1)) := by
  refine sC_of ok_X4_closedSize.1 (Nat.le_of_ble_eq_true rfl) ?_
  show sA _ _ _ 0 [(0, .ref a)] [] F A
  have b1 := gs_row_sz hr hI
  refine sA_aload_n dd_X4_closedSize_0 rfl (.head _) ?_
  refine sA_geti (ci := 4) (j := 1) (q := (RX4, TX4, 2)) dd_X4_closedSize_1 rfl (by decide) fl_X4_19 (Nat.lt_of_succ_lt hr.1) hr.2.1 rfl ?_
  refine sA_iconst (z := 2) dd_X4_closedSize_4 ?_
  refine sA_aload_n dd_X4_closedSize_5 rfl (.head _) ?_
  refine sA_callV (y2 := m_X4_looseEnds) (n2 := 0) (d2 := 1) (a := a) (ci := 4) (q := (RX4, TX4, 2)) (as := []) (rest := [gs_iv 2, gs_iv (F a 1)]) dd_X4_closedSize_6 ok_X4_looseEnds ml_X4_32 rfl rfl (Nat.lt_of_succ_lt hr.1) hr.2.1 rfl rfl (Nat.le_of_ble_eq_true rfl) (by decide) (c_X4_looseEnds hI hr) (fun r2 F3 A4 h5 => ?_)
  obtain ⟨z8, e7, e9, e10, x6⟩ := h5
  subst e7 e9 e10
  show sA _ _ _ 9 _ [gs_iv z8, gs_iv 2, gs_iv (F a 1)] _ _
  refine sA_imul dd_X4_closedSize_9 ?_
  refine sA_isub dd_X4_closedSize_10 ?_
  refine sA_iret (z := (F a 1) - (2 * z8)) dd_X4_closedSize_11 rfl ?_
  exact ⟨_, rfl, rfl, rfl, by omega⟩
theorem dd_X4_close_0 : decode cX4_close 0 = .ok (.aload_n 0, 1) := by decide +kernel
theorem dd_X4_close_1 : decode cX4_close 1 = .ok (.invokevirtual 32, 3) := by decide +kernel
theorem dd_X4_close_4 : decode cX4_close 4 = .ok (.istore_n 1, 1) := by decide +kernel
theorem dd_X4_close_5 : decode cX4_close 5 = .ok (.aload_n 0, 1) := by decide +kernel
theorem dd_X4_close_6 : decode cX4_close 6 = .ok (.dup, 1) := by decide +kernel
theorem dd_X4_close_7 : decode cX4_close 7 = .ok (.getfield 19, 3) := by decide +kernel
theorem dd_X4_close_10 : decode cX4_close 10 = .ok (.iconst 2, 1) := by decide +kernel
theorem dd_X4_close_11 : decode cX4_close 11 = .ok (.iload_n 1, 1) := by decide +kernel
theorem dd_X4_close_12 : decode cX4_close 12 = .ok (.imul, 1) := by decide +kernel
theorem dd_X4_close_13 : decode cX4_close 13 = .ok (.isub, 1) := by decide +kernel
theorem dd_X4_close_14 : decode cX4_close 14 = .ok (.putfield 19, 3) := by decide +kernel
theorem dd_X4_close_17 : decode cX4_close 17 = .ok (.aload_n 0, 1) := by decide +kernel
theorem dd_X4_close_18 : decode cX4_close 18 = .ok (.getfield 13, 3) := by decide +kernel
theorem dd_X4_close_21 : decode cX4_close 21 = .ok (.iload_n 1, 1) := by decide +kernel
theorem dd_X4_close_22 : decode cX4_close 22 = .ok (.aload_n 0, 1) := by decide +kernel
theorem dd_X4_close_23 : decode cX4_close 23 = .ok (.getfield 13, 3) := by decide +kernel
theorem dd_X4_close_26 : decode cX4_close 26 = .ok (.iconst 0, 1) := by decide +kernel
theorem dd_X4_close_27 : decode cX4_close 27 = .ok (.aload_n 0, 1) := by decide +kernel
theorem dd_X4_close_28 : decode cX4_close 28 = .ok (.getfield 19, 3) := by decide +kernel
theorem dd_X4_close_31 : decode cX4_close 31 = .ok (.invokestatic 26, 3) := by decide +kernel
theorem dd_X4_close_34 : decode cX4_close 34 = .ok (.return_, 1) := by decide +kernel
theorem ok_X4_close : am_okM m_X4_close 0 ∧ Cond.instanceMethod m_X4_close.1 ∈ am_tbl ∧ Cond.selects m_X4_close.1.cls m_X4_close.1 m_X4_close.1 ∈ am_tbl := ⟨(ri_all 33).1, (ri_all 33).2.2.1 (by decide +kernel)⟩
theorem c_X4_close {a L : Nat} {F A : gs_F} (hI : gs_I F A) (hr : gs_row a L) : sC m_X4_close 2 [.ref a] F A (fun r F' A' => r = none ∧ gs_I F' A' ∧ gs_fr (fun c j => c = a ∧ j = 1) (fun c => c = a + 1) F A F' A' ∧ (F' a 1 ≤ F a 1)) := by
  refine sC_of ok_X4_close.1 (Nat.le_of_ble_eq_true rfl) ?_
  show sA _ _ _ 0 [(0, .ref a)] [] F A
  have hf : gs_fr (fun c j => c = a ∧ j = 1) (fun c => c = a + 1) F A F A := gs_fr_refl _ _ _ _
  have b1 := gs_row_sz hr hI
  refine sA_aload_n dd_X4_close_0 rfl (.head _) ?_
  refine sA_callV (y2 := m_X4_looseEnds) (n2 := 0) (d2 := 1) (a := a) (ci := 4) (q := (RX4, TX4, 2)) (as := []) (rest := []) dd_X4_close_1 ok_X4_looseEnds ml_X4_32 rfl rfl (Nat.lt_of_succ_lt hr.1) hr.2.1 rfl rfl (Nat.le_of_ble_eq_true rfl) (by decide) (c_X4_looseEnds hI hr) (fun r2 F3 A4 h5 => ?_)
  obtain ⟨z8, e7, e9, e10, x6⟩ := h5
  subst e7 e9 e10
  show sA _ _ _ 4 _ [gs_iv z8] _ _
  refine sA_istore_n (lv' := [(1, gs_iv z8), (0, .ref a)]) dd_X4_close_4 rfl (by decide) rfl ?_
  refine sA_aload_n dd_X4_close_5 rfl (.tail _ (.head _)) ?_
  refine sA_dup dd_X4_close_6 rfl ?_
  refine sA_geti (ci := 4) (j := 1) (q := (RX4, TX4, 2)) dd_X4_close_7 rfl (by decide) fl_X4_19 (Nat.lt_of_succ_lt hr.1) hr.2.1 rfl ?_
  refine sA_iconst (z := 2) dd_X4_close_10 ?_
  refine sA_iload_n dd_X4_close_11 rfl (.head _) ?_
  refine sA_imul dd_X4_close_12 ?_
  refine sA_isub dd_X4_close_13 ?_
  refine sA_put (ci := 4) (j := 1) (q := (RX4, TX4, 2)) (ty := .int) dd_X4_close_14 rfl (by decide) fl_X4_19 rfl (tyX4_ok 1 (by decide)) rfl rfl (Nat.lt_of_succ_lt hr.1) hr.2.1 rfl ?_
  have I12 : gs_I (gs_up F a 1 ((F a 1) - (2 * z8))) A := gs_row_put hr hI (by omega)
  have f13 := gs_fr_put hf (a := a) (z := (F a 1) - (2 * z8)) (j := 1) (by first | omega | (dsimp only; omega) | (dsimp only))
  have v14 : gs_up F a 1 ((F a 1) - (2 * z8)) a 1 = (F a 1) - (2 * z8) := gs_up_self _ _ _ _
  generalize gs_up F a 1 ((F a 1) - (2 * z8)) = F11 at I12 f13 v14 ⊢
  refine sA_aload_n dd_X4_close_17 rfl (.tail _ (.head _)) ?_
  refine sA_getr (ci := 4) (j := 0) (q := (RX4, TX4, 2)) dd_X4_close_18 rfl (by decide) fl_X4_13 (Nat.lt_of_succ_lt hr.1) hr.2.1 rfl ?_
  refine sA_iload_n dd_X4_close_21 rfl (.head _) ?_
  refine sA_aload_n dd_X4_close_22 rfl (.tail _ (.head _)) ?_
  refine sA_getr (ci := 4) (j := 0) (q := (RX4, TX4, 2)) dd_X4_close_23 rfl (by decide) fl_X4_13 (Nat.lt_of_succ_lt hr.1) hr.2.1 rfl ?_
  refine sA_iconst (z := 0) dd_X4_close_26 ?_
  refine sA_aload_n dd_X4_close_27 rfl (.tail _ (.head _)) ?_
  refine sA_geti (ci := 4) (j := 1) (q := (RX4, TX4, 2)) dd_X4_close_28 rfl (by decide) fl_X4_19 (Nat.lt_of_succ_lt hr.1) hr.2.1 rfl ?_
  have b15 := gs_row_sz hr I12
  refine sA_copy (n1 := L) (n2 := L) dd_X4_close_31 (ri_lw_in (pl := 412) (by decide +kernel)) gs_copyok hr.1 hr.2.2.1 hr.1 hr.2.2.1 (by omega) (by omega) (by omega) (by omega) (by omega) (Nat.le_trans hr.2.2.2.2.2.2 (by decide)) (Nat.le_trans hr.2.2.2.2.2.2 (by decide)) (by decide) (Nat.le_of_ble_eq_true rfl) ?_
  have I17 : gs_I F11 (gs_cp A (a + 1) (a + 1) z8.toNat (0 : Int).toNat (F11 a 1).toNat) := gs_I_cp I12 (b := (a + 1)) (a := (a + 1)) (p := ((-9), 9)) (q := ((-9), 9)) hr.2.2.2.2.1 hr.2.2.2.2.1 (by decide)
  have f18 := gs_fr_cp f13 (a := (a + 1)) (b := (a + 1)) (sp := z8.toNat) (dp := (0 : Int).toNat) (n := (F11 a 1).toNat) (by first | omega | (dsimp only; omega) | (dsimp only))
  generalize gs_cp A (a + 1) (a + 1) z8.toNat (0 : Int).toNat (F11 a 1).toNat = A16 at I17 f18 ⊢
  refine sA_vret dd_X4_close_34 rfl ?_
  exact ⟨rfl, I17, f18, by omega⟩
theorem dd_X4_isLike_0 : decode cX4_isLike 0 = .ok (.aload_n 0, 1) := by decide +kernel
theorem dd_X4_isLike_1 : decode cX4_isLike 1 = .ok (.getfield 19, 3) := by decide +kernel
theorem dd_X4_isLike_4 : decode cX4_isLike 4 = .ok (.aload_n 1, 1) := by decide +kernel
theorem dd_X4_isLike_5 : decode cX4_isLike 5 = .ok (.getfield 19, 3) := by decide +kernel
theorem dd_X4_isLike_8 : decode cX4_isLike 8 = .ok (.if_icmp .eq 5, 3) := by decide +kernel
theorem dd_X4_isLike_11 : decode cX4_isLike 11 = .ok (.iconst 0, 1) := by decide +kernel
theorem dd_X4_isLike_12 : decode cX4_isLike 12 = .ok (.ireturn, 1) := by decide +kernel
theorem dd_X4_isLike_13 : decode cX4_isLike 13 = .ok (.iconst 0, 1) := by decide +kernel
theorem dd_X4_isLike_14 : decode cX4_isLike 14 = .ok (.istore_n 2, 1) := by decide +kernel
theorem dd_X4_isLike_15 : decode cX4_isLike 15 = .ok (.iload_n 2, 1) := by decide +kernel
theorem dd_X4_isLike_16 : decode cX4_isLike 16 = .ok (.aload_n 0, 1) := by decide +kernel
theorem dd_X4_isLike_17 : decode cX4_isLike 17 = .ok (.getfield 19, 3) := by decide +kernel
theorem dd_X4_isLike_20 : decode cX4_isLike 20 = .ok (.if_icmp .ge 26, 3) := by decide +kernel
theorem dd_X4_isLike_23 : decode cX4_isLike 23 = .ok (.aload_n 0, 1) := by decide +kernel
theorem dd_X4_isLike_24 : decode cX4_isLike 24 = .ok (.getfield 13, 3) := by decide +kernel
theorem dd_X4_isLike_27 : decode cX4_isLike 27 = .ok (.iload_n 2, 1) := by decide +kernel
theorem dd_X4_isLike_28 : decode cX4_isLike 28 = .ok (.iaload, 1) := by decide +kernel
theorem dd_X4_isLike_29 : decode cX4_isLike 29 = .ok (.aload_n 1, 1) := by decide +kernel
theorem dd_X4_isLike_30 : decode cX4_isLike 30 = .ok (.getfield 13, 3) := by decide +kernel
theorem dd_X4_isLike_33 : decode cX4_isLike 33 = .ok (.iload_n 2, 1) := by decide +kernel
theorem dd_X4_isLike_34 : decode cX4_isLike 34 = .ok (.iaload, 1) := by decide +kernel
theorem dd_X4_isLike_35 : decode cX4_isLike 35 = .ok (.if_icmp .eq 5, 3) := by decide +kernel
theorem dd_X4_isLike_38 : decode cX4_isLike 38 = .ok (.iconst 0, 1) := by decide +kernel
theorem dd_X4_isLike_39 : decode cX4_isLike 39 = .ok (.ireturn, 1) := by decide +kernel
theorem dd_X4_isLike_40 : decode cX4_isLike 40 = .ok (.iinc 2 1, 3) := by decide +kernel
theorem dd_X4_isLike_43 : decode cX4_isLike 43 = .ok (.goto (-28), 3) := by decide +kernel
theorem dd_X4_isLike_46 : decode cX4_isLike 46 = .ok (.iconst 1, 1) := by decide +kernel
theorem dd_X4_isLike_47 : decode cX4_isLike 47 = .ok (.ireturn, 1) := by decide +kernel
theorem ok_X4_isLike : am_okM m_X4_isLike 1 ∧ Cond.instanceMethod m_X4_isLike.1 ∈ am_tbl ∧ Cond.selects m_X4_isLike.1.cls m_X4_isLike.1 m_X4_isLike.1 ∈ am_tbl := ⟨(ri_all 34).1, (ri_all 34).2.2.1 (by decide +kernel)⟩
theorem k_X4_isLike {a L b M : Nat} {F A : gs_F} (hI : gs_I F A) (hr : gs_row a L) (ho : gs_row b M) : ∀ n : Nat, (∀ (k : Int),  0 ≤ k → k ≤ F a 1 → F a 1 = F b 1 → F a 1 - k < (n : Int) → sA m_X4_isLike 1 (fun r F' A' => ∃ z : Int, r = some (gs_iv z) ∧ F = F' ∧ A = A' ∧ (z = 0 ∨ z = 1)) 15 [(2, gs_iv k), (0, .ref a), (1, .ref b)] [] F A) := by
  intro n
  induction n with
  | zero =>
    exact fun a0 i0 i1 i2 hm => by exfalso; omega
  | succ n ih =>
    intro k i0 i1 i2 hm
    have b1 := gs_row_sz hr hI
    have b2 := gs_row_sz ho hI
    refine sA_iload_n dd_X4_isLike_15 rfl (.head _) ?_
    refine sA_aload_n dd_X4_isLike_16 rfl (.tail _ (.head _)) ?_
    refine sA_geti (ci := 4) (j := 1) (q := (RX4, TX4, 2)) dd_X4_isLike_17 rfl (by decide) fl_X4_19 (Nat.lt_of_succ_lt hr.1) hr.2.1 rfl ?_
    refine sA_icmp_ge (tgt := 46) dd_X4_isLike_20 (by decide) (by omega) (by omega) (fun q3 => ?_) (fun q3 => ?_)
    · skip
      refine sA_iconst (z := 1) dd_X4_isLike_46 ?_
      refine sA_bret (z := 1) dd_X4_isLike_47 rfl (by omega) ?_
      exact ⟨_, rfl, rfl, rfl, by omega⟩
    · skip
      refine sA_aload_n dd_X4_isLike_23 rfl (.tail _ (.head _)) ?_
      refine sA_getr (ci := 4) (j := 0) (q := (RX4, TX4, 2)) dd_X4_isLike_24 rfl (by decide) fl_X4_13 (Nat.lt_of_succ_lt hr.1) hr.2.1 rfl ?_
      refine sA_iload_n dd_X4_isLike_27 rfl (.head _) ?_
      refine sA_iald (n := L) dd_X4_isLike_28 hr.1 hr.2.2.1 (by omega) (Nat.le_trans hr.2.2.2.2.2.2 (by decide)) ?_
      have b4 := gs_row_el hr hI k.toNat
      refine sA_aload_n dd_X4_isLike_29 rfl (.tail _ (.tail _ (.head _))) ?_
      refine sA_getr (ci := 4) (j := 0) (q := (RX4, TX4, 2)) dd_X4_isLike_30 rfl (by decide) fl_X4_13 (Nat.lt_of_succ_lt ho.1) ho.2.1 rfl ?_
      refine sA_iload_n dd_X4_isLike_33 rfl (.head _) ?_
      refine sA_iald (n := M) dd_X4_isLike_34 ho.1 ho.2.2.1 (by omega) (Nat.le_trans ho.2.2.2.2.2.2 (by decide)) ?_
      have b5 := gs_row_el ho hI k.toNat
      refine sA_icmp_eq (tgt := 40) dd_X4_isLike_35 (by decide) (by omega) (by omega) (fun q6 => ?_) (fun q6 => ?_)
      · skip
        refine sA_iinc (lv' := [(2, gs_iv (k + 1)), (0, .ref a), (1, .ref b)]) dd_X4_isLike_40 (.head _) (by decide) rfl ?_
        refine sA_goto (tgt := 15) dd_X4_isLike_43 (by decide) ?_
        refine sA_sub (lv2 := [(2, gs_iv (k + 1)), (0, .ref a), (1, .ref b)]) (List.forall_mem_cons.mpr ⟨(.head _), (List.forall_mem_cons.mpr ⟨(.tail _ (.head _)), (List.forall_mem_cons.mpr ⟨(.tail _ (.tail _ (.head _))), (fun _ h => absurd h List.not_mem_nil)⟩)⟩)⟩) ?_
        exact ih (k + 1)  (by omega) (by omega) (by omega) (by omega)
      · skip
        refine sA_iconst (z := 0) dd_X4_isLike_38 ?_
        refine sA_bret (z := 0) dd_X4_isLike_39 rfl (by omega) ?_
        exact ⟨_, rfl, rfl, rfl, by omega⟩
theorem c_X4_isLike {a L b M : Nat} {F A : gs_F} (hI : gs_I F A) (hr : gs_row a L) (ho : gs_row b M) : sC m_X4_isLike 1 [.ref a, .ref b] F A (fun r F' A' => ∃ z : Int, r = some (gs_iv z) ∧ F = F' ∧ A = A' ∧ (z = 0 ∨ z = 1)) := by
  refine sC_of ok_X4_isLike.1 (Nat.le_of_ble_eq_true rfl) ?_
  show sA _ _ _ 0 [(0, .ref a), (1, .ref b)] [] F A
  have b7 := gs_row_sz hr hI
  have b8 := gs_row_sz ho hI
  refine sA_aload_n dd_X4_isLike_0 rfl (.head _) ?_
  refine sA_geti (ci := 4) (j := 1) (q := (RX4, TX4, 2)) dd_X4_isLike_1 rfl (by decide) fl_X4_19 (Nat.lt_of_succ_lt hr.1) hr.2.1 rfl ?_
  refine sA_aload_n dd_X4_isLike_4 rfl (.tail _ (.head _)) ?_
  refine sA_geti (ci := 4) (j := 1) (q := (RX4, TX4, 2)) dd_X4_isLike_5 rfl (by decide) fl_X4_19 (Nat.lt_of_succ_lt ho.1) ho.2.1 rfl ?_
  refine sA_icmp_eq (tgt := 13) dd_X4_isLike_8 (by decide) (by omega) (by omega) (fun q9 => ?_) (fun q9 => ?_)
  · skip
    refine sA_iconst (z := 0) dd_X4_isLike_13 ?_
    refine sA_istore_n (lv' := [(2, gs_iv 0), (0, .ref a), (1, .ref b)]) dd_X4_isLike_14 rfl (by decide) rfl ?_
    refine sA_sub (lv2 := [(2, gs_iv 0), (0, .ref a), (1, .ref b)]) (List.forall_mem_cons.mpr ⟨(.head _), (List.forall_mem_cons.mpr ⟨(.tail _ (.head _)), (List.forall_mem_cons.mpr ⟨(.tail _ (.tail _ (.head _))), (fun _ h => absurd h List.not_mem_nil)⟩)⟩)⟩) ?_
    exact (k_X4_isLike hI hr ho (F a 1 - 0).toNat.succ) 0  (by omega) (by omega) (by omega) (by omega)
  · skip
    refine sA_iconst (z := 0) dd_X4_isLike_11 ?_
    refine sA_bret (z := 0) dd_X4_isLike_12 rfl (by omega) ?_
    exact ⟨_, rfl, rfl, rfl, by omega⟩
theorem dd_X4_runsAlong_0 : decode cX4_runsAlong 0 = .ok (.iload_n 3, 1) := by decide +kernel
theorem dd_X4_runsAlong_1 : decode cX4_runsAlong 1 = .ok (.istore 4, 2) := by decide +kernel
theorem dd_X4_runsAlong_3 : decode cX4_runsAlong 3 = .ok (.iconst 0, 1) := by decide +kernel
theorem dd_X4_runsAlong_4 : decode cX4_runsAlong 4 = .ok (.istore 5, 2) := by decide +kernel
theorem dd_X4_runsAlong_6 : decode cX4_runsAlong 6 = .ok (.iload 5, 2) := by decide +kernel
theorem dd_X4_runsAlong_8 : decode cX4_runsAlong 8 = .ok (.aload_n 2, 1) := by decide +kernel
theorem dd_X4_runsAlong_9 : decode cX4_runsAlong 9 = .ok (.getfield 19, 3) := by decide +kernel
theorem dd_X4_runsAlong_12 : decode cX4_runsAlong 12 = .ok (.if_icmp .ge 51, 3) := by decide +kernel
theorem dd_X4_runsAlong_15 : decode cX4_runsAlong 15 = .ok (.aload_n 0, 1) := by decide +kernel
theorem dd_X4_runsAlong_16 : decode cX4_runsAlong 16 = .ok (.getfield 13, 3) := by decide +kernel
theorem dd_X4_runsAlong_19 : decode cX4_runsAlong 19 = .ok (.iload_n 1, 1) := by decide +kernel
theorem dd_X4_runsAlong_20 : decode cX4_runsAlong 20 = .ok (.iload 5, 2) := by decide +kernel
theorem dd_X4_runsAlong_22 : decode cX4_runsAlong 22 = .ok (.iadd, 1) := by decide +kernel
theorem dd_X4_runsAlong_23 : decode cX4_runsAlong 23 = .ok (.iaload, 1) := by decide +kernel
theorem dd_X4_runsAlong_24 : decode cX4_runsAlong 24 = .ok (.aload_n 2, 1) := by decide +kernel
theorem dd_X4_runsAlong_25 : decode cX4_runsAlong 25 = .ok (.getfield 13, 3) := by decide +kernel
theorem dd_X4_runsAlong_28 : decode cX4_runsAlong 28 = .ok (.iload 4, 2) := by decide +kernel
theorem dd_X4_runsAlong_30 : decode cX4_runsAlong 30 = .ok (.iaload, 1) := by decide +kernel
theorem dd_X4_runsAlong_31 : decode cX4_runsAlong 31 = .ok (.if_icmp .eq 5, 3) := by decide +kernel
theorem dd_X4_runsAlong_34 : decode cX4_runsAlong 34 = .ok (.iconst 0, 1) := by decide +kernel
theorem dd_X4_runsAlong_35 : decode cX4_runsAlong 35 = .ok (.ireturn, 1) := by decide +kernel
theorem dd_X4_runsAlong_36 : decode cX4_runsAlong 36 = .ok (.iload 4, 2) := by decide +kernel
theorem dd_X4_runsAlong_38 : decode cX4_runsAlong 38 = .ok (.iconst 1, 1) := by decide +kernel
theorem dd_X4_runsAlong_39 : decode cX4_runsAlong 39 = .ok (.iadd, 1) := by decide +kernel
theorem dd_X4_runsAlong_40 : decode cX4_runsAlong 40 = .ok (.aload_n 2, 1) := by decide +kernel
theorem dd_X4_runsAlong_41 : decode cX4_runsAlong 41 = .ok (.getfield 19, 3) := by decide +kernel
theorem dd_X4_runsAlong_44 : decode cX4_runsAlong 44 = .ok (.if_icmp .ne 7, 3) := by decide +kernel
theorem dd_X4_runsAlong_47 : decode cX4_runsAlong 47 = .ok (.iconst 0, 1) := by decide +kernel
theorem dd_X4_runsAlong_48 : decode cX4_runsAlong 48 = .ok (.goto 7, 3) := by decide +kernel
theorem dd_X4_runsAlong_51 : decode cX4_runsAlong 51 = .ok (.iload 4, 2) := by decide +kernel
theorem dd_X4_runsAlong_53 : decode cX4_runsAlong 53 = .ok (.iconst 1, 1) := by decide +kernel
theorem dd_X4_runsAlong_54 : decode cX4_runsAlong 54 = .ok (.iadd, 1) := by decide +kernel
theorem dd_X4_runsAlong_55 : decode cX4_runsAlong 55 = .ok (.istore 4, 2) := by decide +kernel
theorem dd_X4_runsAlong_57 : decode cX4_runsAlong 57 = .ok (.iinc 5 1, 3) := by decide +kernel
theorem dd_X4_runsAlong_60 : decode cX4_runsAlong 60 = .ok (.goto (-54), 3) := by decide +kernel
theorem dd_X4_runsAlong_63 : decode cX4_runsAlong 63 = .ok (.iconst 1, 1) := by decide +kernel
theorem dd_X4_runsAlong_64 : decode cX4_runsAlong 64 = .ok (.ireturn, 1) := by decide +kernel
theorem ok_X4_runsAlong : am_okM m_X4_runsAlong 3 ∧ Cond.instanceMethod m_X4_runsAlong.1 ∈ am_tbl ∧ Cond.selects m_X4_runsAlong.1.cls m_X4_runsAlong.1 m_X4_runsAlong.1 ∈ am_tbl := ⟨(ri_all 36).1, (ri_all 36).2.2.1 (by decide +kernel)⟩
theorem k_X4_runsAlong {a L b M : Nat} {p q : Int} {F A : gs_F} (hI : gs_I F A) (hr : gs_row a L) (hp : 0 ≤ p ∧ p + F b 1 ≤ F a 1) (ho : gs_row b M) (hq : 0 ≤ q ∧ q < F b 1) : ∀ n : Nat, (∀ (k : Int) (t : Int),  0 ≤ k → k ≤ F b 1 → 0 ≤ t → t < F b 1 → F b 1 - k < (n : Int) → sA m_X4_runsAlong 1 (fun r F' A' => ∃ z : Int, r = some (gs_iv z) ∧ F = F' ∧ A = A' ∧ (z = 0 ∨ z = 1)) 6 [(5, gs_iv k), (4, gs_iv t), (0, .ref a), (1, gs_iv p), (2, .ref b)] [] F A) := by
  intro n
  induction n with
  | zero =>
    exact fun a0 a1 i0 i1 i2 i3 hm => by exfalso; omega
  | succ n ih =>
    intro k t i0 i1 i2 i3 hm
    have b1 := gs_row_sz hr hI
    have b2 := gs_row_sz ho hI
    refine sA_iload dd_X4_runsAlong_6 (.head _) ?_
    refine sA_aload_n dd_X4_runsAlong_8 rfl (.tail _ (.tail _ (.tail _ (.tail _ (.head _))))) ?_
    refine sA_geti (ci := 4) (j := 1) (q := (RX4, TX4, 2)) dd_X4_runsAlong_9 rfl (by decide) fl_X4_19 (Nat.lt_of_succ_lt ho.1) ho.2.1 rfl ?_
    refine sA_icmp_ge (tgt := 63) dd_X4_runsAlong_12 (by decide) (by omega) (by omega) (fun q3 => ?_) (fun q3 => ?_)
    · skip
      refine sA_iconst (z := 1) dd_X4_runsAlong_63 ?_
      refine sA_bret (z := 1) dd_X4_runsAlong_64 rfl (by omega) ?_
      exact ⟨_, rfl, rfl, rfl, by omega⟩
    · skip
      refine sA_aload_n dd_X4_runsAlong_15 rfl (.tail _ (.tail _ (.head _))) ?_
      refine sA_getr (ci := 4) (j := 0) (q := (RX4, TX4, 2)) dd_X4_runsAlong_16 rfl (by decide) fl_X4_13 (Nat.lt_of_succ_lt hr.1) hr.2.1 rfl ?_
      refine sA_iload_n dd_X4_runsAlong_19 rfl (.tail _ (.tail _ (.tail _ (.head _)))) ?_
      refine sA_iload dd_X4_runsAlong_20 (.head _) ?_
      refine sA_iadd dd_X4_runsAlong_22 ?_
      refine sA_iald (n := L) dd_X4_runsAlong_23 hr.1 hr.2.2.1 (by omega) (Nat.le_trans hr.2.2.2.2.2.2 (by decide)) ?_
      have b4 := gs_row_el hr hI (p + k).toNat
      refine sA_aload_n dd_X4_runsAlong_24 rfl (.tail _ (.tail _ (.tail _ (.tail _ (.head _))))) ?_
      refine sA_getr (ci := 4) (j := 0) (q := (RX4, TX4, 2)) dd_X4_runsAlong_25 rfl (by decide) fl_X4_13 (Nat.lt_of_succ_lt ho.1) ho.2.1 rfl ?_
      refine sA_iload dd_X4_runsAlong_28 (.tail _ (.head _)) ?_
      refine sA_iald (n := M) dd_X4_runsAlong_30 ho.1 ho.2.2.1 (by omega) (Nat.le_trans ho.2.2.2.2.2.2 (by decide)) ?_
      have b5 := gs_row_el ho hI t.toNat
      refine sA_icmp_eq (tgt := 36) dd_X4_runsAlong_31 (by decide) (by omega) (by omega) (fun q6 => ?_) (fun q6 => ?_)
      · skip
        refine sA_iload dd_X4_runsAlong_36 (.tail _ (.head _)) ?_
        refine sA_iconst (z := 1) dd_X4_runsAlong_38 ?_
        refine sA_iadd dd_X4_runsAlong_39 ?_
        refine sA_aload_n dd_X4_runsAlong_40 rfl (.tail _ (.tail _ (.tail _ (.tail _ (.head _))))) ?_
        refine sA_geti (ci := 4) (j := 1) (q := (RX4, TX4, 2)) dd_X4_runsAlong_41 rfl (by decide) fl_X4_19 (Nat.lt_of_succ_lt ho.1) ho.2.1 rfl ?_
        refine sA_icmp_ne (tgt := 51) dd_X4_runsAlong_44 (by decide) (by omega) (by omega) (fun q7 => ?_) (fun q7 => ?_)
        · skip
          refine sA_iload dd_X4_runsAlong_51 (.tail _ (.head _)) ?_
          refine sA_iconst (z := 1) dd_X4_runsAlong_53 ?_
          refine sA_iadd dd_X4_runsAlong_54 ?_
          refine sA_istore (lv' := [(4, gs_iv (t + 1)), (5, gs_iv k), (0, .ref a), (1, gs_iv p), (2, .ref b)]) dd_X4_runsAlong_55 (by decide) rfl ?_
          refine sA_iinc (lv' := [(5, gs_iv (k + 1)), (4, gs_iv (t + 1)), (0, .ref a), (1, gs_iv p), (2, .ref b)]) dd_X4_runsAlong_57 (.tail _ (.head _)) (by decide) rfl ?_
          refine sA_goto (tgt := 6) dd_X4_runsAlong_60 (by decide) ?_
          refine sA_sub (lv2 := [(5, gs_iv (k + 1)), (4, gs_iv (t + 1)), (0, .ref a), (1, gs_iv p), (2, .ref b)]) (List.forall_mem_cons.mpr ⟨(.head _), (List.forall_mem_cons.mpr ⟨(.tail _ (.head _)), (List.forall_mem_cons.mpr ⟨(.tail _ (.tail _ (.head _))), (List.forall_mem_cons.mpr ⟨(.tail _ (.tail _ (.tail _ (.head _)))), (List.forall_mem_cons.mpr ⟨(.tail _ (.tail _ (.tail _ (.tail _ (.head _))))), (fun _ h => absurd h List.not_mem_nil)⟩)⟩)⟩)⟩)⟩) ?_
          exact ih (k + 1) (t + 1)  (by omega) (by omega) (by omega) (by omega) (by omega)
        · skip
          refine sA_iconst (z := 0) dd_X4_runsAlong_47 ?_
          refine sA_goto (tgt := 55) dd_X4_runsAlong_48 (by decide) ?_
          refine sA_istore (lv' := [(4, gs_iv 0), (5, gs_iv k), (0, .ref a), (1, gs_iv p), (2, .ref b)]) dd_X4_runsAlong_55 (by decide) rfl ?_
          refine sA_iinc (lv' := [(5, gs_iv (k + 1)), (4, gs_iv 0), (0, .ref a), (1, gs_iv p), (2, .ref b)]) dd_X4_runsAlong_57 (.tail _ (.head _)) (by decide) rfl ?_
          refine sA_goto (tgt := 6) dd_X4_runsAlong_60 (by decide) ?_
          refine sA_sub (lv2 := [(5, gs_iv (k + 1)), (4, gs_iv 0), (0, .ref a), (1, gs_iv p), (2, .ref b)]) (List.forall_mem_cons.mpr ⟨(.head _), (List.forall_mem_cons.mpr ⟨(.tail _ (.head _)), (List.forall_mem_cons.mpr ⟨(.tail _ (.tail _ (.head _))), (List.forall_mem_cons.mpr ⟨(.tail _ (.tail _ (.tail _ (.head _)))), (List.forall_mem_cons.mpr ⟨(.tail _ (.tail _ (.tail _ (.tail _ (.head _))))), (fun _ h => absurd h List.not_mem_nil)⟩)⟩)⟩)⟩)⟩) ?_
          exact ih (k + 1) 0  (by omega) (by omega) (by omega) (by omega) (by omega)
      · skip
        refine sA_iconst (z := 0) dd_X4_runsAlong_34 ?_
        refine sA_bret (z := 0) dd_X4_runsAlong_35 rfl (by omega) ?_
        exact ⟨_, rfl, rfl, rfl, by omega⟩
theorem c_X4_runsAlong {a L b M : Nat} {p q : Int} {F A : gs_F} (hI : gs_I F A) (hr : gs_row a L) (hp : 0 ≤ p ∧ p + F b 1 ≤ F a 1) (ho : gs_row b M) (hq : 0 ≤ q ∧ q < F b 1) : sC m_X4_runsAlong 1 [.ref a, gs_iv p, .ref b, gs_iv q] F A (fun r F' A' => ∃ z : Int, r = some (gs_iv z) ∧ F = F' ∧ A = A' ∧ (z = 0 ∨ z = 1)) := by
  refine sC_of ok_X4_runsAlong.1 (Nat.le_of_ble_eq_true rfl) ?_
  show sA _ _ _ 0 [(0, .ref a), (1, gs_iv p), (2, .ref b), (3, gs_iv q)] [] F A
  have b8 := gs_row_sz hr hI
  have b9 := gs_row_sz ho hI
  refine sA_iload_n dd_X4_runsAlong_0 rfl (.tail _ (.tail _ (.tail _ (.head _)))) ?_
  refine sA_istore (lv' := [(4, gs_iv q), (0, .ref a), (1, gs_iv p), (2, .ref b), (3, gs_iv q)]) dd_X4_runsAlong_1 (by decide) rfl ?_
  refine sA_iconst (z := 0) dd_X4_runsAlong_3 ?_
  refine sA_istore (lv' := [(5, gs_iv 0), (4, gs_iv q), (0, .ref a), (1, gs_iv p), (2, .ref b), (3, gs_iv q)]) dd_X4_runsAlong_4 (by decide) rfl ?_
  refine sA_sub (lv2 := [(5, gs_iv 0), (4, gs_iv q), (0, .ref a), (1, gs_iv p), (2, .ref b)]) (List.forall_mem_cons.mpr ⟨(.head _), (List.forall_mem_cons.mpr ⟨(.tail _ (.head _)), (List.forall_mem_cons.mpr ⟨(.tail _ (.tail _ (.head _))), (List.forall_mem_cons.mpr ⟨(.tail _ (.tail _ (.tail _ (.head _)))), (List.forall_mem_cons.mpr ⟨(.tail _ (.tail _ (.tail _ (.tail _ (.head _))))), (fun _ h => absurd h List.not_mem_nil)⟩)⟩)⟩)⟩)⟩) ?_
  exact (k_X4_runsAlong hI hr hp ho hq (F b 1 - 0).toNat.succ) 0 q  (by omega) (by omega) (by omega) (by omega) (by omega)
theorem dd_X4_runsAgainst_0 : decode cX4_runsAgainst 0 = .ok (.iload_n 3, 1) := by decide +kernel
theorem dd_X4_runsAgainst_1 : decode cX4_runsAgainst 1 = .ok (.istore 4, 2) := by decide +kernel
theorem dd_X4_runsAgainst_3 : decode cX4_runsAgainst 3 = .ok (.iconst 0, 1) := by decide +kernel
theorem dd_X4_runsAgainst_4 : decode cX4_runsAgainst 4 = .ok (.istore 5, 2) := by decide +kernel
theorem dd_X4_runsAgainst_6 : decode cX4_runsAgainst 6 = .ok (.iload 5, 2) := by decide +kernel
theorem dd_X4_runsAgainst_8 : decode cX4_runsAgainst 8 = .ok (.aload_n 2, 1) := by decide +kernel
theorem dd_X4_runsAgainst_9 : decode cX4_runsAgainst 9 = .ok (.getfield 19, 3) := by decide +kernel
theorem dd_X4_runsAgainst_12 : decode cX4_runsAgainst 12 = .ok (.if_icmp .ge 51, 3) := by decide +kernel
theorem dd_X4_runsAgainst_15 : decode cX4_runsAgainst 15 = .ok (.aload_n 0, 1) := by decide +kernel
theorem dd_X4_runsAgainst_16 : decode cX4_runsAgainst 16 = .ok (.getfield 13, 3) := by decide +kernel
theorem dd_X4_runsAgainst_19 : decode cX4_runsAgainst 19 = .ok (.iload_n 1, 1) := by decide +kernel
theorem dd_X4_runsAgainst_20 : decode cX4_runsAgainst 20 = .ok (.iload 5, 2) := by decide +kernel
theorem dd_X4_runsAgainst_22 : decode cX4_runsAgainst 22 = .ok (.iadd, 1) := by decide +kernel
theorem dd_X4_runsAgainst_23 : decode cX4_runsAgainst 23 = .ok (.iaload, 1) := by decide +kernel
theorem dd_X4_runsAgainst_24 : decode cX4_runsAgainst 24 = .ok (.aload_n 2, 1) := by decide +kernel
theorem dd_X4_runsAgainst_25 : decode cX4_runsAgainst 25 = .ok (.getfield 13, 3) := by decide +kernel
theorem dd_X4_runsAgainst_28 : decode cX4_runsAgainst 28 = .ok (.iload 4, 2) := by decide +kernel
theorem dd_X4_runsAgainst_30 : decode cX4_runsAgainst 30 = .ok (.iaload, 1) := by decide +kernel
theorem dd_X4_runsAgainst_31 : decode cX4_runsAgainst 31 = .ok (.ineg, 1) := by decide +kernel
theorem dd_X4_runsAgainst_32 : decode cX4_runsAgainst 32 = .ok (.if_icmp .eq 5, 3) := by decide +kernel
theorem dd_X4_runsAgainst_35 : decode cX4_runsAgainst 35 = .ok (.iconst 0, 1) := by decide +kernel
theorem dd_X4_runsAgainst_36 : decode cX4_runsAgainst 36 = .ok (.ireturn, 1) := by decide +kernel
theorem dd_X4_runsAgainst_37 : decode cX4_runsAgainst 37 = .ok (.iload 4, 2) := by decide +kernel
theorem dd_X4_runsAgainst_39 : decode cX4_runsAgainst 39 = .ok (.ifCond .ne 12, 3) := by decide +kernel
theorem dd_X4_runsAgainst_42 : decode cX4_runsAgainst 42 = .ok (.aload_n 2, 1) := by decide +kernel
theorem dd_X4_runsAgainst_43 : decode cX4_runsAgainst 43 = .ok (.getfield 19, 3) := by decide +kernel
theorem dd_X4_runsAgainst_46 : decode cX4_runsAgainst 46 = .ok (.iconst 1, 1) := by decide +kernel
theorem dd_X4_runsAgainst_47 : decode cX4_runsAgainst 47 = .ok (.isub, 1) := by decide +kernel
theorem dd_X4_runsAgainst_48 : decode cX4_runsAgainst 48 = .ok (.goto 7, 3) := by decide +kernel
theorem dd_X4_runsAgainst_51 : decode cX4_runsAgainst 51 = .ok (.iload 4, 2) := by decide +kernel
theorem dd_X4_runsAgainst_53 : decode cX4_runsAgainst 53 = .ok (.iconst 1, 1) := by decide +kernel
theorem dd_X4_runsAgainst_54 : decode cX4_runsAgainst 54 = .ok (.isub, 1) := by decide +kernel
theorem dd_X4_runsAgainst_55 : decode cX4_runsAgainst 55 = .ok (.istore 4, 2) := by decide +kernel
theorem dd_X4_runsAgainst_57 : decode cX4_runsAgainst 57 = .ok (.iinc 5 1, 3) := by decide +kernel
theorem dd_X4_runsAgainst_60 : decode cX4_runsAgainst 60 = .ok (.goto (-54), 3) := by decide +kernel
theorem dd_X4_runsAgainst_63 : decode cX4_runsAgainst 63 = .ok (.iconst 1, 1) := by decide +kernel
theorem dd_X4_runsAgainst_64 : decode cX4_runsAgainst 64 = .ok (.ireturn, 1) := by decide +kernel
theorem ok_X4_runsAgainst : am_okM m_X4_runsAgainst 3 ∧ Cond.instanceMethod m_X4_runsAgainst.1 ∈ am_tbl ∧ Cond.selects m_X4_runsAgainst.1.cls m_X4_runsAgainst.1 m_X4_runsAgainst.1 ∈ am_tbl := ⟨(ri_all 37).1, (ri_all 37).2.2.1 (by decide +kernel)⟩
theorem k_X4_runsAgainst {a L b M : Nat} {p q : Int} {F A : gs_F} (hI : gs_I F A) (hr : gs_row a L) (hp : 0 ≤ p ∧ p + F b 1 ≤ F a 1) (ho : gs_row b M) (hq : 0 ≤ q ∧ q < F b 1) : ∀ n : Nat, (∀ (k : Int) (t : Int),  0 ≤ k → k ≤ F b 1 → 0 ≤ t → t < F b 1 → F b 1 - k < (n : Int) → sA m_X4_runsAgainst 1 (fun r F' A' => ∃ z : Int, r = some (gs_iv z) ∧ F = F' ∧ A = A' ∧ (z = 0 ∨ z = 1)) 6 [(5, gs_iv k), (4, gs_iv t), (0, .ref a), (1, gs_iv p), (2, .ref b)] [] F A) := by
  intro n
  induction n with
  | zero =>
    exact fun a0 a1 i0 i1 i2 i3 hm => by exfalso; omega
  | succ n ih =>
    intro k t i0 i1 i2 i3 hm
    have b1 := gs_row_sz hr hI
    have b2 := gs_row_sz ho hI
    refine sA_iload dd_X4_runsAgainst_6 (.head _) ?_
    refine sA_aload_n dd_X4_runsAgainst_8 rfl (.tail _ (.tail _ (.tail _ (.tail _ (.head _))))) ?_
    refine sA_geti (ci := 4) (j := 1) (q := (RX4, TX4, 2)) dd_X4_runsAgainst_9 rfl (by decide) fl_X4_19 (Nat.lt_of_succ_lt ho.1) ho.2.1 rfl ?_
    refine sA_icmp_ge (tgt := 63) dd_X4_runsAgainst_12 (by decide) (by omega) (by omega) (fun q3 => ?_) (fun q3 => ?_)
    · skip
      refine sA_iconst (z := 1) dd_X4_runsAgainst_63 ?_
      refine sA_bret (z := 1) dd_X4_runsAgainst_64 rfl (by omega) ?_
      exact ⟨_, rfl, rfl, rfl, by omega⟩
    · skip
      refine sA_aload_n dd_X4_runsAgainst_15 rfl (.tail _ (.tail _ (.head _))) ?_
      refine sA_getr (ci := 4) (j := 0) (q := (RX4, TX4, 2)) dd_X4_runsAgainst_16 rfl (by decide) fl_X4_13 (Nat.lt_of_succ_lt hr.1) hr.2.1 rfl ?_
      refine sA_iload_n dd_X4_runsAgainst_19 rfl (.tail _ (.tail _ (.tail _ (.head _)))) ?_
      refine sA_iload dd_X4_runsAgainst_20 (.head _) ?_
      refine sA_iadd dd_X4_runsAgainst_22 ?_
      refine sA_iald (n := L) dd_X4_runsAgainst_23 hr.1 hr.2.2.1 (by omega) (Nat.le_trans hr.2.2.2.2.2.2 (by decide)) ?_
      have b4 := gs_row_el hr hI (p + k).toNat
      refine sA_aload_n dd_X4_runsAgainst_24 rfl (.tail _ (.tail _ (.tail _ (.tail _ (.head _))))) ?_
      refine sA_getr (ci := 4) (j := 0) (q := (RX4, TX4, 2)) dd_X4_runsAgainst_25 rfl (by decide) fl_X4_13 (Nat.lt_of_succ_lt ho.1) ho.2.1 rfl ?_
      refine sA_iload dd_X4_runsAgainst_28 (.tail _ (.head _)) ?_
      refine sA_iald (n := M) dd_X4_runsAgainst_30 ho.1 ho.2.2.1 (by omega) (Nat.le_trans ho.2.2.2.2.2.2 (by decide)) ?_
      have b5 := gs_row_el ho hI t.toNat
      refine sA_ineg dd_X4_runsAgainst_31 ?_
      refine sA_icmp_eq (tgt := 37) dd_X4_runsAgainst_32 (by decide) (by omega) (by omega) (fun q6 => ?_) (fun q6 => ?_)
      · skip
        refine sA_iload dd_X4_runsAgainst_37 (.tail _ (.head _)) ?_
        refine sA_if_ne (tgt := 51) dd_X4_runsAgainst_39 (by decide) (by omega) (fun q7 => ?_) (fun q7 => ?_)
        · skip
          refine sA_iload dd_X4_runsAgainst_51 (.tail _ (.head _)) ?_
          refine sA_iconst (z := 1) dd_X4_runsAgainst_53 ?_
          refine sA_isub dd_X4_runsAgainst_54 ?_
          refine sA_istore (lv' := [(4, gs_iv (t - 1)), (5, gs_iv k), (0, .ref a), (1, gs_iv p), (2, .ref b)]) dd_X4_runsAgainst_55 (by decide) rfl ?_
          refine sA_iinc (lv' := [(5, gs_iv (k + 1)), (4, gs_iv (t - 1)), (0, .ref a), (1, gs_iv p), (2, .ref b)]) dd_X4_runsAgainst_57 (.tail _ (.head _)) (by decide) rfl ?_
          refine sA_goto (tgt := 6) dd_X4_runsAgainst_60 (by decide) ?_
          refine sA_sub (lv2 := [(5, gs_iv (k + 1)), (4, gs_iv (t - 1)), (0, .ref a), (1, gs_iv p), (2, .ref b)]) (List.forall_mem_cons.mpr ⟨(.head _), (List.forall_mem_cons.mpr ⟨(.tail _ (.head _)), (List.forall_mem_cons.mpr ⟨(.tail _ (.tail _ (.head _))), (List.forall_mem_cons.mpr ⟨(.tail _ (.tail _ (.tail _ (.head _)))), (List.forall_mem_cons.mpr ⟨(.tail _ (.tail _ (.tail _ (.tail _ (.head _))))), (fun _ h => absurd h List.not_mem_nil)⟩)⟩)⟩)⟩)⟩) ?_
          exact ih (k + 1) (t - 1)  (by omega) (by omega) (by omega) (by omega) (by omega)
        · skip
          refine sA_aload_n dd_X4_runsAgainst_42 rfl (.tail _ (.tail _ (.tail _ (.tail _ (.head _))))) ?_
          refine sA_geti (ci := 4) (j := 1) (q := (RX4, TX4, 2)) dd_X4_runsAgainst_43 rfl (by decide) fl_X4_19 (Nat.lt_of_succ_lt ho.1) ho.2.1 rfl ?_
          refine sA_iconst (z := 1) dd_X4_runsAgainst_46 ?_
          refine sA_isub dd_X4_runsAgainst_47 ?_
          refine sA_goto (tgt := 55) dd_X4_runsAgainst_48 (by decide) ?_
          refine sA_istore (lv' := [(4, gs_iv ((F b 1) - 1)), (5, gs_iv k), (0, .ref a), (1, gs_iv p), (2, .ref b)]) dd_X4_runsAgainst_55 (by decide) rfl ?_
          refine sA_iinc (lv' := [(5, gs_iv (k + 1)), (4, gs_iv ((F b 1) - 1)), (0, .ref a), (1, gs_iv p), (2, .ref b)]) dd_X4_runsAgainst_57 (.tail _ (.head _)) (by decide) rfl ?_
          refine sA_goto (tgt := 6) dd_X4_runsAgainst_60 (by decide) ?_
          refine sA_sub (lv2 := [(5, gs_iv (k + 1)), (4, gs_iv ((F b 1) - 1)), (0, .ref a), (1, gs_iv p), (2, .ref b)]) (List.forall_mem_cons.mpr ⟨(.head _), (List.forall_mem_cons.mpr ⟨(.tail _ (.head _)), (List.forall_mem_cons.mpr ⟨(.tail _ (.tail _ (.head _))), (List.forall_mem_cons.mpr ⟨(.tail _ (.tail _ (.tail _ (.head _)))), (List.forall_mem_cons.mpr ⟨(.tail _ (.tail _ (.tail _ (.tail _ (.head _))))), (fun _ h => absurd h List.not_mem_nil)⟩)⟩)⟩)⟩)⟩) ?_
          exact ih (k + 1) ((F b 1) - 1)  (by omega) (by omega) (by omega) (by omega) (by omega)
      · skip
        refine sA_iconst (z := 0) dd_X4_runsAgainst_35 ?_
        refine sA_bret (z := 0) dd_X4_runsAgainst_36 rfl (by omega) ?_
        exact ⟨_, rfl, rfl, rfl, by omega⟩
theorem c_X4_runsAgainst {a L b M : Nat} {p q : Int} {F A : gs_F} (hI : gs_I F A) (hr : gs_row a L) (hp : 0 ≤ p ∧ p + F b 1 ≤ F a 1) (ho : gs_row b M) (hq : 0 ≤ q ∧ q < F b 1) : sC m_X4_runsAgainst 1 [.ref a, gs_iv p, .ref b, gs_iv q] F A (fun r F' A' => ∃ z : Int, r = some (gs_iv z) ∧ F = F' ∧ A = A' ∧ (z = 0 ∨ z = 1)) := by
  refine sC_of ok_X4_runsAgainst.1 (Nat.le_of_ble_eq_true rfl) ?_
  show sA _ _ _ 0 [(0, .ref a), (1, gs_iv p), (2, .ref b), (3, gs_iv q)] [] F A
  have b8 := gs_row_sz hr hI
  have b9 := gs_row_sz ho hI
  refine sA_iload_n dd_X4_runsAgainst_0 rfl (.tail _ (.tail _ (.tail _ (.head _)))) ?_
  refine sA_istore (lv' := [(4, gs_iv q), (0, .ref a), (1, gs_iv p), (2, .ref b), (3, gs_iv q)]) dd_X4_runsAgainst_1 (by decide) rfl ?_
  refine sA_iconst (z := 0) dd_X4_runsAgainst_3 ?_
  refine sA_istore (lv' := [(5, gs_iv 0), (4, gs_iv q), (0, .ref a), (1, gs_iv p), (2, .ref b), (3, gs_iv q)]) dd_X4_runsAgainst_4 (by decide) rfl ?_
  refine sA_sub (lv2 := [(5, gs_iv 0), (4, gs_iv q), (0, .ref a), (1, gs_iv p), (2, .ref b)]) (List.forall_mem_cons.mpr ⟨(.head _), (List.forall_mem_cons.mpr ⟨(.tail _ (.head _)), (List.forall_mem_cons.mpr ⟨(.tail _ (.tail _ (.head _))), (List.forall_mem_cons.mpr ⟨(.tail _ (.tail _ (.tail _ (.head _)))), (List.forall_mem_cons.mpr ⟨(.tail _ (.tail _ (.tail _ (.tail _ (.head _))))), (fun _ h => absurd h List.not_mem_nil)⟩)⟩)⟩)⟩)⟩) ?_
  exact (k_X4_runsAgainst hI hr hp ho hq (F b 1 - 0).toNat.succ) 0 q  (by omega) (by omega) (by omega) (by omega) (by omega)
theorem dd_X4_isOneWith_0 : decode cX4_isOneWith 0 = .ok (.aload_n 0, 1) := by decide +kernel
theorem dd_X4_isOneWith_1 : decode cX4_isOneWith 1 = .ok (.invokevirtual 32, 3) := by decide +kernel
theorem dd_X4_isOneWith_4 : decode cX4_isOneWith 4 = .ok (.istore_n 2, 1) := by decide +kernel
theorem dd_X4_isOneWith_5 : decode cX4_isOneWith 5 = .ok (.aload_n 0, 1) := by decide +kernel
theorem dd_X4_isOneWith_6 : decode cX4_isOneWith 6 = .ok (.getfield 19, 3) := by decide +kernel
theorem dd_X4_isOneWith_9 : decode cX4_isOneWith 9 = .ok (.iconst 2, 1) := by decide +kernel
theorem dd_X4_isOneWith_10 : decode cX4_isOneWith 10 = .ok (.iload_n 2, 1) := by decide +kernel
theorem dd_X4_isOneWith_11 : decode cX4_isOneWith 11 = .ok (.imul, 1) := by decide +kernel
theorem dd_X4_isOneWith_12 : decode cX4_isOneWith 12 = .ok (.isub, 1) := by decide +kernel
theorem dd_X4_isOneWith_13 : decode cX4_isOneWith 13 = .ok (.aload_n 1, 1) := by decide +kernel
theorem dd_X4_isOneWith_14 : decode cX4_isOneWith 14 = .ok (.getfield 19, 3) := by decide +kernel
theorem dd_X4_isOneWith_17 : decode cX4_isOneWith 17 = .ok (.if_icmp .eq 5, 3) := by decide +kernel
theorem dd_X4_isOneWith_20 : decode cX4_isOneWith 20 = .ok (.iconst 0, 1) := by decide +kernel
theorem dd_X4_isOneWith_21 : decode cX4_isOneWith 21 = .ok (.ireturn, 1) := by decide +kernel
theorem dd_X4_isOneWith_22 : decode cX4_isOneWith 22 = .ok (.iconst 0, 1) := by decide +kernel
theorem dd_X4_isOneWith_23 : decode cX4_isOneWith 23 = .ok (.istore_n 3, 1) := by decide +kernel
theorem dd_X4_isOneWith_24 : decode cX4_isOneWith 24 = .ok (.iload_n 3, 1) := by decide +kernel
theorem dd_X4_isOneWith_25 : decode cX4_isOneWith 25 = .ok (.aload_n 1, 1) := by decide +kernel
theorem dd_X4_isOneWith_26 : decode cX4_isOneWith 26 = .ok (.getfield 19, 3) := by decide +kernel
theorem dd_X4_isOneWith_29 : decode cX4_isOneWith 29 = .ok (.if_icmp .ge 31, 3) := by decide +kernel
theorem dd_X4_isOneWith_32 : decode cX4_isOneWith 32 = .ok (.aload_n 0, 1) := by decide +kernel
theorem dd_X4_isOneWith_33 : decode cX4_isOneWith 33 = .ok (.iload_n 2, 1) := by decide +kernel
theorem dd_X4_isOneWith_34 : decode cX4_isOneWith 34 = .ok (.aload_n 1, 1) := by decide +kernel
theorem dd_X4_isOneWith_35 : decode cX4_isOneWith 35 = .ok (.iload_n 3, 1) := by decide +kernel
theorem dd_X4_isOneWith_36 : decode cX4_isOneWith 36 = .ok (.invokevirtual 36, 3) := by decide +kernel
theorem dd_X4_isOneWith_39 : decode cX4_isOneWith 39 = .ok (.ifCond .ne 13, 3) := by decide +kernel
theorem dd_X4_isOneWith_42 : decode cX4_isOneWith 42 = .ok (.aload_n 0, 1) := by decide +kernel
theorem dd_X4_isOneWith_43 : decode cX4_isOneWith 43 = .ok (.iload_n 2, 1) := by decide +kernel
theorem dd_X4_isOneWith_44 : decode cX4_isOneWith 44 = .ok (.aload_n 1, 1) := by decide +kernel
theorem dd_X4_isOneWith_45 : decode cX4_isOneWith 45 = .ok (.iload_n 3, 1) := by decide +kernel
theorem dd_X4_isOneWith_46 : decode cX4_isOneWith 46 = .ok (.invokevirtual 40, 3) := by decide +kernel
theorem dd_X4_isOneWith_49 : decode cX4_isOneWith 49 = .ok (.ifCond .eq 5, 3) := by decide +kernel
theorem dd_X4_isOneWith_52 : decode cX4_isOneWith 52 = .ok (.iconst 1, 1) := by decide +kernel
theorem dd_X4_isOneWith_53 : decode cX4_isOneWith 53 = .ok (.ireturn, 1) := by decide +kernel
theorem dd_X4_isOneWith_54 : decode cX4_isOneWith 54 = .ok (.iinc 3 1, 3) := by decide +kernel
theorem dd_X4_isOneWith_57 : decode cX4_isOneWith 57 = .ok (.goto (-33), 3) := by decide +kernel
theorem dd_X4_isOneWith_60 : decode cX4_isOneWith 60 = .ok (.iconst 0, 1) := by decide +kernel
theorem dd_X4_isOneWith_61 : decode cX4_isOneWith 61 = .ok (.ireturn, 1) := by decide +kernel
theorem ml_X4_36 : Cond.methodLink RX4 36 m_X4_runsAlong.1 ∈ am_tbl := ri_lw_in (pl := 483) (by decide +kernel)
theorem ml_X4_40 : Cond.methodLink RX4 40 m_X4_runsAgainst.1 ∈ am_tbl := ri_lw_in (pl := 487) (by decide +kernel)
theorem ok_X4_isOneWith : am_okM m_X4_isOneWith 1 ∧ Cond.instanceMethod m_X4_isOneWith.1 ∈ am_tbl ∧ Cond.selects m_X4_isOneWith.1.cls m_X4_isOneWith.1 m_X4_isOneWith.1 ∈ am_tbl := ⟨(ri_all 35).1, (ri_all 35).2.2.1 (by decide +kernel)⟩
theorem k_X4_isOneWith {a L b M : Nat} {F A : gs_F} (hI : gs_I F A) (hr : gs_row a L) (ho : gs_row b M) : ∀ n : Nat, (∀ (p : Int) (k : Int),  0 ≤ p → F a 1 - 2 * p = F b 1 → 0 ≤ k → k ≤ F b 1 → F b 1 - k < (n : Int) → sA m_X4_isOneWith 2 (fun r F' A' => ∃ z : Int, r = some (gs_iv z) ∧ F = F' ∧ A = A' ∧ (z = 0 ∨ z = 1)) 24 [(3, gs_iv k), (2, gs_iv p), (0, .ref a), (1, .ref b)] [] F A) := by
  intro n
  induction n with
  | zero =>
    exact fun a0 a1 i0 i1 i2 i3 hm => by exfalso; omega
  | succ n ih =>
    intro p k i0 i1 i2 i3 hm
    have b1 := gs_row_sz hr hI
    have b2 := gs_row_sz ho hI
    refine sA_iload_n dd_X4_isOneWith_24 rfl (.head _) ?_
    refine sA_aload_n dd_X4_isOneWith_25 rfl (.tail _ (.tail _ (.tail _ (.head _)))) ?_
    refine sA_geti (ci := 4) (j := 1) (q := (RX4, TX4, 2)) dd_X4_isOneWith_26 rfl (by decide) fl_X4_19 (Nat.lt_of_succ_lt ho.1) ho.2.1 rfl ?_
    refine sA_icmp_ge (tgt := 60) dd_X4_isOneWith_29 (by decide) (by omega) (by omega) (fun q3 => ?_) (fun q3 => ?_)
    · skip
      refine sA_iconst (z := 0) dd_X4_isOneWith_60 ?_
      refine sA_bret (z := 0) dd_X4_isOneWith_61 rfl (by omega) ?_
      exact ⟨_, rfl, rfl, rfl, by omega⟩
    · skip
      refine sA_aload_n dd_X4_isOneWith_32 rfl (.tail _ (.tail _ (.head _))) ?_
      refine sA_iload_n dd_X4_isOneWith_33 rfl (.tail _ (.head _)) ?_
      refine sA_aload_n dd_X4_isOneWith_34 rfl (.tail _ (.tail _ (.tail _ (.head _)))) ?_
      refine sA_iload_n dd_X4_isOneWith_35 rfl (.head _) ?_
      refine sA_callV (y2 := m_X4_runsAlong) (n2 := 3) (d2 := 1) (a := a) (ci := 4) (q := (RX4, TX4, 2)) (as := [gs_iv p, .ref b, gs_iv k]) (rest := []) dd_X4_isOneWith_36 ok_X4_runsAlong ml_X4_36 rfl rfl (Nat.lt_of_succ_lt hr.1) hr.2.1 rfl rfl (Nat.le_of_ble_eq_true rfl) (by decide) (c_X4_runsAlong hI hr (by omega) ho (by omega)) (fun r4 F5 A6 h7 => ?_)
      obtain ⟨z10, e9, e11, e12, x8⟩ := h7
      subst e9 e11 e12
      show sA _ _ _ 39 _ [gs_iv z10] _ _
      refine sA_if_ne (tgt := 52) dd_X4_isOneWith_39 (by decide) (by omega) (fun q13 => ?_) (fun q13 => ?_)
      · skip
        refine sA_iconst (z := 1) dd_X4_isOneWith_52 ?_
        refine sA_bret (z := 1) dd_X4_isOneWith_53 rfl (by omega) ?_
        exact ⟨_, rfl, rfl, rfl, by omega⟩
      · skip
        refine sA_aload_n dd_X4_isOneWith_42 rfl (.tail _ (.tail _ (.head _))) ?_
        refine sA_iload_n dd_X4_isOneWith_43 rfl (.tail _ (.head _)) ?_
        refine sA_aload_n dd_X4_isOneWith_44 rfl (.tail _ (.tail _ (.tail _ (.head _)))) ?_
        refine sA_iload_n dd_X4_isOneWith_45 rfl (.head _) ?_
        refine sA_callV (y2 := m_X4_runsAgainst) (n2 := 3) (d2 := 1) (a := a) (ci := 4) (q := (RX4, TX4, 2)) (as := [gs_iv p, .ref b, gs_iv k]) (rest := []) dd_X4_isOneWith_46 ok_X4_runsAgainst ml_X4_40 rfl rfl (Nat.lt_of_succ_lt hr.1) hr.2.1 rfl rfl (Nat.le_of_ble_eq_true rfl) (by decide) (c_X4_runsAgainst hI hr (by omega) ho (by omega)) (fun r14 F15 A16 h17 => ?_)
        obtain ⟨z20, e19, e21, e22, x18⟩ := h17
        subst e19 e21 e22
        show sA _ _ _ 49 _ [gs_iv z20] _ _
        refine sA_if_eq (tgt := 54) dd_X4_isOneWith_49 (by decide) (by omega) (fun q23 => ?_) (fun q23 => ?_)
        · skip
          refine sA_iinc (lv' := [(3, gs_iv (k + 1)), (2, gs_iv p), (0, .ref a), (1, .ref b)]) dd_X4_isOneWith_54 (.head _) (by decide) rfl ?_
          refine sA_goto (tgt := 24) dd_X4_isOneWith_57 (by decide) ?_
          refine sA_sub (lv2 := [(3, gs_iv (k + 1)), (2, gs_iv p), (0, .ref a), (1, .ref b)]) (List.forall_mem_cons.mpr ⟨(.head _), (List.forall_mem_cons.mpr ⟨(.tail _ (.head _)), (List.forall_mem_cons.mpr ⟨(.tail _ (.tail _ (.head _))), (List.forall_mem_cons.mpr ⟨(.tail _ (.tail _ (.tail _ (.head _)))), (fun _ h => absurd h List.not_mem_nil)⟩)⟩)⟩)⟩) ?_
          exact ih p (k + 1)  (by omega) (by omega) (by omega) (by omega) (by omega)
        · skip
          refine sA_iconst (z := 1) dd_X4_isOneWith_52 ?_
          refine sA_bret (z := 1) dd_X4_isOneWith_53 rfl (by omega) ?_
          exact ⟨_, rfl, rfl, rfl, by omega⟩
theorem c_X4_isOneWith {a L b M : Nat} {F A : gs_F} (hI : gs_I F A) (hr : gs_row a L) (ho : gs_row b M) : sC m_X4_isOneWith 2 [.ref a, .ref b] F A (fun r F' A' => ∃ z : Int, r = some (gs_iv z) ∧ F = F' ∧ A = A' ∧ (z = 0 ∨ z = 1)) := by
  refine sC_of ok_X4_isOneWith.1 (Nat.le_of_ble_eq_true rfl) ?_
  show sA _ _ _ 0 [(0, .ref a), (1, .ref b)] [] F A
  have b24 := gs_row_sz hr hI
  have b25 := gs_row_sz ho hI
  refine sA_aload_n dd_X4_isOneWith_0 rfl (.head _) ?_
  refine sA_callV (y2 := m_X4_looseEnds) (n2 := 0) (d2 := 1) (a := a) (ci := 4) (q := (RX4, TX4, 2)) (as := []) (rest := []) dd_X4_isOneWith_1 ok_X4_looseEnds ml_X4_32 rfl rfl (Nat.lt_of_succ_lt hr.1) hr.2.1 rfl rfl (Nat.le_of_ble_eq_true rfl) (by decide) (c_X4_looseEnds hI hr) (fun r26 F27 A28 h29 => ?_)
  obtain ⟨z32, e31, e33, e34, x30⟩ := h29
  subst e31 e33 e34
  show sA _ _ _ 4 _ [gs_iv z32] _ _
  refine sA_istore_n (lv' := [(2, gs_iv z32), (0, .ref a), (1, .ref b)]) dd_X4_isOneWith_4 rfl (by decide) rfl ?_
  refine sA_aload_n dd_X4_isOneWith_5 rfl (.tail _ (.head _)) ?_
  refine sA_geti (ci := 4) (j := 1) (q := (RX4, TX4, 2)) dd_X4_isOneWith_6 rfl (by decide) fl_X4_19 (Nat.lt_of_succ_lt hr.1) hr.2.1 rfl ?_
  refine sA_iconst (z := 2) dd_X4_isOneWith_9 ?_
  refine sA_iload_n dd_X4_isOneWith_10 rfl (.head _) ?_
  refine sA_imul dd_X4_isOneWith_11 ?_
  refine sA_isub dd_X4_isOneWith_12 ?_
  refine sA_aload_n dd_X4_isOneWith_13 rfl (.tail _ (.tail _ (.head _))) ?_
  refine sA_geti (ci := 4) (j := 1) (q := (RX4, TX4, 2)) dd_X4_isOneWith_14 rfl (by decide) fl_X4_19 (Nat.lt_of_succ_lt ho.1) ho.2.1 rfl ?_
  refine sA_icmp_eq (tgt := 22) dd_X4_isOneWith_17 (by decide) (by omega) (by omega) (fun q35 => ?_) (fun q35 => ?_)
  · skip
    refine sA_iconst (z := 0) dd_X4_isOneWith_22 ?_
    refine sA_istore_n (lv' := [(3, gs_iv 0), (2, gs_iv z32), (0, .ref a), (1, .ref b)]) dd_X4_isOneWith_23 rfl (by decide) rfl ?_
    refine sA_sub (lv2 := [(3, gs_iv 0), (2, gs_iv z32), (0, .ref a), (1, .ref b)]) (List.forall_mem_cons.mpr ⟨(.head _), (List.forall_mem_cons.mpr ⟨(.tail _ (.head _)), (List.forall_mem_cons.mpr ⟨(.tail _ (.tail _ (.head _))), (List.forall_mem_cons.mpr ⟨(.tail _ (.tail _ (.tail _ (.head _)))), (fun _ h => absurd h List.not_mem_nil)⟩)⟩)⟩)⟩) ?_
    exact (k_X4_isOneWith hI hr ho (F b 1 - 0).toNat.succ) z32 0  (by omega) (by omega) (by omega) (by omega) (by omega)
  · skip
    refine sA_iconst (z := 0) dd_X4_isOneWith_20 ?_
    refine sA_bret (z := 0) dd_X4_isOneWith_21 rfl (by omega) ?_
    exact ⟨_, rfl, rfl, rfl, by omega⟩
theorem dd_X4_repeats_0 : decode cX4_repeats 0 = .ok (.iload_n 1, 1) := by decide +kernel
theorem dd_X4_repeats_1 : decode cX4_repeats 1 = .ok (.istore_n 2, 1) := by decide +kernel
theorem dd_X4_repeats_2 : decode cX4_repeats 2 = .ok (.iload_n 2, 1) := by decide +kernel
theorem dd_X4_repeats_3 : decode cX4_repeats 3 = .ok (.aload_n 0, 1) := by decide +kernel
theorem dd_X4_repeats_4 : decode cX4_repeats 4 = .ok (.getfield 19, 3) := by decide +kernel
theorem dd_X4_repeats_7 : decode cX4_repeats 7 = .ok (.if_icmp .ge 28, 3) := by decide +kernel
theorem dd_X4_repeats_10 : decode cX4_repeats 10 = .ok (.aload_n 0, 1) := by decide +kernel
theorem dd_X4_repeats_11 : decode cX4_repeats 11 = .ok (.getfield 13, 3) := by decide +kernel
theorem dd_X4_repeats_14 : decode cX4_repeats 14 = .ok (.iload_n 2, 1) := by decide +kernel
theorem dd_X4_repeats_15 : decode cX4_repeats 15 = .ok (.iaload, 1) := by decide +kernel
theorem dd_X4_repeats_16 : decode cX4_repeats 16 = .ok (.aload_n 0, 1) := by decide +kernel
theorem dd_X4_repeats_17 : decode cX4_repeats 17 = .ok (.getfield 13, 3) := by decide +kernel
theorem dd_X4_repeats_20 : decode cX4_repeats 20 = .ok (.iload_n 2, 1) := by decide +kernel
theorem dd_X4_repeats_21 : decode cX4_repeats 21 = .ok (.iload_n 1, 1) := by decide +kernel
theorem dd_X4_repeats_22 : decode cX4_repeats 22 = .ok (.isub, 1) := by decide +kernel
theorem dd_X4_repeats_23 : decode cX4_repeats 23 = .ok (.iaload, 1) := by decide +kernel
theorem dd_X4_repeats_24 : decode cX4_repeats 24 = .ok (.if_icmp .eq 5, 3) := by decide +kernel
theorem dd_X4_repeats_27 : decode cX4_repeats 27 = .ok (.iconst 0, 1) := by decide +kernel
theorem dd_X4_repeats_28 : decode cX4_repeats 28 = .ok (.ireturn, 1) := by decide +kernel
theorem dd_X4_repeats_29 : decode cX4_repeats 29 = .ok (.iinc 2 1, 3) := by decide +kernel
theorem dd_X4_repeats_32 : decode cX4_repeats 32 = .ok (.goto (-30), 3) := by decide +kernel
theorem dd_X4_repeats_35 : decode cX4_repeats 35 = .ok (.iconst 1, 1) := by decide +kernel
theorem dd_X4_repeats_36 : decode cX4_repeats 36 = .ok (.ireturn, 1) := by decide +kernel
theorem ok_X4_repeats : am_okM m_X4_repeats 1 ∧ Cond.instanceMethod m_X4_repeats.1 ∈ am_tbl ∧ Cond.selects m_X4_repeats.1.cls m_X4_repeats.1 m_X4_repeats.1 ∈ am_tbl := ⟨(ri_all 39).1, (ri_all 39).2.2.1 (by decide +kernel)⟩
theorem k_X4_repeats {a L : Nat} {p : Int} {F A : gs_F} (hI : gs_I F A) (hr : gs_row a L) (hp : 1 ≤ p ∧ p ≤ F a 1) : ∀ n : Nat, (∀ (k : Int),  p ≤ k → k ≤ F a 1 → F a 1 - k < (n : Int) → sA m_X4_repeats 1 (fun r F' A' => ∃ z : Int, r = some (gs_iv z) ∧ F = F' ∧ A = A' ∧ (z = 0 ∨ z = 1)) 2 [(2, gs_iv k), (0, .ref a), (1, gs_iv p)] [] F A) := by
  intro n
  induction n with
  | zero =>
    exact fun a0 i0 i1 hm => by exfalso; omega
  | succ n ih =>
    intro k i0 i1 hm
    have b1 := gs_row_sz hr hI
    refine sA_iload_n dd_X4_repeats_2 rfl (.head _) ?_
    refine sA_aload_n dd_X4_repeats_3 rfl (.tail _ (.head _)) ?_
    refine sA_geti (ci := 4) (j := 1) (q := (RX4, TX4, 2)) dd_X4_repeats_4 rfl (by decide) fl_X4_19 (Nat.lt_of_succ_lt hr.1) hr.2.1 rfl ?_
    refine sA_icmp_ge (tgt := 35) dd_X4_repeats_7 (by decide) (by omega) (by omega) (fun q2 => ?_) (fun q2 => ?_)
    · skip
      refine sA_iconst (z := 1) dd_X4_repeats_35 ?_
      refine sA_bret (z := 1) dd_X4_repeats_36 rfl (by omega) ?_
      exact ⟨_, rfl, rfl, rfl, by omega⟩
    · skip
      refine sA_aload_n dd_X4_repeats_10 rfl (.tail _ (.head _)) ?_
      refine sA_getr (ci := 4) (j := 0) (q := (RX4, TX4, 2)) dd_X4_repeats_11 rfl (by decide) fl_X4_13 (Nat.lt_of_succ_lt hr.1) hr.2.1 rfl ?_
      refine sA_iload_n dd_X4_repeats_14 rfl (.head _) ?_
      refine sA_iald (n := L) dd_X4_repeats_15 hr.1 hr.2.2.1 (by omega) (Nat.le_trans hr.2.2.2.2.2.2 (by decide)) ?_
      have b3 := gs_row_el hr hI k.toNat
      refine sA_aload_n dd_X4_repeats_16 rfl (.tail _ (.head _)) ?_
      refine sA_getr (ci := 4) (j := 0) (q := (RX4, TX4, 2)) dd_X4_repeats_17 rfl (by decide) fl_X4_13 (Nat.lt_of_succ_lt hr.1) hr.2.1 rfl ?_
      refine sA_iload_n dd_X4_repeats_20 rfl (.head _) ?_
      refine sA_iload_n dd_X4_repeats_21 rfl (.tail _ (.tail _ (.head _))) ?_
      refine sA_isub dd_X4_repeats_22 ?_
      refine sA_iald (n := L) dd_X4_repeats_23 hr.1 hr.2.2.1 (by omega) (Nat.le_trans hr.2.2.2.2.2.2 (by decide)) ?_
      have b4 := gs_row_el hr hI (k - p).toNat
      refine sA_icmp_eq (tgt := 29) dd_X4_repeats_24 (by decide) (by omega) (by omega) (fun q5 => ?_) (fun q5 => ?_)
      · skip
        refine sA_iinc (lv' := [(2, gs_iv (k + 1)), (0, .ref a), (1, gs_iv p)]) dd_X4_repeats_29 (.head _) (by decide) rfl ?_
        refine sA_goto (tgt := 2) dd_X4_repeats_32 (by decide) ?_
        refine sA_sub (lv2 := [(2, gs_iv (k + 1)), (0, .ref a), (1, gs_iv p)]) (List.forall_mem_cons.mpr ⟨(.head _), (List.forall_mem_cons.mpr ⟨(.tail _ (.head _)), (List.forall_mem_cons.mpr ⟨(.tail _ (.tail _ (.head _))), (fun _ h => absurd h List.not_mem_nil)⟩)⟩)⟩) ?_
        exact ih (k + 1)  (by omega) (by omega) (by omega)
      · skip
        refine sA_iconst (z := 0) dd_X4_repeats_27 ?_
        refine sA_bret (z := 0) dd_X4_repeats_28 rfl (by omega) ?_
        exact ⟨_, rfl, rfl, rfl, by omega⟩
theorem c_X4_repeats {a L : Nat} {p : Int} {F A : gs_F} (hI : gs_I F A) (hr : gs_row a L) (hp : 1 ≤ p ∧ p ≤ F a 1) : sC m_X4_repeats 1 [.ref a, gs_iv p] F A (fun r F' A' => ∃ z : Int, r = some (gs_iv z) ∧ F = F' ∧ A = A' ∧ (z = 0 ∨ z = 1)) := by
  refine sC_of ok_X4_repeats.1 (Nat.le_of_ble_eq_true rfl) ?_
  show sA _ _ _ 0 [(0, .ref a), (1, gs_iv p)] [] F A
  have b6 := gs_row_sz hr hI
  refine sA_iload_n dd_X4_repeats_0 rfl (.tail _ (.head _)) ?_
  refine sA_istore_n (lv' := [(2, gs_iv p), (0, .ref a), (1, gs_iv p)]) dd_X4_repeats_1 rfl (by decide) rfl ?_
  refine sA_sub (lv2 := [(2, gs_iv p), (0, .ref a), (1, gs_iv p)]) (List.forall_mem_cons.mpr ⟨(.head _), (List.forall_mem_cons.mpr ⟨(.tail _ (.head _)), (List.forall_mem_cons.mpr ⟨(.tail _ (.tail _ (.head _))), (fun _ h => absurd h List.not_mem_nil)⟩)⟩)⟩) ?_
  exact (k_X4_repeats hI hr hp (F a 1 - p).toNat.succ) p  (by omega) (by omega) (by omega)
theorem dd_X4_isPower_0 : decode cX4_isPower 0 = .ok (.iconst 1, 1) := by decide +kernel
theorem dd_X4_isPower_1 : decode cX4_isPower 1 = .ok (.istore_n 1, 1) := by decide +kernel
theorem dd_X4_isPower_2 : decode cX4_isPower 2 = .ok (.iload_n 1, 1) := by decide +kernel
theorem dd_X4_isPower_3 : decode cX4_isPower 3 = .ok (.aload_n 0, 1) := by decide +kernel
theorem dd_X4_isPower_4 : decode cX4_isPower 4 = .ok (.getfield 19, 3) := by decide +kernel
theorem dd_X4_isPower_7 : decode cX4_isPower 7 = .ok (.iconst 2, 1) := by decide +kernel
theorem dd_X4_isPower_8 : decode cX4_isPower 8 = .ok (.idiv, 1) := by decide +kernel
theorem dd_X4_isPower_9 : decode cX4_isPower 9 = .ok (.if_icmp .gt 28, 3) := by decide +kernel
theorem dd_X4_isPower_12 : decode cX4_isPower 12 = .ok (.aload_n 0, 1) := by decide +kernel
theorem dd_X4_isPower_13 : decode cX4_isPower 13 = .ok (.getfield 19, 3) := by decide +kernel
theorem dd_X4_isPower_16 : decode cX4_isPower 16 = .ok (.iload_n 1, 1) := by decide +kernel
theorem dd_X4_isPower_17 : decode cX4_isPower 17 = .ok (.irem, 1) := by decide +kernel
theorem dd_X4_isPower_18 : decode cX4_isPower 18 = .ok (.ifCond .ne 13, 3) := by decide +kernel
theorem dd_X4_isPower_21 : decode cX4_isPower 21 = .ok (.aload_n 0, 1) := by decide +kernel
theorem dd_X4_isPower_22 : decode cX4_isPower 22 = .ok (.iload_n 1, 1) := by decide +kernel
theorem dd_X4_isPower_23 : decode cX4_isPower 23 = .ok (.invokevirtual 43, 3) := by decide +kernel
theorem dd_X4_isPower_26 : decode cX4_isPower 26 = .ok (.ifCond .eq 5, 3) := by decide +kernel
theorem dd_X4_isPower_29 : decode cX4_isPower 29 = .ok (.iconst 1, 1) := by decide +kernel
theorem dd_X4_isPower_30 : decode cX4_isPower 30 = .ok (.ireturn, 1) := by decide +kernel
theorem dd_X4_isPower_31 : decode cX4_isPower 31 = .ok (.iinc 1 1, 3) := by decide +kernel
theorem dd_X4_isPower_34 : decode cX4_isPower 34 = .ok (.goto (-32), 3) := by decide +kernel
theorem dd_X4_isPower_37 : decode cX4_isPower 37 = .ok (.iconst 0, 1) := by decide +kernel
theorem dd_X4_isPower_38 : decode cX4_isPower 38 = .ok (.ireturn, 1) := by decide +kernel
theorem ml_X4_43 : Cond.methodLink RX4 43 m_X4_repeats.1 ∈ am_tbl := ri_lw_in (pl := 425) (by decide +kernel)
theorem ok_X4_isPower : am_okM m_X4_isPower 0 ∧ Cond.instanceMethod m_X4_isPower.1 ∈ am_tbl ∧ Cond.selects m_X4_isPower.1.cls m_X4_isPower.1 m_X4_isPower.1 ∈ am_tbl := ⟨(ri_all 38).1, (ri_all 38).2.2.1 (by decide +kernel)⟩
theorem k_X4_isPower {a L : Nat} {F A : gs_F} (hI : gs_I F A) (hr : gs_row a L) : ∀ n : Nat, (∀ (k : Int),  1 ≤ k → k ≤ F a 1 + 1 → F a 1 + 1 - k < (n : Int) → sA m_X4_isPower 2 (fun r F' A' => ∃ z : Int, r = some (gs_iv z) ∧ F = F' ∧ A = A' ∧ (z = 0 ∨ z = 1)) 2 [(1, gs_iv k), (0, .ref a)] [] F A) := by
  intro n
  induction n with
  | zero =>
    exact fun a0 i0 i1 hm => by exfalso; omega
  | succ n ih =>
    intro k i0 i1 hm
    have b1 := gs_row_sz hr hI
    refine sA_iload_n dd_X4_isPower_2 rfl (.head _) ?_
    refine sA_aload_n dd_X4_isPower_3 rfl (.tail _ (.head _)) ?_
    refine sA_geti (ci := 4) (j := 1) (q := (RX4, TX4, 2)) dd_X4_isPower_4 rfl (by decide) fl_X4_19 (Nat.lt_of_succ_lt hr.1) hr.2.1 rfl ?_
    refine sA_iconst (z := 2) dd_X4_isPower_7 ?_
    refine sA_idivN dd_X4_isPower_8 (by omega) (by omega) (by omega) ?_
    refine sA_icmp_gt (tgt := 37) dd_X4_isPower_9 (by decide) (by omega) (by omega) (fun q2 => ?_) (fun q2 => ?_)
    · skip
      refine sA_iconst (z := 0) dd_X4_isPower_37 ?_
      refine sA_bret (z := 0) dd_X4_isPower_38 rfl (by omega) ?_
      exact ⟨_, rfl, rfl, rfl, by omega⟩
    · skip
      refine sA_aload_n dd_X4_isPower_12 rfl (.tail _ (.head _)) ?_
      refine sA_geti (ci := 4) (j := 1) (q := (RX4, TX4, 2)) dd_X4_isPower_13 rfl (by decide) fl_X4_19 (Nat.lt_of_succ_lt hr.1) hr.2.1 rfl ?_
      refine sA_iload_n dd_X4_isPower_16 rfl (.head _) ?_
      refine sA_iremN dd_X4_isPower_17 (by omega) (by omega) (by omega) ?_
      refine sA_wrap ?_
      have b4 := gs_w_rng ((F a 1) % k)
      generalize gs_w ((F a 1) % k) = w3 at b4 ⊢
      refine sA_if_ne (tgt := 31) dd_X4_isPower_18 (by decide) (by omega) (fun q5 => ?_) (fun q5 => ?_)
      · skip
        refine sA_iinc (lv' := [(1, gs_iv (k + 1)), (0, .ref a)]) dd_X4_isPower_31 (.head _) (by decide) rfl ?_
        refine sA_goto (tgt := 2) dd_X4_isPower_34 (by decide) ?_
        refine sA_sub (lv2 := [(1, gs_iv (k + 1)), (0, .ref a)]) (List.forall_mem_cons.mpr ⟨(.head _), (List.forall_mem_cons.mpr ⟨(.tail _ (.head _)), (fun _ h => absurd h List.not_mem_nil)⟩)⟩) ?_
        exact ih (k + 1)  (by omega) (by omega) (by omega)
      · skip
        refine sA_aload_n dd_X4_isPower_21 rfl (.tail _ (.head _)) ?_
        refine sA_iload_n dd_X4_isPower_22 rfl (.head _) ?_
        refine sA_callV (y2 := m_X4_repeats) (n2 := 1) (d2 := 1) (a := a) (ci := 4) (q := (RX4, TX4, 2)) (as := [gs_iv k]) (rest := []) dd_X4_isPower_23 ok_X4_repeats ml_X4_43 rfl rfl (Nat.lt_of_succ_lt hr.1) hr.2.1 rfl rfl (Nat.le_of_ble_eq_true rfl) (by decide) (c_X4_repeats hI hr (by omega)) (fun r6 F7 A8 h9 => ?_)
        obtain ⟨z12, e11, e13, e14, x10⟩ := h9
        subst e11 e13 e14
        show sA _ _ _ 26 _ [gs_iv z12] _ _
        refine sA_if_eq (tgt := 31) dd_X4_isPower_26 (by decide) (by omega) (fun q15 => ?_) (fun q15 => ?_)
        · skip
          refine sA_iinc (lv' := [(1, gs_iv (k + 1)), (0, .ref a)]) dd_X4_isPower_31 (.head _) (by decide) rfl ?_
          refine sA_goto (tgt := 2) dd_X4_isPower_34 (by decide) ?_
          refine sA_sub (lv2 := [(1, gs_iv (k + 1)), (0, .ref a)]) (List.forall_mem_cons.mpr ⟨(.head _), (List.forall_mem_cons.mpr ⟨(.tail _ (.head _)), (fun _ h => absurd h List.not_mem_nil)⟩)⟩) ?_
          exact ih (k + 1)  (by omega) (by omega) (by omega)
        · skip
          refine sA_iconst (z := 1) dd_X4_isPower_29 ?_
          refine sA_bret (z := 1) dd_X4_isPower_30 rfl (by omega) ?_
          exact ⟨_, rfl, rfl, rfl, by omega⟩
theorem c_X4_isPower {a L : Nat} {F A : gs_F} (hI : gs_I F A) (hr : gs_row a L) : sC m_X4_isPower 2 [.ref a] F A (fun r F' A' => ∃ z : Int, r = some (gs_iv z) ∧ F = F' ∧ A = A' ∧ (z = 0 ∨ z = 1)) := by
  refine sC_of ok_X4_isPower.1 (Nat.le_of_ble_eq_true rfl) ?_
  show sA _ _ _ 0 [(0, .ref a)] [] F A
  have b16 := gs_row_sz hr hI
  refine sA_iconst (z := 1) dd_X4_isPower_0 ?_
  refine sA_istore_n (lv' := [(1, gs_iv 1), (0, .ref a)]) dd_X4_isPower_1 rfl (by decide) rfl ?_
  refine sA_sub (lv2 := [(1, gs_iv 1), (0, .ref a)]) (List.forall_mem_cons.mpr ⟨(.head _), (List.forall_mem_cons.mpr ⟨(.tail _ (.head _)), (fun _ h => absurd h List.not_mem_nil)⟩)⟩) ?_
  exact (k_X4_isPower hI hr (F a 1 + 1 - 1).toNat.succ) 1  (by omega) (by omega) (by omega)
theorem dd_X4_balanceOf_0 : decode cX4_balanceOf 0 = .ok (.iconst 0, 1) := by decide +kernel
theorem dd_X4_balanceOf_1 : decode cX4_balanceOf 1 = .ok (.istore_n 2, 1) := by decide +kernel
theorem dd_X4_balanceOf_2 : decode cX4_balanceOf 2 = .ok (.iconst 0, 1) := by decide +kernel
theorem dd_X4_balanceOf_3 : decode cX4_balanceOf 3 = .ok (.istore_n 3, 1) := by decide +kernel
theorem dd_X4_balanceOf_4 : decode cX4_balanceOf 4 = .ok (.iload_n 3, 1) := by decide +kernel
theorem dd_X4_balanceOf_5 : decode cX4_balanceOf 5 = .ok (.aload_n 0, 1) := by decide +kernel
theorem dd_X4_balanceOf_6 : decode cX4_balanceOf 6 = .ok (.getfield 19, 3) := by decide +kernel
theorem dd_X4_balanceOf_9 : decode cX4_balanceOf 9 = .ok (.if_icmp .ge 39, 3) := by decide +kernel
theorem dd_X4_balanceOf_12 : decode cX4_balanceOf 12 = .ok (.aload_n 0, 1) := by decide +kernel
theorem dd_X4_balanceOf_13 : decode cX4_balanceOf 13 = .ok (.getfield 13, 3) := by decide +kernel
theorem dd_X4_balanceOf_16 : decode cX4_balanceOf 16 = .ok (.iload_n 3, 1) := by decide +kernel
theorem dd_X4_balanceOf_17 : decode cX4_balanceOf 17 = .ok (.iaload, 1) := by decide +kernel
theorem dd_X4_balanceOf_18 : decode cX4_balanceOf 18 = .ok (.iload_n 1, 1) := by decide +kernel
theorem dd_X4_balanceOf_19 : decode cX4_balanceOf 19 = .ok (.if_icmp .ne 9, 3) := by decide +kernel
theorem dd_X4_balanceOf_22 : decode cX4_balanceOf 22 = .ok (.iinc 2 1, 3) := by decide +kernel
theorem dd_X4_balanceOf_25 : decode cX4_balanceOf 25 = .ok (.goto 17, 3) := by decide +kernel
theorem dd_X4_balanceOf_28 : decode cX4_balanceOf 28 = .ok (.aload_n 0, 1) := by decide +kernel
theorem dd_X4_balanceOf_29 : decode cX4_balanceOf 29 = .ok (.getfield 13, 3) := by decide +kernel
theorem dd_X4_balanceOf_32 : decode cX4_balanceOf 32 = .ok (.iload_n 3, 1) := by decide +kernel
theorem dd_X4_balanceOf_33 : decode cX4_balanceOf 33 = .ok (.iaload, 1) := by decide +kernel
theorem dd_X4_balanceOf_34 : decode cX4_balanceOf 34 = .ok (.iload_n 1, 1) := by decide +kernel
theorem dd_X4_balanceOf_35 : decode cX4_balanceOf 35 = .ok (.ineg, 1) := by decide +kernel
theorem dd_X4_balanceOf_36 : decode cX4_balanceOf 36 = .ok (.if_icmp .ne 6, 3) := by decide +kernel
theorem dd_X4_balanceOf_39 : decode cX4_balanceOf 39 = .ok (.iinc 2 (-1), 3) := by decide +kernel
theorem dd_X4_balanceOf_42 : decode cX4_balanceOf 42 = .ok (.iinc 3 1, 3) := by decide +kernel
theorem dd_X4_balanceOf_45 : decode cX4_balanceOf 45 = .ok (.goto (-41), 3) := by decide +kernel
theorem dd_X4_balanceOf_48 : decode cX4_balanceOf 48 = .ok (.iload_n 2, 1) := by decide +kernel
theorem dd_X4_balanceOf_49 : decode cX4_balanceOf 49 = .ok (.ireturn, 1) := by decide +kernel
theorem ok_X4_balanceOf : am_okM m_X4_balanceOf 1 ∧ Cond.instanceMethod m_X4_balanceOf.1 ∈ am_tbl ∧ Cond.selects m_X4_balanceOf.1.cls m_X4_balanceOf.1 m_X4_balanceOf.1 ∈ am_tbl := ⟨(ri_all 40).1, (ri_all 40).2.2.1 (by decide +kernel)⟩
theorem k_X4_balanceOf {a L : Nat} {x : Int} {F A : gs_F} (hI : gs_I F A) (hr : gs_row a L) (hx : -100 ≤ x ∧ x ≤ 100) : ∀ n : Nat, (∀ (s : Int) (k : Int),  0 ≤ k → k ≤ F a 1 → -k ≤ s → s ≤ k → F a 1 - k < (n : Int) → sA m_X4_balanceOf 1 (fun r F' A' => ∃ z : Int, r = some (gs_iv z) ∧ F = F' ∧ A = A' ∧ (-400 ≤ z ∧ z ≤ 400)) 4 [(3, gs_iv k), (2, gs_iv s), (0, .ref a), (1, gs_iv x)] [] F A) := by
  intro n
  induction n with
  | zero =>
    exact fun a0 a1 i0 i1 i2 i3 hm => by exfalso; omega
  | succ n ih =>
    intro s k i0 i1 i2 i3 hm
    have b1 := gs_row_sz hr hI
    refine sA_iload_n dd_X4_balanceOf_4 rfl (.head _) ?_
    refine sA_aload_n dd_X4_balanceOf_5 rfl (.tail _ (.tail _ (.head _))) ?_
    refine sA_geti (ci := 4) (j := 1) (q := (RX4, TX4, 2)) dd_X4_balanceOf_6 rfl (by decide) fl_X4_19 (Nat.lt_of_succ_lt hr.1) hr.2.1 rfl ?_
    refine sA_icmp_ge (tgt := 48) dd_X4_balanceOf_9 (by decide) (by omega) (by omega) (fun q2 => ?_) (fun q2 => ?_)
    · skip
      refine sA_iload_n dd_X4_balanceOf_48 rfl (.tail _ (.head _)) ?_
      refine sA_iret (z := s) dd_X4_balanceOf_49 rfl ?_
      exact ⟨_, rfl, rfl, rfl, by omega⟩
    · skip
      refine sA_aload_n dd_X4_balanceOf_12 rfl (.tail _ (.tail _ (.head _))) ?_
      refine sA_getr (ci := 4) (j := 0) (q := (RX4, TX4, 2)) dd_X4_balanceOf_13 rfl (by decide) fl_X4_13 (Nat.lt_of_succ_lt hr.1) hr.2.1 rfl ?_
      refine sA_iload_n dd_X4_balanceOf_16 rfl (.head _) ?_
      refine sA_iald (n := L) dd_X4_balanceOf_17 hr.1 hr.2.2.1 (by omega) (Nat.le_trans hr.2.2.2.2.2.2 (by decide)) ?_
      have b3 := gs_row_el hr hI k.toNat
      refine sA_iload_n dd_X4_balanceOf_18 rfl (.tail _ (.tail _ (.tail _ (.head _)))) ?_
      refine sA_icmp_ne (tgt := 28) dd_X4_balanceOf_19 (by decide) (by omega) (by omega) (fun q4 => ?_) (fun q4 => ?_)
      · skip
        refine sA_aload_n dd_X4_balanceOf_28 rfl (.tail _ (.tail _ (.head _))) ?_
        refine sA_getr (ci := 4) (j := 0) (q := (RX4, TX4, 2)) dd_X4_balanceOf_29 rfl (by decide) fl_X4_13 (Nat.lt_of_succ_lt hr.1) hr.2.1 rfl ?_
        refine sA_iload_n dd_X4_balanceOf_32 rfl (.head _) ?_
        refine sA_iald (n := L) dd_X4_balanceOf_33 hr.1 hr.2.2.1 (by omega) (Nat.le_trans hr.2.2.2.2.2.2 (by decide)) ?_
        refine sA_iload_n dd_X4_balanceOf_34 rfl (.tail _ (.tail _ (.tail _ (.head _)))) ?_
        refine sA_ineg dd_X4_balanceOf_35 ?_
        refine sA_icmp_ne (tgt := 42) dd_X4_balanceOf_36 (by decide) (by omega) (by omega) (fun q5 => ?_) (fun q5 => ?_)
        · skip
          refine sA_iinc (lv' := [(3, gs_iv (k + 1)), (2, gs_iv s), (0, .ref a), (1, gs_iv x)]) dd_X4_balanceOf_42 (.head _) (by decide) rfl ?_
          refine sA_goto (tgt := 4) dd_X4_balanceOf_45 (by decide) ?_
          refine sA_sub (lv2 := [(3, gs_iv (k + 1)), (2, gs_iv s), (0, .ref a), (1, gs_iv x)]) (List.forall_mem_cons.mpr ⟨(.head _), (List.forall_mem_cons.mpr ⟨(.tail _ (.head _)), (List.forall_mem_cons.mpr ⟨(.tail _ (.tail _ (.head _))), (List.forall_mem_cons.mpr ⟨(.tail _ (.tail _ (.tail _ (.head _)))), (fun _ h => absurd h List.not_mem_nil)⟩)⟩)⟩)⟩) ?_
          exact ih s (k + 1)  (by omega) (by omega) (by omega) (by omega) (by omega)
        · skip
          refine sA_iinc (lv' := [(2, gs_iv (s + (-1))), (3, gs_iv k), (0, .ref a), (1, gs_iv x)]) dd_X4_balanceOf_39 (.tail _ (.head _)) (by decide) rfl ?_
          refine sA_iinc (lv' := [(3, gs_iv (k + 1)), (2, gs_iv (s + (-1))), (0, .ref a), (1, gs_iv x)]) dd_X4_balanceOf_42 (.tail _ (.head _)) (by decide) rfl ?_
          refine sA_goto (tgt := 4) dd_X4_balanceOf_45 (by decide) ?_
          refine sA_sub (lv2 := [(3, gs_iv (k + 1)), (2, gs_iv (s + (-1))), (0, .ref a), (1, gs_iv x)]) (List.forall_mem_cons.mpr ⟨(.head _), (List.forall_mem_cons.mpr ⟨(.tail _ (.head _)), (List.forall_mem_cons.mpr ⟨(.tail _ (.tail _ (.head _))), (List.forall_mem_cons.mpr ⟨(.tail _ (.tail _ (.tail _ (.head _)))), (fun _ h => absurd h List.not_mem_nil)⟩)⟩)⟩)⟩) ?_
          exact ih (s + (-1)) (k + 1)  (by omega) (by omega) (by omega) (by omega) (by omega)
      · skip
        refine sA_iinc (lv' := [(2, gs_iv (s + 1)), (3, gs_iv k), (0, .ref a), (1, gs_iv x)]) dd_X4_balanceOf_22 (.tail _ (.head _)) (by decide) rfl ?_
        refine sA_goto (tgt := 42) dd_X4_balanceOf_25 (by decide) ?_
        refine sA_iinc (lv' := [(3, gs_iv (k + 1)), (2, gs_iv (s + 1)), (0, .ref a), (1, gs_iv x)]) dd_X4_balanceOf_42 (.tail _ (.head _)) (by decide) rfl ?_
        refine sA_goto (tgt := 4) dd_X4_balanceOf_45 (by decide) ?_
        refine sA_sub (lv2 := [(3, gs_iv (k + 1)), (2, gs_iv (s + 1)), (0, .ref a), (1, gs_iv x)]) (List.forall_mem_cons.mpr ⟨(.head _), (List.forall_mem_cons.mpr ⟨(.tail _ (.head _)), (List.forall_mem_cons.mpr ⟨(.tail _ (.tail _ (.head _))), (List.forall_mem_cons.mpr ⟨(.tail _ (.tail _ (.tail _ (.head _)))), (fun _ h => absurd h List.not_mem_nil)⟩)⟩)⟩)⟩) ?_
        exact ih (s + 1) (k + 1)  (by omega) (by omega) (by omega) (by omega) (by omega)
theorem c_X4_balanceOf {a L : Nat} {x : Int} {F A : gs_F} (hI : gs_I F A) (hr : gs_row a L) (hx : -100 ≤ x ∧ x ≤ 100) : sC m_X4_balanceOf 1 [.ref a, gs_iv x] F A (fun r F' A' => ∃ z : Int, r = some (gs_iv z) ∧ F = F' ∧ A = A' ∧ (-400 ≤ z ∧ z ≤ 400)) := by
  refine sC_of ok_X4_balanceOf.1 (Nat.le_of_ble_eq_true rfl) ?_
  show sA _ _ _ 0 [(0, .ref a), (1, gs_iv x)] [] F A
  have b6 := gs_row_sz hr hI
  refine sA_iconst (z := 0) dd_X4_balanceOf_0 ?_
  refine sA_istore_n (lv' := [(2, gs_iv 0), (0, .ref a), (1, gs_iv x)]) dd_X4_balanceOf_1 rfl (by decide) rfl ?_
  refine sA_iconst (z := 0) dd_X4_balanceOf_2 ?_
  refine sA_istore_n (lv' := [(3, gs_iv 0), (2, gs_iv 0), (0, .ref a), (1, gs_iv x)]) dd_X4_balanceOf_3 rfl (by decide) rfl ?_
  refine sA_sub (lv2 := [(3, gs_iv 0), (2, gs_iv 0), (0, .ref a), (1, gs_iv x)]) (List.forall_mem_cons.mpr ⟨(.head _), (List.forall_mem_cons.mpr ⟨(.tail _ (.head _)), (List.forall_mem_cons.mpr ⟨(.tail _ (.tail _ (.head _))), (List.forall_mem_cons.mpr ⟨(.tail _ (.tail _ (.tail _ (.head _)))), (fun _ h => absurd h List.not_mem_nil)⟩)⟩)⟩)⟩) ?_
  exact (k_X4_balanceOf hI hr hx (F a 1 - 0).toNat.succ) 0 0  (by omega) (by omega) (by omega) (by omega) (by omega)
theorem dd_X2_add_0 : decode cX2_add 0 = .ok (.aload_n 0, 1) := by decide +kernel
theorem dd_X2_add_1 : decode cX2_add 1 = .ok (.getfield 15, 3) := by decide +kernel
theorem dd_X2_add_4 : decode cX2_add 4 = .ok (.aload_n 0, 1) := by decide +kernel
theorem dd_X2_add_5 : decode cX2_add 5 = .ok (.getfield 9, 3) := by decide +kernel
theorem dd_X2_add_8 : decode cX2_add 8 = .ok (.arraylength, 1) := by decide +kernel
theorem dd_X2_add_9 : decode cX2_add 9 = .ok (.if_icmp .ge 23, 3) := by decide +kernel
theorem dd_X2_add_12 : decode cX2_add 12 = .ok (.aload_n 0, 1) := by decide +kernel
theorem dd_X2_add_13 : decode cX2_add 13 = .ok (.getfield 9, 3) := by decide +kernel
theorem dd_X2_add_16 : decode cX2_add 16 = .ok (.aload_n 0, 1) := by decide +kernel
theorem dd_X2_add_17 : decode cX2_add 17 = .ok (.getfield 15, 3) := by decide +kernel
theorem dd_X2_add_20 : decode cX2_add 20 = .ok (.iload_n 1, 1) := by decide +kernel
theorem dd_X2_add_21 : decode cX2_add 21 = .ok (.iastore, 1) := by decide +kernel
theorem dd_X2_add_22 : decode cX2_add 22 = .ok (.aload_n 0, 1) := by decide +kernel
theorem dd_X2_add_23 : decode cX2_add 23 = .ok (.dup, 1) := by decide +kernel
theorem dd_X2_add_24 : decode cX2_add 24 = .ok (.getfield 15, 3) := by decide +kernel
theorem dd_X2_add_27 : decode cX2_add 27 = .ok (.iconst 1, 1) := by decide +kernel
theorem dd_X2_add_28 : decode cX2_add 28 = .ok (.iadd, 1) := by decide +kernel
theorem dd_X2_add_29 : decode cX2_add 29 = .ok (.putfield 15, 3) := by decide +kernel
theorem dd_X2_add_32 : decode cX2_add 32 = .ok (.return_, 1) := by decide +kernel
theorem fl_X2_15 : Cond.fieldLink RX2 15 (TX2 1).1 (TX2 1).2.1 (TX2 1).2.2.1 ∈ am_tbl := ri_lw_in (pl := 237) (by decide +kernel)
theorem fl_X2_9 : Cond.fieldLink RX2 9 (TX2 0).1 (TX2 0).2.1 (TX2 0).2.2.1 ∈ am_tbl := ri_lw_in (pl := 233) (by decide +kernel)
theorem ok_X2_add : am_okM m_X2_add 1 ∧ Cond.instanceMethod m_X2_add.1 ∈ am_tbl ∧ Cond.selects m_X2_add.1.cls m_X2_add.1 m_X2_add.1 ∈ am_tbl := ⟨(ri_all 18).1, (ri_all 18).2.2.1 (by decide +kernel)⟩
theorem c_X2_add {a : Nat} {x : Int} {F A : gs_F} (hI : gs_I F A) (hr : gs_plan a) (hx : -2147483648 ≤ x ∧ x ≤ 2147483647) : sC m_X2_add 1 [.ref a, gs_iv x] F A (fun r F' A' => r = none ∧ gs_I F' A' ∧ gs_fr (fun c j => c = a ∧ j = 1) (fun c => c = a + 1) F A F' A' ∧ (F' a 1 ≤ F a 1 + 1 ∧ F a 1 ≤ F' a 1)) := by
  refine sC_of ok_X2_add.1 (Nat.le_of_ble_eq_true rfl) ?_
  show sA _ _ _ 0 [(0, .ref a), (1, gs_iv x)] [] F A
  have hf : gs_fr (fun c j => c = a ∧ j = 1) (fun c => c = a + 1) F A F A := gs_fr_refl _ _ _ _
  have b1 := gs_plan_sz hr hI
  refine sA_aload_n dd_X2_add_0 rfl (.head _) ?_
  refine sA_geti (ci := 2) (j := 1) (q := (RX2, TX2, 2)) dd_X2_add_1 rfl (by decide) fl_X2_15 (Nat.lt_of_succ_lt hr.1) hr.2.1 rfl ?_
  refine sA_aload_n dd_X2_add_4 rfl (.head _) ?_
  refine sA_getr (ci := 2) (j := 0) (q := (RX2, TX2, 2)) dd_X2_add_5 rfl (by decide) fl_X2_9 (Nat.lt_of_succ_lt hr.1) hr.2.1 rfl ?_
  refine sA_alen (n := 60) dd_X2_add_8 hr.1 hr.2.2.1 ?_
  refine sA_icmp_ge (tgt := 32) dd_X2_add_9 (by decide) (by omega) (by omega) (fun q2 => ?_) (fun q2 => ?_)
  · skip
    refine sA_vret dd_X2_add_32 rfl ?_
    exact ⟨rfl, hI, hf, by omega⟩
  · skip
    refine sA_aload_n dd_X2_add_12 rfl (.head _) ?_
    refine sA_getr (ci := 2) (j := 0) (q := (RX2, TX2, 2)) dd_X2_add_13 rfl (by decide) fl_X2_9 (Nat.lt_of_succ_lt hr.1) hr.2.1 rfl ?_
    refine sA_aload_n dd_X2_add_16 rfl (.head _) ?_
    refine sA_geti (ci := 2) (j := 1) (q := (RX2, TX2, 2)) dd_X2_add_17 rfl (by decide) fl_X2_15 (Nat.lt_of_succ_lt hr.1) hr.2.1 rfl ?_
    refine sA_iload_n dd_X2_add_20 rfl (.tail _ (.head _)) ?_
    refine sA_iast (n := 60) dd_X2_add_21 hr.1 hr.2.2.1 (by omega) (by decide) ?_
    have I4 : gs_I F (gs_up A (a + 1) ((F a 1).toNat) x) := gs_plan_ast hr hI (by omega)
    have f5 := gs_fr_ast hf (a := a + 1) (z := x) (i := (F a 1).toNat) (by first | omega | (dsimp only; omega) | (dsimp only))
    generalize gs_up A (a + 1) ((F a 1).toNat) x = A3 at I4 f5 ⊢
    refine sA_aload_n dd_X2_add_22 rfl (.head _) ?_
    refine sA_dup dd_X2_add_23 rfl ?_
    refine sA_geti (ci := 2) (j := 1) (q := (RX2, TX2, 2)) dd_X2_add_24 rfl (by decide) fl_X2_15 (Nat.lt_of_succ_lt hr.1) hr.2.1 rfl ?_
    refine sA_iconst (z := 1) dd_X2_add_27 ?_
    refine sA_iadd dd_X2_add_28 ?_
    refine sA_put (ci := 2) (j := 1) (q := (RX2, TX2, 2)) (ty := .int) dd_X2_add_29 rfl (by decide) fl_X2_15 rfl (tyX2_ok 1 (by decide)) rfl rfl (Nat.lt_of_succ_lt hr.1) hr.2.1 rfl ?_
    have I7 : gs_I (gs_up F a 1 ((F a 1) + 1)) A3 := gs_plan_put hr I4 (by omega)
    have f8 := gs_fr_put f5 (a := a) (z := (F a 1) + 1) (j := 1) (by first | omega | (dsimp only; omega) | (dsimp only))
    have v9 : gs_up F a 1 ((F a 1) + 1) a 1 = (F a 1) + 1 := gs_up_self _ _ _ _
    generalize gs_up F a 1 ((F a 1) + 1) = F6 at I7 f8 v9 ⊢
    refine sA_vret dd_X2_add_32 rfl ?_
    exact ⟨rfl, I7, f8, by omega⟩
theorem dd_X2_addAll_0 : decode cX2_addAll 0 = .ok (.iconst 0, 1) := by decide +kernel
theorem dd_X2_addAll_1 : decode cX2_addAll 1 = .ok (.istore_n 2, 1) := by decide +kernel
theorem dd_X2_addAll_2 : decode cX2_addAll 2 = .ok (.iload_n 2, 1) := by decide +kernel
theorem dd_X2_addAll_3 : decode cX2_addAll 3 = .ok (.aload_n 1, 1) := by decide +kernel
theorem dd_X2_addAll_4 : decode cX2_addAll 4 = .ok (.getfield 15, 3) := by decide +kernel
theorem dd_X2_addAll_7 : decode cX2_addAll 7 = .ok (.if_icmp .ge 19, 3) := by decide +kernel
theorem dd_X2_addAll_10 : decode cX2_addAll 10 = .ok (.aload_n 0, 1) := by decide +kernel
theorem dd_X2_addAll_11 : decode cX2_addAll 11 = .ok (.aload_n 1, 1) := by decide +kernel
theorem dd_X2_addAll_12 : decode cX2_addAll 12 = .ok (.getfield 9, 3) := by decide +kernel
theorem dd_X2_addAll_15 : decode cX2_addAll 15 = .ok (.iload_n 2, 1) := by decide +kernel
theorem dd_X2_addAll_16 : decode cX2_addAll 16 = .ok (.iaload, 1) := by decide +kernel
theorem dd_X2_addAll_17 : decode cX2_addAll 17 = .ok (.invokevirtual 19, 3) := by decide +kernel
theorem dd_X2_addAll_20 : decode cX2_addAll 20 = .ok (.iinc 2 1, 3) := by decide +kernel
theorem dd_X2_addAll_23 : decode cX2_addAll 23 = .ok (.goto (-21), 3) := by decide +kernel
theorem dd_X2_addAll_26 : decode cX2_addAll 26 = .ok (.return_, 1) := by decide +kernel
theorem ml_X2_19 : Cond.methodLink RX2 19 m_X2_add.1 ∈ am_tbl := ri_lw_in (pl := 575) (by decide +kernel)
theorem ok_X2_addAll : am_okM m_X2_addAll 1 ∧ Cond.instanceMethod m_X2_addAll.1 ∈ am_tbl ∧ Cond.selects m_X2_addAll.1.cls m_X2_addAll.1 m_X2_addAll.1 ∈ am_tbl := ⟨(ri_all 19).1, (ri_all 19).2.2.1 (by decide +kernel)⟩
theorem k_X2_addAll {a b : Nat} {F A : gs_F} (hI : gs_I F A) (hr : gs_plan a) (ho : gs_plan b) (hab : a ≠ b) : ∀ n : Nat, (∀ (k : Int)  (F1 A1 : gs_F), gs_I F1 A1 → gs_fr (fun c j => c = a ∧ j = 1) (fun c => c = a + 1) F A F1 A1 → 0 ≤ k → k ≤ F1 b 1 → F1 b 1 - k < (n : Int) → sA m_X2_addAll 2 (fun r F' A' => r = none ∧ gs_I F' A' ∧ gs_fr (fun c j => c = a ∧ j = 1) (fun c => c = a + 1) F A F' A' ∧ (True)) 2 [(2, gs_iv k), (0, .ref a), (1, .ref b)] [] F1 A1) := by
  intro n
  induction n with
  | zero =>
    exact fun a0 a1 a2 a3 a4 i0 i1 hm => by exfalso; omega
  | succ n ih =>
    intro k F1 A1 hI1 hf1 i0 i1 hm
    have b1 := gs_plan_sz hr hI1
    have b2 := gs_plan_sz ho hI1
    refine sA_iload_n dd_X2_addAll_2 rfl (.head _) ?_
    refine sA_aload_n dd_X2_addAll_3 rfl (.tail _ (.tail _ (.head _))) ?_
    refine sA_geti (ci := 2) (j := 1) (q := (RX2, TX2, 2)) dd_X2_addAll_4 rfl (by decide) fl_X2_15 (Nat.lt_of_succ_lt ho.1) ho.2.1 rfl ?_
    refine sA_icmp_ge (tgt := 26) dd_X2_addAll_7 (by decide) (by omega) (by omega) (fun q3 => ?_) (fun q3 => ?_)
    · skip
      refine sA_vret dd_X2_addAll_26 rfl ?_
      exact ⟨rfl, hI1, hf1, trivial⟩
    · skip
      refine sA_aload_n dd_X2_addAll_10 rfl (.tail _ (.head _)) ?_
      refine sA_aload_n dd_X2_addAll_11 rfl (.tail _ (.tail _ (.head _))) ?_
      refine sA_getr (ci := 2) (j := 0) (q := (RX2, TX2, 2)) dd_X2_addAll_12 rfl (by decide) fl_X2_9 (Nat.lt_of_succ_lt ho.1) ho.2.1 rfl ?_
      refine sA_iload_n dd_X2_addAll_15 rfl (.head _) ?_
      refine sA_iald (n := 60) dd_X2_addAll_16 ho.1 ho.2.2.1 (by omega) (by decide) ?_
      have b4 := gs_plan_el ho hI1 k.toNat
      refine sA_callV (y2 := m_X2_add) (n2 := 1) (d2 := 1) (a := a) (ci := 2) (q := (RX2, TX2, 2)) (as := [gs_iv (A1 (b + 1) k.toNat)]) (rest := []) dd_X2_addAll_17 ok_X2_add ml_X2_19 rfl rfl (Nat.lt_of_succ_lt hr.1) hr.2.1 rfl rfl (Nat.le_of_ble_eq_true rfl) (by decide) (c_X2_add hI1 hr (by omega)) (fun r5 F6 A7 h8 => ?_)
      obtain ⟨e10, I11, f12, x9⟩ := h8
      subst e10
      have v13 : F6 b 1 = F1 b 1 := f12.1 b 1 (by first | exact id | omega | (dsimp only; omega) | (dsimp only))
      have f14 := gs_fr_tr hf1 f12 (fun b j h => by first | exact False.elim h | omega | (dsimp only at h ⊢; omega)) (fun b h => by first | exact False.elim h | omega | (dsimp only at h ⊢; omega))
      show sA _ _ _ 20 _ [] _ _
      refine sA_iinc (lv' := [(2, gs_iv (k + 1)), (0, .ref a), (1, .ref b)]) dd_X2_addAll_20 (.head _) (by decide) rfl ?_
      refine sA_goto (tgt := 2) dd_X2_addAll_23 (by decide) ?_
      have b15 := gs_plan_sz hr I11
      have b16 := gs_plan_sz ho I11
      refine sA_sub (lv2 := [(2, gs_iv (k + 1)), (0, .ref a), (1, .ref b)]) (List.forall_mem_cons.mpr ⟨(.head _), (List.forall_mem_cons.mpr ⟨(.tail _ (.head _)), (List.forall_mem_cons.mpr ⟨(.tail _ (.tail _ (.head _))), (fun _ h => absurd h List.not_mem_nil)⟩)⟩)⟩) ?_
      exact ih (k + 1) F6 A7 I11 f14 (by omega) (by omega) (by omega)
theorem c_X2_addAll {a b : Nat} {F A : gs_F} (hI : gs_I F A) (hr : gs_plan a) (ho : gs_plan b) (hab : a ≠ b) : sC m_X2_addAll 2 [.ref a, .ref b] F A (fun r F' A' => r = none ∧ gs_I F' A' ∧ gs_fr (fun c j => c = a ∧ j = 1) (fun c => c = a + 1) F A F' A' ∧ (True)) := by
  refine sC_of ok_X2_addAll.1 (Nat.le_of_ble_eq_true rfl) ?_
  show sA _ _ _ 0 [(0, .ref a), (1, .ref b)] [] F A
  have hf : gs_fr (fun c j => c = a ∧ j = 1) (fun c => c = a + 1) F A F A := gs_fr_refl _ _ _ _
  have b17 := gs_plan_sz hr hI
  have b18 := gs_plan_sz ho hI
  refine sA_iconst (z := 0) dd_X2_addAll_0 ?_
  refine sA_istore_n (lv' := [(2, gs_iv 0), (0, .ref a), (1, .ref b)]) dd_X2_addAll_1 rfl (by decide) rfl ?_
  refine sA_sub (lv2 := [(2, gs_iv 0), (0, .ref a), (1, .ref b)]) (List.forall_mem_cons.mpr ⟨(.head _), (List.forall_mem_cons.mpr ⟨(.tail _ (.head _)), (List.forall_mem_cons.mpr ⟨(.tail _ (.tail _ (.head _))), (fun _ h => absurd h List.not_mem_nil)⟩)⟩)⟩) ?_
  exact (k_X2_addAll hI hr ho hab (F b 1 - 0).toNat.succ) 0 F A hI hf (by omega) (by omega) (by omega)
theorem dd_X2_copy_0 : decode cX2_copy 0 = .ok (.aload_n 0, 1) := by decide +kernel
theorem dd_X2_copy_1 : decode cX2_copy 1 = .ok (.aload_n 1, 1) := by decide +kernel
theorem dd_X2_copy_2 : decode cX2_copy 2 = .ok (.getfield 15, 3) := by decide +kernel
theorem dd_X2_copy_5 : decode cX2_copy 5 = .ok (.putfield 15, 3) := by decide +kernel
theorem dd_X2_copy_8 : decode cX2_copy 8 = .ok (.aload_n 1, 1) := by decide +kernel
theorem dd_X2_copy_9 : decode cX2_copy 9 = .ok (.getfield 9, 3) := by decide +kernel
theorem dd_X2_copy_12 : decode cX2_copy 12 = .ok (.iconst 0, 1) := by decide +kernel
theorem dd_X2_copy_13 : decode cX2_copy 13 = .ok (.aload_n 0, 1) := by decide +kernel
theorem dd_X2_copy_14 : decode cX2_copy 14 = .ok (.getfield 9, 3) := by decide +kernel
theorem dd_X2_copy_17 : decode cX2_copy 17 = .ok (.iconst 0, 1) := by decide +kernel
theorem dd_X2_copy_18 : decode cX2_copy 18 = .ok (.aload_n 0, 1) := by decide +kernel
theorem dd_X2_copy_19 : decode cX2_copy 19 = .ok (.getfield 15, 3) := by decide +kernel
theorem dd_X2_copy_22 : decode cX2_copy 22 = .ok (.invokestatic 23, 3) := by decide +kernel
theorem dd_X2_copy_25 : decode cX2_copy 25 = .ok (.return_, 1) := by decide +kernel
theorem ok_X2_copy : am_okM m_X2_copy 1 ∧ Cond.instanceMethod m_X2_copy.1 ∈ am_tbl ∧ Cond.selects m_X2_copy.1.cls m_X2_copy.1 m_X2_copy.1 ∈ am_tbl := ⟨(ri_all 20).1, (ri_all 20).2.2.1 (by decide +kernel)⟩
theorem c_X2_copy {a b : Nat} {F A : gs_F} (hI : gs_I F A) (hr : gs_plan a) (ho : gs_plan b) : sC m_X2_copy 1 [.ref a, .ref b] F A (fun r F' A' => r = none ∧ gs_I F' A' ∧ gs_fr (fun c j => c = a ∧ j = 1) (fun c => c = a + 1) F A F' A' ∧ (F' a 1 = F b 1)) := by
  refine sC_of ok_X2_copy.1 (Nat.le_of_ble_eq_true rfl) ?_
  show sA _ _ _ 0 [(0, .ref a), (1, .ref b)] [] F A
  have hf : gs_fr (fun c j => c = a ∧ j = 1) (fun c => c = a + 1) F A F A := gs_fr_refl _ _ _ _
  have b1 := gs_plan_sz hr hI
  have b2 := gs_plan_sz ho hI
  refine sA_aload_n dd_X2_copy_0 rfl (.head _) ?_
  refine sA_aload_n dd_X2_copy_1 rfl (.tail _ (.head _)) ?_
  refine sA_geti (ci := 2) (j := 1) (q := (RX2, TX2, 2)) dd_X2_copy_2 rfl (by decide) fl_X2_15 (Nat.lt_of_succ_lt ho.1) ho.2.1 rfl ?_
  refine sA_put (ci := 2) (j := 1) (q := (RX2, TX2, 2)) (ty := .int) dd_X2_copy_5 rfl (by decide) fl_X2_15 rfl (tyX2_ok 1 (by decide)) rfl rfl (Nat.lt_of_succ_lt hr.1) hr.2.1 rfl ?_
  have I4 : gs_I (gs_up F a 1 (F b 1)) A := gs_plan_put hr hI (by omega)
  have f5 := gs_fr_put hf (a := a) (z := F b 1) (j := 1) (by first | omega | (dsimp only; omega) | (dsimp only))
  have v6 : gs_up F a 1 (F b 1) a 1 = F b 1 := gs_up_self _ _ _ _
  generalize gs_up F a 1 (F b 1) = F3 at I4 f5 v6 ⊢
  refine sA_aload_n dd_X2_copy_8 rfl (.tail _ (.head _)) ?_
  refine sA_getr (ci := 2) (j := 0) (q := (RX2, TX2, 2)) dd_X2_copy_9 rfl (by decide) fl_X2_9 (Nat.lt_of_succ_lt ho.1) ho.2.1 rfl ?_
  refine sA_iconst (z := 0) dd_X2_copy_12 ?_
  refine sA_aload_n dd_X2_copy_13 rfl (.head _) ?_
  refine sA_getr (ci := 2) (j := 0) (q := (RX2, TX2, 2)) dd_X2_copy_14 rfl (by decide) fl_X2_9 (Nat.lt_of_succ_lt hr.1) hr.2.1 rfl ?_
  refine sA_iconst (z := 0) dd_X2_copy_17 ?_
  refine sA_aload_n dd_X2_copy_18 rfl (.head _) ?_
  refine sA_geti (ci := 2) (j := 1) (q := (RX2, TX2, 2)) dd_X2_copy_19 rfl (by decide) fl_X2_15 (Nat.lt_of_succ_lt hr.1) hr.2.1 rfl ?_
  have b7 := gs_plan_sz hr I4
  refine sA_copy (n1 := 60) (n2 := 60) dd_X2_copy_22 (ri_lw_in (pl := 554) (by decide +kernel)) gs_copyok ho.1 ho.2.2.1 hr.1 hr.2.2.1 (by omega) (by omega) (by omega) (by omega) (by omega) (by decide) (by decide) (by decide) (Nat.le_of_ble_eq_true rfl) ?_
  have I9 : gs_I F3 (gs_cp A (b + 1) (a + 1) (0 : Int).toNat (0 : Int).toNat (F3 a 1).toNat) := gs_I_cp I4 (b := (a + 1)) (a := (b + 1)) (p := ((-2147483648), 2147483647)) (q := ((-2147483648), 2147483647)) hr.2.2.2.2 ho.2.2.2.2 (by decide)
  have f10 := gs_fr_cp f5 (a := (b + 1)) (b := (a + 1)) (sp := (0 : Int).toNat) (dp := (0 : Int).toNat) (n := (F3 a 1).toNat) (by first | omega | (dsimp only; omega) | (dsimp only))
  generalize gs_cp A (b + 1) (a + 1) (0 : Int).toNat (0 : Int).toNat (F3 a 1).toNat = A8 at I9 f10 ⊢
  refine sA_vret dd_X2_copy_25 rfl ?_
  exact ⟨rfl, I9, f10, by omega⟩
theorem dd_X2_becomeReversed_0 : decode cX2_becomeReversed 0 = .ok (.aload_n 0, 1) := by decide +kernel
theorem dd_X2_becomeReversed_1 : decode cX2_becomeReversed 1 = .ok (.iconst 0, 1) := by decide +kernel
theorem dd_X2_becomeReversed_2 : decode cX2_becomeReversed 2 = .ok (.putfield 15, 3) := by decide +kernel
theorem dd_X2_becomeReversed_5 : decode cX2_becomeReversed 5 = .ok (.aload_n 1, 1) := by decide +kernel
theorem dd_X2_becomeReversed_6 : decode cX2_becomeReversed 6 = .ok (.getfield 15, 3) := by decide +kernel
theorem dd_X2_becomeReversed_9 : decode cX2_becomeReversed 9 = .ok (.iconst 1, 1) := by decide +kernel
theorem dd_X2_becomeReversed_10 : decode cX2_becomeReversed 10 = .ok (.isub, 1) := by decide +kernel
theorem dd_X2_becomeReversed_11 : decode cX2_becomeReversed 11 = .ok (.istore_n 2, 1) := by decide +kernel
theorem dd_X2_becomeReversed_12 : decode cX2_becomeReversed 12 = .ok (.iload_n 2, 1) := by decide +kernel
theorem dd_X2_becomeReversed_13 : decode cX2_becomeReversed 13 = .ok (.ifCond .lt 21, 3) := by decide +kernel
theorem dd_X2_becomeReversed_16 : decode cX2_becomeReversed 16 = .ok (.aload_n 0, 1) := by decide +kernel
theorem dd_X2_becomeReversed_17 : decode cX2_becomeReversed 17 = .ok (.aload_n 1, 1) := by decide +kernel
theorem dd_X2_becomeReversed_18 : decode cX2_becomeReversed 18 = .ok (.getfield 9, 3) := by decide +kernel
theorem dd_X2_becomeReversed_21 : decode cX2_becomeReversed 21 = .ok (.iload_n 2, 1) := by decide +kernel
theorem dd_X2_becomeReversed_22 : decode cX2_becomeReversed 22 = .ok (.iaload, 1) := by decide +kernel
theorem dd_X2_becomeReversed_23 : decode cX2_becomeReversed 23 = .ok (.iconst 1, 1) := by decide +kernel
theorem dd_X2_becomeReversed_24 : decode cX2_becomeReversed 24 = .ok (.ixor, 1) := by decide +kernel
theorem dd_X2_becomeReversed_25 : decode cX2_becomeReversed 25 = .ok (.invokevirtual 19, 3) := by decide +kernel
theorem dd_X2_becomeReversed_28 : decode cX2_becomeReversed 28 = .ok (.iinc 2 (-1), 3) := by decide +kernel
theorem dd_X2_becomeReversed_31 : decode cX2_becomeReversed 31 = .ok (.goto (-19), 3) := by decide +kernel
theorem dd_X2_becomeReversed_34 : decode cX2_becomeReversed 34 = .ok (.return_, 1) := by decide +kernel
theorem ok_X2_becomeReversed : am_okM m_X2_becomeReversed 1 ∧ Cond.instanceMethod m_X2_becomeReversed.1 ∈ am_tbl ∧ Cond.selects m_X2_becomeReversed.1.cls m_X2_becomeReversed.1 m_X2_becomeReversed.1 ∈ am_tbl := ⟨(ri_all 21).1, (ri_all 21).2.2.1 (by decide +kernel)⟩
theorem k_X2_becomeReversed {a b : Nat} {F A : gs_F} (hI : gs_I F A) (hr : gs_plan a) (ho : gs_plan b) (hab : a ≠ b) : ∀ n : Nat, (∀ (k : Int)  (F1 A1 : gs_F), gs_I F1 A1 → gs_fr (fun c j => c = a ∧ j = 1) (fun c => c = a + 1) F A F1 A1 → -1 ≤ k → k < F1 b 1 → k + 1 < (n : Int) → sA m_X2_becomeReversed 2 (fun r F' A' => r = none ∧ gs_I F' A' ∧ gs_fr (fun c j => c = a ∧ j = 1) (fun c => c = a + 1) F A F' A' ∧ (True)) 12 [(2, gs_iv k), (0, .ref a), (1, .ref b)] [] F1 A1) := by
  intro n
  induction n with
  | zero =>
    exact fun a0 a1 a2 a3 a4 i0 i1 hm => by exfalso; omega
  | succ n ih =>
    intro k F1 A1 hI1 hf1 i0 i1 hm
    have b1 := gs_plan_sz hr hI1
    have b2 := gs_plan_sz ho hI1
    refine sA_iload_n dd_X2_becomeReversed_12 rfl (.head _) ?_
    refine sA_if_lt (tgt := 34) dd_X2_becomeReversed_13 (by decide) (by omega) (fun q3 => ?_) (fun q3 => ?_)
    · skip
      refine sA_vret dd_X2_becomeReversed_34 rfl ?_
      exact ⟨rfl, hI1, hf1, trivial⟩
    · skip
      refine sA_aload_n dd_X2_becomeReversed_16 rfl (.tail _ (.head _)) ?_
      refine sA_aload_n dd_X2_becomeReversed_17 rfl (.tail _ (.tail _ (.head _))) ?_
      refine sA_getr (ci := 2) (j := 0) (q := (RX2, TX2, 2)) dd_X2_becomeReversed_18 rfl (by decide) fl_X2_9 (Nat.lt_of_succ_lt ho.1) ho.2.1 rfl ?_
      refine sA_iload_n dd_X2_becomeReversed_21 rfl (.head _) ?_
      refine sA_iald (n := 60) dd_X2_becomeReversed_22 ho.1 ho.2.2.1 (by omega) (by decide) ?_
      have b4 := gs_plan_el ho hI1 k.toNat
      refine sA_iconst (z := 1) dd_X2_becomeReversed_23 ?_
      refine sA_ixor dd_X2_becomeReversed_24 ?_
      have b5 := gs_t_rng (Int32.ofInt (A1 (b + 1) k.toNat) ^^^ Int32.ofInt 1)
      generalize gs_t (Int32.ofInt (A1 (b + 1) k.toNat) ^^^ Int32.ofInt 1) = w6 at b5 ⊢
      refine sA_callV (y2 := m_X2_add) (n2 := 1) (d2 := 1) (a := a) (ci := 2) (q := (RX2, TX2, 2)) (as := [gs_iv w6]) (rest := []) dd_X2_becomeReversed_25 ok_X2_add ml_X2_19 rfl rfl (Nat.lt_of_succ_lt hr.1) hr.2.1 rfl rfl (Nat.le_of_ble_eq_true rfl) (by decide) (c_X2_add hI1 hr (by omega)) (fun r7 F8 A9 h10 => ?_)
      obtain ⟨e12, I13, f14, x11⟩ := h10
      subst e12
      have v15 : F8 b 1 = F1 b 1 := f14.1 b 1 (by first | exact id | omega | (dsimp only; omega) | (dsimp only))
      have f16 := gs_fr_tr hf1 f14 (fun b j h => by first | exact False.elim h | omega | (dsimp only at h ⊢; omega)) (fun b h => by first | exact False.elim h | omega | (dsimp only at h ⊢; omega))
      show sA _ _ _ 28 _ [] _ _
      refine sA_iinc (lv' := [(2, gs_iv (k + (-1))), (0, .ref a), (1, .ref b)]) dd_X2_becomeReversed_28 (.head _) (by decide) rfl ?_
      refine sA_goto (tgt := 12) dd_X2_becomeReversed_31 (by decide) ?_
      have b17 := gs_plan_sz hr I13
      have b18 := gs_plan_sz ho I13
      refine sA_sub (lv2 := [(2, gs_iv (k + (-1))), (0, .ref a), (1, .ref b)]) (List.forall_mem_cons.mpr ⟨(.head _), (List.forall_mem_cons.mpr ⟨(.tail _ (.head _)), (List.forall_mem_cons.mpr ⟨(.tail _ (.tail _ (.head _))), (fun _ h => absurd h List.not_mem_nil)⟩)⟩)⟩) ?_
      exact ih (k + (-1)) F8 A9 I13 f16 (by omega) (by omega) (by omega)
theorem c_X2_becomeReversed {a b : Nat} {F A : gs_F} (hI : gs_I F A) (hr : gs_plan a) (ho : gs_plan b) (hab : a ≠ b) : sC m_X2_becomeReversed 2 [.ref a, .ref b] F A (fun r F' A' => r = none ∧ gs_I F' A' ∧ gs_fr (fun c j => c = a ∧ j = 1) (fun c => c = a + 1) F A F' A' ∧ (True)) := by
  refine sC_of ok_X2_becomeReversed.1 (Nat.le_of_ble_eq_true rfl) ?_
  show sA _ _ _ 0 [(0, .ref a), (1, .ref b)] [] F A
  have hf : gs_fr (fun c j => c = a ∧ j = 1) (fun c => c = a + 1) F A F A := gs_fr_refl _ _ _ _
  have b19 := gs_plan_sz hr hI
  have b20 := gs_plan_sz ho hI
  refine sA_aload_n dd_X2_becomeReversed_0 rfl (.head _) ?_
  refine sA_iconst (z := 0) dd_X2_becomeReversed_1 ?_
  refine sA_put (ci := 2) (j := 1) (q := (RX2, TX2, 2)) (ty := .int) dd_X2_becomeReversed_2 rfl (by decide) fl_X2_15 rfl (tyX2_ok 1 (by decide)) rfl rfl (Nat.lt_of_succ_lt hr.1) hr.2.1 rfl ?_
  have I22 : gs_I (gs_up F a 1 0) A := gs_plan_put hr hI (by omega)
  have f23 := gs_fr_put hf (a := a) (z := 0) (j := 1) (by first | omega | (dsimp only; omega) | (dsimp only))
  have v24 : gs_up F a 1 0 a 1 = 0 := gs_up_self _ _ _ _
  have v25 : (gs_up F a 1 0) b 1 = F b 1 := gs_up_ne _ _ (by omega)
  generalize gs_up F a 1 0 = F21 at I22 f23 v24 v25 ⊢
  refine sA_aload_n dd_X2_becomeReversed_5 rfl (.tail _ (.head _)) ?_
  refine sA_geti (ci := 2) (j := 1) (q := (RX2, TX2, 2)) dd_X2_becomeReversed_6 rfl (by decide) fl_X2_15 (Nat.lt_of_succ_lt ho.1) ho.2.1 rfl ?_
  have b26 := gs_plan_sz ho I22
  refine sA_iconst (z := 1) dd_X2_becomeReversed_9 ?_
  refine sA_isub dd_X2_becomeReversed_10 ?_
  refine sA_istore_n (lv' := [(2, gs_iv ((F21 b 1) - 1)), (0, .ref a), (1, .ref b)]) dd_X2_becomeReversed_11 rfl (by decide) rfl ?_
  have b27 := gs_plan_sz hr I22
  refine sA_sub (lv2 := [(2, gs_iv ((F21 b 1) - 1)), (0, .ref a), (1, .ref b)]) (List.forall_mem_cons.mpr ⟨(.head _), (List.forall_mem_cons.mpr ⟨(.tail _ (.head _)), (List.forall_mem_cons.mpr ⟨(.tail _ (.tail _ (.head _))), (fun _ h => absurd h List.not_mem_nil)⟩)⟩)⟩) ?_
  exact (k_X2_becomeReversed hI hr ho hab (((F21 b 1) - 1) + 1).toNat.succ) ((F21 b 1) - 1) F21 A I22 f23 (by omega) (by omega) (by omega)
theorem dd_X2_codeOrSize_0 : decode cX2_codeOrSize 0 = .ok (.iload_n 1, 1) := by decide +kernel
theorem dd_X2_codeOrSize_1 : decode cX2_codeOrSize 1 = .ok (.iconst (-1), 1) := by decide +kernel
theorem dd_X2_codeOrSize_2 : decode cX2_codeOrSize 2 = .ok (.if_icmp .ne 8, 3) := by decide +kernel
theorem dd_X2_codeOrSize_5 : decode cX2_codeOrSize 5 = .ok (.aload_n 0, 1) := by decide +kernel
theorem dd_X2_codeOrSize_6 : decode cX2_codeOrSize 6 = .ok (.getfield 15, 3) := by decide +kernel
theorem dd_X2_codeOrSize_9 : decode cX2_codeOrSize 9 = .ok (.ireturn, 1) := by decide +kernel
theorem dd_X2_codeOrSize_10 : decode cX2_codeOrSize 10 = .ok (.iload_n 1, 1) := by decide +kernel
theorem dd_X2_codeOrSize_11 : decode cX2_codeOrSize 11 = .ok (.ifCond .lt 20, 3) := by decide +kernel
theorem dd_X2_codeOrSize_14 : decode cX2_codeOrSize 14 = .ok (.iload_n 1, 1) := by decide +kernel
theorem dd_X2_codeOrSize_15 : decode cX2_codeOrSize 15 = .ok (.aload_n 0, 1) := by decide +kernel
theorem dd_X2_codeOrSize_16 : decode cX2_codeOrSize 16 = .ok (.getfield 15, 3) := by decide +kernel
theorem dd_X2_codeOrSize_19 : decode cX2_codeOrSize 19 = .ok (.if_icmp .ge 12, 3) := by decide +kernel
theorem dd_X2_codeOrSize_22 : decode cX2_codeOrSize 22 = .ok (.aload_n 0, 1) := by decide +kernel
theorem dd_X2_codeOrSize_23 : decode cX2_codeOrSize 23 = .ok (.getfield 9, 3) := by decide +kernel
theorem dd_X2_codeOrSize_26 : decode cX2_codeOrSize 26 = .ok (.iload_n 1, 1) := by decide +kernel
theorem dd_X2_codeOrSize_27 : decode cX2_codeOrSize 27 = .ok (.iaload, 1) := by decide +kernel
theorem dd_X2_codeOrSize_28 : decode cX2_codeOrSize 28 = .ok (.goto 4, 3) := by decide +kernel
theorem dd_X2_codeOrSize_31 : decode cX2_codeOrSize 31 = .ok (.iconst (-1), 1) := by decide +kernel
theorem dd_X2_codeOrSize_32 : decode cX2_codeOrSize 32 = .ok (.ireturn, 1) := by decide +kernel
theorem ok_X2_codeOrSize : am_okM m_X2_codeOrSize 1 ∧ Cond.instanceMethod m_X2_codeOrSize.1 ∈ am_tbl ∧ Cond.selects m_X2_codeOrSize.1.cls m_X2_codeOrSize.1 m_X2_codeOrSize.1 ∈ am_tbl := ⟨(ri_all 22).1, (ri_all 22).2.2.1 (by decide +kernel)⟩
theorem c_X2_codeOrSize {a : Nat} {i : Int} {F A : gs_F} (hI : gs_I F A) (hr : gs_plan a) (hi : -2147483648 ≤ i ∧ i ≤ 2147483647) : sC m_X2_codeOrSize 1 [.ref a, gs_iv i] F A (fun r F' A' => ∃ z : Int, r = some (gs_iv z) ∧ F = F' ∧ A = A' ∧ (-2147483648 ≤ z ∧ z ≤ 2147483647)) := by
  refine sC_of ok_X2_codeOrSize.1 (Nat.le_of_ble_eq_true rfl) ?_
  show sA _ _ _ 0 [(0, .ref a), (1, gs_iv i)] [] F A
  have b1 := gs_plan_sz hr hI
  refine sA_iload_n dd_X2_codeOrSize_0 rfl (.tail _ (.head _)) ?_
  refine sA_iconst (z := (-1)) dd_X2_codeOrSize_1 ?_
  refine sA_icmp_ne (tgt := 10) dd_X2_codeOrSize_2 (by decide) (by omega) (by omega) (fun q2 => ?_) (fun q2 => ?_)
  · skip
    refine sA_iload_n dd_X2_codeOrSize_10 rfl (.tail _ (.head _)) ?_
    refine sA_if_lt (tgt := 31) dd_X2_codeOrSize_11 (by decide) (by omega) (fun q3 => ?_) (fun q3 => ?_)
    · skip
      refine sA_iconst (z := (-1)) dd_X2_codeOrSize_31 ?_
      refine sA_iret (z := -1) dd_X2_codeOrSize_32 rfl ?_
      exact ⟨_, rfl, rfl, rfl, by omega⟩
    · skip
      refine sA_iload_n dd_X2_codeOrSize_14 rfl (.tail _ (.head _)) ?_
      refine sA_aload_n dd_X2_codeOrSize_15 rfl (.head _) ?_
      refine sA_geti (ci := 2) (j := 1) (q := (RX2, TX2, 2)) dd_X2_codeOrSize_16 rfl (by decide) fl_X2_15 (Nat.lt_of_succ_lt hr.1) hr.2.1 rfl ?_
      refine sA_icmp_ge (tgt := 31) dd_X2_codeOrSize_19 (by decide) (by omega) (by omega) (fun q4 => ?_) (fun q4 => ?_)
      · skip
        refine sA_iconst (z := (-1)) dd_X2_codeOrSize_31 ?_
        refine sA_iret (z := -1) dd_X2_codeOrSize_32 rfl ?_
        exact ⟨_, rfl, rfl, rfl, by omega⟩
      · skip
        refine sA_aload_n dd_X2_codeOrSize_22 rfl (.head _) ?_
        refine sA_getr (ci := 2) (j := 0) (q := (RX2, TX2, 2)) dd_X2_codeOrSize_23 rfl (by decide) fl_X2_9 (Nat.lt_of_succ_lt hr.1) hr.2.1 rfl ?_
        refine sA_iload_n dd_X2_codeOrSize_26 rfl (.tail _ (.head _)) ?_
        refine sA_iald (n := 60) dd_X2_codeOrSize_27 hr.1 hr.2.2.1 (by omega) (by decide) ?_
        have b5 := gs_plan_el hr hI i.toNat
        refine sA_goto (tgt := 32) dd_X2_codeOrSize_28 (by decide) ?_
        refine sA_iret (z := A (a + 1) i.toNat) dd_X2_codeOrSize_32 rfl ?_
        exact ⟨_, rfl, rfl, rfl, by omega⟩
  · skip
    refine sA_aload_n dd_X2_codeOrSize_5 rfl (.head _) ?_
    refine sA_geti (ci := 2) (j := 1) (q := (RX2, TX2, 2)) dd_X2_codeOrSize_6 rfl (by decide) fl_X2_15 (Nat.lt_of_succ_lt hr.1) hr.2.1 rfl ?_
    refine sA_iret (z := F a 1) dd_X2_codeOrSize_9 rfl ?_
    exact ⟨_, rfl, rfl, rfl, by omega⟩
end
end
