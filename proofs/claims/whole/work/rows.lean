section
-- ===== PART A: goes FIRST, ahead of the names: the tables' words, and 'selects' of the private methods out of them =====
/-- a private method of a class that the tables say can be made, by its rows of tables_1 -/
def lw_okq (q : MethodName × Nat) : Prop := (q.1.cls ≠ "java/lang/invoke/MethodHandle" ∧ q.1.cls ≠ "java/lang/invoke/VarHandle") ∧ Cond.instantiable q.1.cls q.2 ∈ tables_1 ∧ Cond.privateMethod q.1 ∈ tables_1 ∧ Cond.instanceMethod q.1 ∈ tables_1
theorem lw_p0 : lw_okq (⟨"BalloonTown$Tape", "advance", "()V"⟩, 6) := ⟨⟨by decide +kernel, by decide +kernel⟩, List.mem_of_getElem? (i := 82) (by decide +kernel), List.mem_of_getElem? (i := 271) (by decide +kernel), List.mem_of_getElem? (i := 272) (by decide +kernel)⟩
theorem lw_p1 : lw_okq (⟨"BalloonTown$Tape", "sortAt", "(I)I"⟩, 6) := ⟨⟨by decide +kernel, by decide +kernel⟩, List.mem_of_getElem? (i := 82) (by decide +kernel), List.mem_of_getElem? (i := 275) (by decide +kernel), List.mem_of_getElem? (i := 276) (by decide +kernel)⟩
theorem lw_p2 : lw_okq (⟨"BalloonTown$Tape", "kindHere", "()I"⟩, 6) := ⟨⟨by decide +kernel, by decide +kernel⟩, List.mem_of_getElem? (i := 82) (by decide +kernel), List.mem_of_getElem? (i := 282) (by decide +kernel), List.mem_of_getElem? (i := 283) (by decide +kernel)⟩
theorem lw_p3 : lw_okq (⟨"BalloonTown$Tape", "isName", "(Ljava/lang/String;)Z"⟩, 6) := ⟨⟨by decide +kernel, by decide +kernel⟩, List.mem_of_getElem? (i := 82) (by decide +kernel), List.mem_of_getElem? (i := 295) (by decide +kernel), List.mem_of_getElem? (i := 296) (by decide +kernel)⟩
theorem lw_p4 : lw_okq (⟨"BalloonTown$Tape", "readBalloon", "(LBalloonTown$Town;I)V"⟩, 6) := ⟨⟨by decide +kernel, by decide +kernel⟩, List.mem_of_getElem? (i := 82) (by decide +kernel), List.mem_of_getElem? (i := 347) (by decide +kernel), List.mem_of_getElem? (i := 348) (by decide +kernel)⟩
theorem lw_p5 : lw_okq (⟨"BalloonTown$Tape", "fail", "()V"⟩, 6) := ⟨⟨by decide +kernel, by decide +kernel⟩, List.mem_of_getElem? (i := 82) (by decide +kernel), List.mem_of_getElem? (i := 351) (by decide +kernel), List.mem_of_getElem? (i := 352) (by decide +kernel)⟩
theorem lw_p6 : lw_okq (⟨"BalloonTown$Tape", "number", "(II)I"⟩, 6) := ⟨⟨by decide +kernel, by decide +kernel⟩, List.mem_of_getElem? (i := 82) (by decide +kernel), List.mem_of_getElem? (i := 359) (by decide +kernel), List.mem_of_getElem? (i := 360) (by decide +kernel)⟩
theorem lw_p7 : lw_okq (⟨"BalloonTown$Tape", "passName", "(Ljava/lang/String;)V"⟩, 6) := ⟨⟨by decide +kernel, by decide +kernel⟩, List.mem_of_getElem? (i := 82) (by decide +kernel), List.mem_of_getElem? (i := 365) (by decide +kernel), List.mem_of_getElem? (i := 366) (by decide +kernel)⟩
theorem lw_p8 : lw_okq (⟨"BalloonTown$Tape", "readPart", "(Ljava/lang/String;[II)V"⟩, 6) := ⟨⟨by decide +kernel, by decide +kernel⟩, List.mem_of_getElem? (i := 82) (by decide +kernel), List.mem_of_getElem? (i := 383) (by decide +kernel), List.mem_of_getElem? (i := 384) (by decide +kernel)⟩
theorem lw_p9 : lw_okq (⟨"BalloonTown$Tape", "readWarmth", "(LBalloonTown$Town;II)V"⟩, 6) := ⟨⟨by decide +kernel, by decide +kernel⟩, List.mem_of_getElem? (i := 82) (by decide +kernel), List.mem_of_getElem? (i := 392) (by decide +kernel), List.mem_of_getElem? (i := 393) (by decide +kernel)⟩
theorem lw_p10 : lw_okq (⟨"BalloonTown$Tape", "passSign", "(C)V"⟩, 6) := ⟨⟨by decide +kernel, by decide +kernel⟩, List.mem_of_getElem? (i := 82) (by decide +kernel), List.mem_of_getElem? (i := 398) (by decide +kernel), List.mem_of_getElem? (i := 399) (by decide +kernel)⟩
theorem lw_p11 : lw_okq (⟨"BalloonTown$Town", "inReach", "(II)I"⟩, 6) := ⟨⟨by decide +kernel, by decide +kernel⟩, List.mem_of_getElem? (i := 26) (by decide +kernel), List.mem_of_getElem? (i := 509) (by decide +kernel), List.mem_of_getElem? (i := 510) (by decide +kernel)⟩
theorem lw_p12 : lw_okq (⟨"BalloonTown$Trial", "followWith", "(III)V"⟩, 6) := ⟨⟨by decide +kernel, by decide +kernel⟩, List.mem_of_getElem? (i := 109) (by decide +kernel), List.mem_of_getElem? (i := 570) (by decide +kernel), List.mem_of_getElem? (i := 571) (by decide +kernel)⟩
theorem lw_p13 : lw_okq (⟨"BalloonTown$Trial", "note", "(II)V"⟩, 6) := ⟨⟨by decide +kernel, by decide +kernel⟩, List.mem_of_getElem? (i := 109) (by decide +kernel), List.mem_of_getElem? (i := 575) (by decide +kernel), List.mem_of_getElem? (i := 576) (by decide +kernel)⟩
theorem lw_p14 : lw_okq (⟨"BalloonTown$Trial", "step", "(I)V"⟩, 6) := ⟨⟨by decide +kernel, by decide +kernel⟩, List.mem_of_getElem? (i := 109) (by decide +kernel), List.mem_of_getElem? (i := 579) (by decide +kernel), List.mem_of_getElem? (i := 580) (by decide +kernel)⟩
theorem lw_p15 : lw_okq (⟨"BalloonTown$Trial", "near", "(III)Z"⟩, 6) := ⟨⟨by decide +kernel, by decide +kernel⟩, List.mem_of_getElem? (i := 109) (by decide +kernel), List.mem_of_getElem? (i := 593) (by decide +kernel), List.mem_of_getElem? (i := 594) (by decide +kernel)⟩
def lw_privs_1 : List (MethodName × Nat) := [(⟨"BalloonTown$Tape", "advance", "()V"⟩, 6), (⟨"BalloonTown$Tape", "sortAt", "(I)I"⟩, 6), (⟨"BalloonTown$Tape", "kindHere", "()I"⟩, 6), (⟨"BalloonTown$Tape", "isName", "(Ljava/lang/String;)Z"⟩, 6), (⟨"BalloonTown$Tape", "readBalloon", "(LBalloonTown$Town;I)V"⟩, 6), (⟨"BalloonTown$Tape", "fail", "()V"⟩, 6), (⟨"BalloonTown$Tape", "number", "(II)I"⟩, 6), (⟨"BalloonTown$Tape", "passName", "(Ljava/lang/String;)V"⟩, 6), (⟨"BalloonTown$Tape", "readPart", "(Ljava/lang/String;[II)V"⟩, 6), (⟨"BalloonTown$Tape", "readWarmth", "(LBalloonTown$Town;II)V"⟩, 6), (⟨"BalloonTown$Tape", "passSign", "(C)V"⟩, 6), (⟨"BalloonTown$Town", "inReach", "(II)I"⟩, 6), (⟨"BalloonTown$Trial", "followWith", "(III)V"⟩, 6), (⟨"BalloonTown$Trial", "note", "(II)V"⟩, 6), (⟨"BalloonTown$Trial", "step", "(I)V"⟩, 6), (⟨"BalloonTown$Trial", "near", "(III)Z"⟩, 6)]
theorem lw_r1 : ∀ q ∈ lw_privs_1, lw_okq q := List.forall_mem_cons.mpr ⟨lw_p0, List.forall_mem_cons.mpr ⟨lw_p1, List.forall_mem_cons.mpr ⟨lw_p2, List.forall_mem_cons.mpr ⟨lw_p3, List.forall_mem_cons.mpr ⟨lw_p4, List.forall_mem_cons.mpr ⟨lw_p5, List.forall_mem_cons.mpr ⟨lw_p6, List.forall_mem_cons.mpr ⟨lw_p7, List.forall_mem_cons.mpr ⟨lw_p8, List.forall_mem_cons.mpr ⟨lw_p9, List.forall_mem_cons.mpr ⟨lw_p10, List.forall_mem_cons.mpr ⟨lw_p11, List.forall_mem_cons.mpr ⟨lw_p12, List.forall_mem_cons.mpr ⟨lw_p13, List.forall_mem_cons.mpr ⟨lw_p14, List.forall_mem_cons.mpr ⟨lw_p15, fun _ h => absurd h List.not_mem_nil⟩⟩⟩⟩⟩⟩⟩⟩⟩⟩⟩⟩⟩⟩⟩⟩
theorem lw_p16 : lw_okq (⟨"BalloonTown$Trial", "touchedIn", "(III)I"⟩, 6) := ⟨⟨by decide +kernel, by decide +kernel⟩, List.mem_of_getElem? (i := 109) (by decide +kernel), List.mem_of_getElem? (i := 606) (by decide +kernel), List.mem_of_getElem? (i := 607) (by decide +kernel)⟩
theorem lw_p17 : lw_okq (⟨"BalloonTown$Trial", "pairsToCome", "()I"⟩, 6) := ⟨⟨by decide +kernel, by decide +kernel⟩, List.mem_of_getElem? (i := 109) (by decide +kernel), List.mem_of_getElem? (i := 643) (by decide +kernel), List.mem_of_getElem? (i := 644) (by decide +kernel)⟩
theorem lw_p18 : lw_okq (⟨"BalloonTown", "isRowPart", "(II)Z"⟩, 11) := ⟨⟨by decide +kernel, by decide +kernel⟩, List.mem_of_getElem? (i := 18) (by decide +kernel), List.mem_of_getElem? (i := 681) (by decide +kernel), List.mem_of_getElem? (i := 682) (by decide +kernel)⟩
theorem lw_p19 : lw_okq (⟨"BalloonTown", "isRowRight", "(II)Z"⟩, 11) := ⟨⟨by decide +kernel, by decide +kernel⟩, List.mem_of_getElem? (i := 18) (by decide +kernel), List.mem_of_getElem? (i := 693) (by decide +kernel), List.mem_of_getElem? (i := 694) (by decide +kernel)⟩
theorem lw_p20 : lw_okq (⟨"BalloonTown", "holdsBalloon", "(LBalloonTown$Shelf;)Z"⟩, 11) := ⟨⟨by decide +kernel, by decide +kernel⟩, List.mem_of_getElem? (i := 18) (by decide +kernel), List.mem_of_getElem? (i := 744) (by decide +kernel), List.mem_of_getElem? (i := 745) (by decide +kernel)⟩
theorem lw_p21 : lw_okq (⟨"BalloonTown$Acts", "lifts", "(I)I"⟩, 6) := ⟨⟨by decide +kernel, by decide +kernel⟩, List.mem_of_getElem? (i := 145) (by decide +kernel), List.mem_of_getElem? (i := 765) (by decide +kernel), List.mem_of_getElem? (i := 766) (by decide +kernel)⟩
theorem lw_p22 : lw_okq (⟨"BalloonTown$Acts", "begin", "(I)V"⟩, 6) := ⟨⟨by decide +kernel, by decide +kernel⟩, List.mem_of_getElem? (i := 145) (by decide +kernel), List.mem_of_getElem? (i := 769) (by decide +kernel), List.mem_of_getElem? (i := 770) (by decide +kernel)⟩
theorem lw_p23 : lw_okq (⟨"BalloonTown$Acts", "sinks", "(I)I"⟩, 6) := ⟨⟨by decide +kernel, by decide +kernel⟩, List.mem_of_getElem? (i := 145) (by decide +kernel), List.mem_of_getElem? (i := 773) (by decide +kernel), List.mem_of_getElem? (i := 774) (by decide +kernel)⟩
theorem lw_p24 : lw_okq (⟨"BalloonTown$Acts", "shares", "(I)I"⟩, 6) := ⟨⟨by decide +kernel, by decide +kernel⟩, List.mem_of_getElem? (i := 145) (by decide +kernel), List.mem_of_getElem? (i := 777) (by decide +kernel), List.mem_of_getElem? (i := 778) (by decide +kernel)⟩
theorem lw_p25 : lw_okq (⟨"BalloonTown$Acts", "parted", "(I)I"⟩, 6) := ⟨⟨by decide +kernel, by decide +kernel⟩, List.mem_of_getElem? (i := 145) (by decide +kernel), List.mem_of_getElem? (i := 781) (by decide +kernel), List.mem_of_getElem? (i := 782) (by decide +kernel)⟩
theorem lw_p26 : lw_okq (⟨"BalloonTown$Acts", "tells", "(I)I"⟩, 6) := ⟨⟨by decide +kernel, by decide +kernel⟩, List.mem_of_getElem? (i := 145) (by decide +kernel), List.mem_of_getElem? (i := 785) (by decide +kernel), List.mem_of_getElem? (i := 786) (by decide +kernel)⟩
theorem lw_p27 : lw_okq (⟨"BalloonTownModel", "advance", "()V"⟩, 43) := ⟨⟨by decide +kernel, by decide +kernel⟩, List.mem_of_getElem? (i := 816) (by decide +kernel), List.mem_of_getElem? (i := 965) (by decide +kernel), List.mem_of_getElem? (i := 966) (by decide +kernel)⟩
theorem lw_p28 : lw_okq (⟨"BalloonTownModel", "byteAt", "(I)I"⟩, 43) := ⟨⟨by decide +kernel, by decide +kernel⟩, List.mem_of_getElem? (i := 816) (by decide +kernel), List.mem_of_getElem? (i := 969) (by decide +kernel), List.mem_of_getElem? (i := 970) (by decide +kernel)⟩
theorem lw_p29 : lw_okq (⟨"BalloonTownModel", "wantClause", "()V"⟩, 43) := ⟨⟨by decide +kernel, by decide +kernel⟩, List.mem_of_getElem? (i := 816) (by decide +kernel), List.mem_of_getElem? (i := 982) (by decide +kernel), List.mem_of_getElem? (i := 983) (by decide +kernel)⟩
theorem lw_p30 : lw_okq (⟨"BalloonTownModel", "kindHere", "()I"⟩, 43) := ⟨⟨by decide +kernel, by decide +kernel⟩, List.mem_of_getElem? (i := 816) (by decide +kernel), List.mem_of_getElem? (i := 986) (by decide +kernel), List.mem_of_getElem? (i := 987) (by decide +kernel)⟩
theorem lw_p31 : lw_okq (⟨"BalloonTownModel", "isWord", "(J)Z"⟩, 43) := ⟨⟨by decide +kernel, by decide +kernel⟩, List.mem_of_getElem? (i := 816) (by decide +kernel), List.mem_of_getElem? (i := 991) (by decide +kernel), List.mem_of_getElem? (i := 992) (by decide +kernel)⟩
def lw_privs_2 : List (MethodName × Nat) := [(⟨"BalloonTown$Trial", "touchedIn", "(III)I"⟩, 6), (⟨"BalloonTown$Trial", "pairsToCome", "()I"⟩, 6), (⟨"BalloonTown", "isRowPart", "(II)Z"⟩, 11), (⟨"BalloonTown", "isRowRight", "(II)Z"⟩, 11), (⟨"BalloonTown", "holdsBalloon", "(LBalloonTown$Shelf;)Z"⟩, 11), (⟨"BalloonTown$Acts", "lifts", "(I)I"⟩, 6), (⟨"BalloonTown$Acts", "begin", "(I)V"⟩, 6), (⟨"BalloonTown$Acts", "sinks", "(I)I"⟩, 6), (⟨"BalloonTown$Acts", "shares", "(I)I"⟩, 6), (⟨"BalloonTown$Acts", "parted", "(I)I"⟩, 6), (⟨"BalloonTown$Acts", "tells", "(I)I"⟩, 6), (⟨"BalloonTownModel", "advance", "()V"⟩, 43), (⟨"BalloonTownModel", "byteAt", "(I)I"⟩, 43), (⟨"BalloonTownModel", "wantClause", "()V"⟩, 43), (⟨"BalloonTownModel", "kindHere", "()I"⟩, 43), (⟨"BalloonTownModel", "isWord", "(J)Z"⟩, 43)]
theorem lw_r2 : ∀ q ∈ lw_privs_2, lw_okq q := List.forall_mem_cons.mpr ⟨lw_p16, List.forall_mem_cons.mpr ⟨lw_p17, List.forall_mem_cons.mpr ⟨lw_p18, List.forall_mem_cons.mpr ⟨lw_p19, List.forall_mem_cons.mpr ⟨lw_p20, List.forall_mem_cons.mpr ⟨lw_p21, List.forall_mem_cons.mpr ⟨lw_p22, List.forall_mem_cons.mpr ⟨lw_p23, List.forall_mem_cons.mpr ⟨lw_p24, List.forall_mem_cons.mpr ⟨lw_p25, List.forall_mem_cons.mpr ⟨lw_p26, List.forall_mem_cons.mpr ⟨lw_p27, List.forall_mem_cons.mpr ⟨lw_p28, List.forall_mem_cons.mpr ⟨lw_p29, List.forall_mem_cons.mpr ⟨lw_p30, List.forall_mem_cons.mpr ⟨lw_p31, fun _ h => absurd h List.not_mem_nil⟩⟩⟩⟩⟩⟩⟩⟩⟩⟩⟩⟩⟩⟩⟩⟩
theorem lw_p32 : lw_okq (⟨"BalloonTownModel", "wantBalloon", "(I)V"⟩, 43) := ⟨⟨by decide +kernel, by decide +kernel⟩, List.mem_of_getElem? (i := 816) (by decide +kernel), List.mem_of_getElem? (i := 1000) (by decide +kernel), List.mem_of_getElem? (i := 1001) (by decide +kernel)⟩
theorem lw_p33 : lw_okq (⟨"BalloonTownModel", "wantNumber", "(II)I"⟩, 43) := ⟨⟨by decide +kernel, by decide +kernel⟩, List.mem_of_getElem? (i := 816) (by decide +kernel), List.mem_of_getElem? (i := 1004) (by decide +kernel), List.mem_of_getElem? (i := 1005) (by decide +kernel)⟩
theorem lw_p34 : lw_okq (⟨"BalloonTownModel", "mayWant", "(JIII)I"⟩, 43) := ⟨⟨by decide +kernel, by decide +kernel⟩, List.mem_of_getElem? (i := 816) (by decide +kernel), List.mem_of_getElem? (i := 1010) (by decide +kernel), List.mem_of_getElem? (i := 1011) (by decide +kernel)⟩
theorem lw_p35 : lw_okq (⟨"BalloonTownModel", "wantEnd", "()V"⟩, 43) := ⟨⟨by decide +kernel, by decide +kernel⟩, List.mem_of_getElem? (i := 816) (by decide +kernel), List.mem_of_getElem? (i := 1018) (by decide +kernel), List.mem_of_getElem? (i := 1019) (by decide +kernel)⟩
theorem lw_p36 : lw_okq (⟨"BalloonTownModel", "isMark", "(I)Z"⟩, 43) := ⟨⟨by decide +kernel, by decide +kernel⟩, List.mem_of_getElem? (i := 816) (by decide +kernel), List.mem_of_getElem? (i := 1022) (by decide +kernel), List.mem_of_getElem? (i := 1023) (by decide +kernel)⟩
theorem lw_p37 : lw_okq (⟨"BalloonTownModel", "wantWarmth", "(Z)V"⟩, 43) := ⟨⟨by decide +kernel, by decide +kernel⟩, List.mem_of_getElem? (i := 816) (by decide +kernel), List.mem_of_getElem? (i := 1028) (by decide +kernel), List.mem_of_getElem? (i := 1029) (by decide +kernel)⟩
theorem lw_p38 : lw_okq (⟨"BalloonTownModel", "sets", "(III)V"⟩, 43) := ⟨⟨by decide +kernel, by decide +kernel⟩, List.mem_of_getElem? (i := 816) (by decide +kernel), List.mem_of_getElem? (i := 1058) (by decide +kernel), List.mem_of_getElem? (i := 1059) (by decide +kernel)⟩
theorem lw_p39 : lw_okq (⟨"BalloonTownModel", "isBalloon", "(I)Z"⟩, 43) := ⟨⟨by decide +kernel, by decide +kernel⟩, List.mem_of_getElem? (i := 816) (by decide +kernel), List.mem_of_getElem? (i := 1066) (by decide +kernel), List.mem_of_getElem? (i := 1067) (by decide +kernel)⟩
theorem lw_p40 : lw_okq (⟨"BalloonTownModel", "weight", "(I)I"⟩, 43) := ⟨⟨by decide +kernel, by decide +kernel⟩, List.mem_of_getElem? (i := 816) (by decide +kernel), List.mem_of_getElem? (i := 1070) (by decide +kernel), List.mem_of_getElem? (i := 1071) (by decide +kernel)⟩
theorem lw_p41 : lw_okq (⟨"BalloonTownModel", "its", "(II)I"⟩, 43) := ⟨⟨by decide +kernel, by decide +kernel⟩, List.mem_of_getElem? (i := 816) (by decide +kernel), List.mem_of_getElem? (i := 1074) (by decide +kernel), List.mem_of_getElem? (i := 1075) (by decide +kernel)⟩
theorem lw_p42 : lw_okq (⟨"BalloonTownModel", "target", "(I)I"⟩, 43) := ⟨⟨by decide +kernel, by decide +kernel⟩, List.mem_of_getElem? (i := 816) (by decide +kernel), List.mem_of_getElem? (i := 1078) (by decide +kernel), List.mem_of_getElem? (i := 1079) (by decide +kernel)⟩
theorem lw_p43 : lw_okq (⟨"BalloonTownModel", "lift", "(I)I"⟩, 43) := ⟨⟨by decide +kernel, by decide +kernel⟩, List.mem_of_getElem? (i := 816) (by decide +kernel), List.mem_of_getElem? (i := 1082) (by decide +kernel), List.mem_of_getElem? (i := 1083) (by decide +kernel)⟩
theorem lw_p44 : lw_okq (⟨"BalloonTownModel", "hourNow", "()I"⟩, 43) := ⟨⟨by decide +kernel, by decide +kernel⟩, List.mem_of_getElem? (i := 816) (by decide +kernel), List.mem_of_getElem? (i := 1086) (by decide +kernel), List.mem_of_getElem? (i := 1087) (by decide +kernel)⟩
theorem lw_p45 : lw_okq (⟨"BalloonTownModel", "leaks", "(I)I"⟩, 43) := ⟨⟨by decide +kernel, by decide +kernel⟩, List.mem_of_getElem? (i := 816) (by decide +kernel), List.mem_of_getElem? (i := 1090) (by decide +kernel), List.mem_of_getElem? (i := 1091) (by decide +kernel)⟩
theorem lw_p46 : lw_okq (⟨"BalloonTownModel", "nextTo", "(IZ)I"⟩, 43) := ⟨⟨by decide +kernel, by decide +kernel⟩, List.mem_of_getElem? (i := 816) (by decide +kernel), List.mem_of_getElem? (i := 1113) (by decide +kernel), List.mem_of_getElem? (i := 1114) (by decide +kernel)⟩
theorem lw_p47 : lw_okq (⟨"BalloonTownModel", "isOver", "(II)Z"⟩, 43) := ⟨⟨by decide +kernel, by decide +kernel⟩, List.mem_of_getElem? (i := 816) (by decide +kernel), List.mem_of_getElem? (i := 1117) (by decide +kernel), List.mem_of_getElem? (i := 1118) (by decide +kernel)⟩
def lw_privs_3 : List (MethodName × Nat) := [(⟨"BalloonTownModel", "wantBalloon", "(I)V"⟩, 43), (⟨"BalloonTownModel", "wantNumber", "(II)I"⟩, 43), (⟨"BalloonTownModel", "mayWant", "(JIII)I"⟩, 43), (⟨"BalloonTownModel", "wantEnd", "()V"⟩, 43), (⟨"BalloonTownModel", "isMark", "(I)Z"⟩, 43), (⟨"BalloonTownModel", "wantWarmth", "(Z)V"⟩, 43), (⟨"BalloonTownModel", "sets", "(III)V"⟩, 43), (⟨"BalloonTownModel", "isBalloon", "(I)Z"⟩, 43), (⟨"BalloonTownModel", "weight", "(I)I"⟩, 43), (⟨"BalloonTownModel", "its", "(II)I"⟩, 43), (⟨"BalloonTownModel", "target", "(I)I"⟩, 43), (⟨"BalloonTownModel", "lift", "(I)I"⟩, 43), (⟨"BalloonTownModel", "hourNow", "()I"⟩, 43), (⟨"BalloonTownModel", "leaks", "(I)I"⟩, 43), (⟨"BalloonTownModel", "nextTo", "(IZ)I"⟩, 43), (⟨"BalloonTownModel", "isOver", "(II)Z"⟩, 43)]
theorem lw_r3 : ∀ q ∈ lw_privs_3, lw_okq q := List.forall_mem_cons.mpr ⟨lw_p32, List.forall_mem_cons.mpr ⟨lw_p33, List.forall_mem_cons.mpr ⟨lw_p34, List.forall_mem_cons.mpr ⟨lw_p35, List.forall_mem_cons.mpr ⟨lw_p36, List.forall_mem_cons.mpr ⟨lw_p37, List.forall_mem_cons.mpr ⟨lw_p38, List.forall_mem_cons.mpr ⟨lw_p39, List.forall_mem_cons.mpr ⟨lw_p40, List.forall_mem_cons.mpr ⟨lw_p41, List.forall_mem_cons.mpr ⟨lw_p42, List.forall_mem_cons.mpr ⟨lw_p43, List.forall_mem_cons.mpr ⟨lw_p44, List.forall_mem_cons.mpr ⟨lw_p45, List.forall_mem_cons.mpr ⟨lw_p46, List.forall_mem_cons.mpr ⟨lw_p47, fun _ h => absurd h List.not_mem_nil⟩⟩⟩⟩⟩⟩⟩⟩⟩⟩⟩⟩⟩⟩⟩⟩
theorem lw_p48 : lw_okq (⟨"BalloonTownModel", "reach", "(I)I"⟩, 43) := ⟨⟨by decide +kernel, by decide +kernel⟩, List.mem_of_getElem? (i := 816) (by decide +kernel), List.mem_of_getElem? (i := 1125) (by decide +kernel), List.mem_of_getElem? (i := 1126) (by decide +kernel)⟩
theorem lw_p49 : lw_okq (⟨"BalloonTownModel", "apart", "(II)I"⟩, 43) := ⟨⟨by decide +kernel, by decide +kernel⟩, List.mem_of_getElem? (i := 816) (by decide +kernel), List.mem_of_getElem? (i := 1129) (by decide +kernel), List.mem_of_getElem? (i := 1130) (by decide +kernel)⟩
theorem lw_p50 : lw_okq (⟨"BalloonTownModel", "canGive", "(IIII)Z"⟩, 43) := ⟨⟨by decide +kernel, by decide +kernel⟩, List.mem_of_getElem? (i := 816) (by decide +kernel), List.mem_of_getElem? (i := 1137) (by decide +kernel), List.mem_of_getElem? (i := 1138) (by decide +kernel)⟩
theorem lw_p51 : lw_okq (⟨"BalloonTownModel", "gives", "(IIII)V"⟩, 43) := ⟨⟨by decide +kernel, by decide +kernel⟩, List.mem_of_getElem? (i := 816) (by decide +kernel), List.mem_of_getElem? (i := 1141) (by decide +kernel), List.mem_of_getElem? (i := 1142) (by decide +kernel)⟩
theorem lw_p52 : lw_okq (⟨"BalloonTownModel", "touchSet", "(I)I"⟩, 43) := ⟨⟨by decide +kernel, by decide +kernel⟩, List.mem_of_getElem? (i := 816) (by decide +kernel), List.mem_of_getElem? (i := 1149) (by decide +kernel), List.mem_of_getElem? (i := 1150) (by decide +kernel)⟩
theorem lw_p53 : lw_okq (⟨"BalloonTownModel", "isTouch", "(II)Z"⟩, 43) := ⟨⟨by decide +kernel, by decide +kernel⟩, List.mem_of_getElem? (i := 816) (by decide +kernel), List.mem_of_getElem? (i := 1153) (by decide +kernel), List.mem_of_getElem? (i := 1154) (by decide +kernel)⟩
theorem lw_p54 : lw_okq (⟨"BalloonTownModel", "go", "(I)V"⟩, 43) := ⟨⟨by decide +kernel, by decide +kernel⟩, List.mem_of_getElem? (i := 816) (by decide +kernel), List.mem_of_getElem? (i := 1164) (by decide +kernel), List.mem_of_getElem? (i := 1165) (by decide +kernel)⟩
theorem lw_p55 : lw_okq (⟨"BalloonTownModel", "goesOn", "()Z"⟩, 43) := ⟨⟨by decide +kernel, by decide +kernel⟩, List.mem_of_getElem? (i := 816) (by decide +kernel), List.mem_of_getElem? (i := 1168) (by decide +kernel), List.mem_of_getElem? (i := 1169) (by decide +kernel)⟩
theorem lw_p56 : lw_okq (⟨"BalloonTownModel", "hourGoes", "()V"⟩, 43) := ⟨⟨by decide +kernel, by decide +kernel⟩, List.mem_of_getElem? (i := 816) (by decide +kernel), List.mem_of_getElem? (i := 1172) (by decide +kernel), List.mem_of_getElem? (i := 1173) (by decide +kernel)⟩
theorem lw_p57 : lw_okq (⟨"BalloonTownModel", "lends", "()V"⟩, 43) := ⟨⟨by decide +kernel, by decide +kernel⟩, List.mem_of_getElem? (i := 816) (by decide +kernel), List.mem_of_getElem? (i := 1187) (by decide +kernel), List.mem_of_getElem? (i := 1188) (by decide +kernel)⟩
theorem lw_p58 : lw_okq (⟨"BalloonTownModel", "firstPair", "()I"⟩, 43) := ⟨⟨by decide +kernel, by decide +kernel⟩, List.mem_of_getElem? (i := 816) (by decide +kernel), List.mem_of_getElem? (i := 1195) (by decide +kernel), List.mem_of_getElem? (i := 1196) (by decide +kernel)⟩
theorem lw_p59 : lw_okq (⟨"BalloonTownModel", "isClearWith", "(IIII)Z"⟩, 43) := ⟨⟨by decide +kernel, by decide +kernel⟩, List.mem_of_getElem? (i := 816) (by decide +kernel), List.mem_of_getElem? (i := 1203) (by decide +kernel), List.mem_of_getElem? (i := 1204) (by decide +kernel)⟩
theorem lw_p60 : lw_okq (⟨"BalloonTownModel", "isClear", "(II)Z"⟩, 43) := ⟨⟨by decide +kernel, by decide +kernel⟩, List.mem_of_getElem? (i := 816) (by decide +kernel), List.mem_of_getElem? (i := 1207) (by decide +kernel), List.mem_of_getElem? (i := 1208) (by decide +kernel)⟩
theorem lw_p61 : lw_okq (⟨"BalloonTownModel", "pairsBehind", "(I)I"⟩, 43) := ⟨⟨by decide +kernel, by decide +kernel⟩, List.mem_of_getElem? (i := 816) (by decide +kernel), List.mem_of_getElem? (i := 1234) (by decide +kernel), List.mem_of_getElem? (i := 1235) (by decide +kernel)⟩
theorem lw_p62 : lw_okq (⟨"BalloonTownModel", "pairs", "()I"⟩, 43) := ⟨⟨by decide +kernel, by decide +kernel⟩, List.mem_of_getElem? (i := 816) (by decide +kernel), List.mem_of_getElem? (i := 1238) (by decide +kernel), List.mem_of_getElem? (i := 1239) (by decide +kernel)⟩
theorem lw_p63 : lw_okq (⟨"BalloonTownModel", "findRows", "(II)V"⟩, 43) := ⟨⟨by decide +kernel, by decide +kernel⟩, List.mem_of_getElem? (i := 816) (by decide +kernel), List.mem_of_getElem? (i := 1266) (by decide +kernel), List.mem_of_getElem? (i := 1267) (by decide +kernel)⟩
def lw_privs_4 : List (MethodName × Nat) := [(⟨"BalloonTownModel", "reach", "(I)I"⟩, 43), (⟨"BalloonTownModel", "apart", "(II)I"⟩, 43), (⟨"BalloonTownModel", "canGive", "(IIII)Z"⟩, 43), (⟨"BalloonTownModel", "gives", "(IIII)V"⟩, 43), (⟨"BalloonTownModel", "touchSet", "(I)I"⟩, 43), (⟨"BalloonTownModel", "isTouch", "(II)Z"⟩, 43), (⟨"BalloonTownModel", "go", "(I)V"⟩, 43), (⟨"BalloonTownModel", "goesOn", "()Z"⟩, 43), (⟨"BalloonTownModel", "hourGoes", "()V"⟩, 43), (⟨"BalloonTownModel", "lends", "()V"⟩, 43), (⟨"BalloonTownModel", "firstPair", "()I"⟩, 43), (⟨"BalloonTownModel", "isClearWith", "(IIII)Z"⟩, 43), (⟨"BalloonTownModel", "isClear", "(II)Z"⟩, 43), (⟨"BalloonTownModel", "pairsBehind", "(I)I"⟩, 43), (⟨"BalloonTownModel", "pairs", "()I"⟩, 43), (⟨"BalloonTownModel", "findRows", "(II)V"⟩, 43)]
theorem lw_r4 : ∀ q ∈ lw_privs_4, lw_okq q := List.forall_mem_cons.mpr ⟨lw_p48, List.forall_mem_cons.mpr ⟨lw_p49, List.forall_mem_cons.mpr ⟨lw_p50, List.forall_mem_cons.mpr ⟨lw_p51, List.forall_mem_cons.mpr ⟨lw_p52, List.forall_mem_cons.mpr ⟨lw_p53, List.forall_mem_cons.mpr ⟨lw_p54, List.forall_mem_cons.mpr ⟨lw_p55, List.forall_mem_cons.mpr ⟨lw_p56, List.forall_mem_cons.mpr ⟨lw_p57, List.forall_mem_cons.mpr ⟨lw_p58, List.forall_mem_cons.mpr ⟨lw_p59, List.forall_mem_cons.mpr ⟨lw_p60, List.forall_mem_cons.mpr ⟨lw_p61, List.forall_mem_cons.mpr ⟨lw_p62, List.forall_mem_cons.mpr ⟨lw_p63, fun _ h => absurd h List.not_mem_nil⟩⟩⟩⟩⟩⟩⟩⟩⟩⟩⟩⟩⟩⟩⟩⟩
theorem lw_p64 : lw_okq (⟨"BalloonTownModel", "isRow", "(II)Z"⟩, 43) := ⟨⟨by decide +kernel, by decide +kernel⟩, List.mem_of_getElem? (i := 816) (by decide +kernel), List.mem_of_getElem? (i := 1274) (by decide +kernel), List.mem_of_getElem? (i := 1275) (by decide +kernel)⟩
theorem lw_p65 : lw_okq (⟨"BalloonTownModel", "lacksSort", "(II)I"⟩, 43) := ⟨⟨by decide +kernel, by decide +kernel⟩, List.mem_of_getElem? (i := 816) (by decide +kernel), List.mem_of_getElem? (i := 1293) (by decide +kernel), List.mem_of_getElem? (i := 1294) (by decide +kernel)⟩
theorem lw_p66 : lw_okq (⟨"BalloonTownModel", "isHeld", "(II)Z"⟩, 43) := ⟨⟨by decide +kernel, by decide +kernel⟩, List.mem_of_getElem? (i := 816) (by decide +kernel), List.mem_of_getElem? (i := 1315) (by decide +kernel), List.mem_of_getElem? (i := 1316) (by decide +kernel)⟩
theorem lw_p67 : lw_okq (⟨"BalloonTownModel", "kindOn", "(I)I"⟩, 43) := ⟨⟨by decide +kernel, by decide +kernel⟩, List.mem_of_getElem? (i := 816) (by decide +kernel), List.mem_of_getElem? (i := 1323) (by decide +kernel), List.mem_of_getElem? (i := 1324) (by decide +kernel)⟩
theorem lw_p68 : lw_okq (⟨"BalloonTownModel", "liftsIt", "(I)I"⟩, 43) := ⟨⟨by decide +kernel, by decide +kernel⟩, List.mem_of_getElem? (i := 816) (by decide +kernel), List.mem_of_getElem? (i := 1334) (by decide +kernel), List.mem_of_getElem? (i := 1335) (by decide +kernel)⟩
theorem lw_p69 : lw_okq (⟨"BalloonTownModel", "leakyLifts", "(I)I"⟩, 43) := ⟨⟨by decide +kernel, by decide +kernel⟩, List.mem_of_getElem? (i := 816) (by decide +kernel), List.mem_of_getElem? (i := 1338) (by decide +kernel), List.mem_of_getElem? (i := 1339) (by decide +kernel)⟩
theorem lw_p70 : lw_okq (⟨"BalloonTownModel", "ran", "(I)V"⟩, 43) := ⟨⟨by decide +kernel, by decide +kernel⟩, List.mem_of_getElem? (i := 816) (by decide +kernel), List.mem_of_getElem? (i := 1342) (by decide +kernel), List.mem_of_getElem? (i := 1343) (by decide +kernel)⟩
theorem lw_p71 : lw_okq (⟨"BalloonTownModel", "plainLifts", "(I)I"⟩, 43) := ⟨⟨by decide +kernel, by decide +kernel⟩, List.mem_of_getElem? (i := 816) (by decide +kernel), List.mem_of_getElem? (i := 1346) (by decide +kernel), List.mem_of_getElem? (i := 1347) (by decide +kernel)⟩
theorem lw_p72 : lw_okq (⟨"BalloonTownModel", "sinksIt", "(I)I"⟩, 43) := ⟨⟨by decide +kernel, by decide +kernel⟩, List.mem_of_getElem? (i := 816) (by decide +kernel), List.mem_of_getElem? (i := 1350) (by decide +kernel), List.mem_of_getElem? (i := 1351) (by decide +kernel)⟩
theorem lw_p73 : lw_okq (⟨"BalloonTownModel", "plainSinks", "(I)I"⟩, 43) := ⟨⟨by decide +kernel, by decide +kernel⟩, List.mem_of_getElem? (i := 816) (by decide +kernel), List.mem_of_getElem? (i := 1354) (by decide +kernel), List.mem_of_getElem? (i := 1355) (by decide +kernel)⟩
theorem lw_p74 : lw_okq (⟨"BalloonTownModel", "sharesIt", "(I)I"⟩, 43) := ⟨⟨by decide +kernel, by decide +kernel⟩, List.mem_of_getElem? (i := 816) (by decide +kernel), List.mem_of_getElem? (i := 1358) (by decide +kernel), List.mem_of_getElem? (i := 1359) (by decide +kernel)⟩
theorem lw_p75 : lw_okq (⟨"BalloonTownModel", "plainShares", "(I)I"⟩, 43) := ⟨⟨by decide +kernel, by decide +kernel⟩, List.mem_of_getElem? (i := 816) (by decide +kernel), List.mem_of_getElem? (i := 1362) (by decide +kernel), List.mem_of_getElem? (i := 1363) (by decide +kernel)⟩
theorem lw_p76 : lw_okq (⟨"BalloonTownModel", "tellsIt", "(I)I"⟩, 43) := ⟨⟨by decide +kernel, by decide +kernel⟩, List.mem_of_getElem? (i := 816) (by decide +kernel), List.mem_of_getElem? (i := 1366) (by decide +kernel), List.mem_of_getElem? (i := 1367) (by decide +kernel)⟩
theorem lw_p77 : lw_okq (⟨"BalloonTownModel", "plainTells", "(I)I"⟩, 43) := ⟨⟨by decide +kernel, by decide +kernel⟩, List.mem_of_getElem? (i := 816) (by decide +kernel), List.mem_of_getElem? (i := 1370) (by decide +kernel), List.mem_of_getElem? (i := 1371) (by decide +kernel)⟩
theorem lw_p78 : lw_okq (⟨"BalloonTownModel", "moveAll", "(Z)V"⟩, 43) := ⟨⟨by decide +kernel, by decide +kernel⟩, List.mem_of_getElem? (i := 816) (by decide +kernel), List.mem_of_getElem? (i := 1386) (by decide +kernel), List.mem_of_getElem? (i := 1387) (by decide +kernel)⟩
theorem lw_p79 : lw_okq (⟨"BalloonTownModel", "moveRow", "([IIZ)V"⟩, 43) := ⟨⟨by decide +kernel, by decide +kernel⟩, List.mem_of_getElem? (i := 816) (by decide +kernel), List.mem_of_getElem? (i := 1390) (by decide +kernel), List.mem_of_getElem? (i := 1391) (by decide +kernel)⟩
def lw_privs_5 : List (MethodName × Nat) := [(⟨"BalloonTownModel", "isRow", "(II)Z"⟩, 43), (⟨"BalloonTownModel", "lacksSort", "(II)I"⟩, 43), (⟨"BalloonTownModel", "isHeld", "(II)Z"⟩, 43), (⟨"BalloonTownModel", "kindOn", "(I)I"⟩, 43), (⟨"BalloonTownModel", "liftsIt", "(I)I"⟩, 43), (⟨"BalloonTownModel", "leakyLifts", "(I)I"⟩, 43), (⟨"BalloonTownModel", "ran", "(I)V"⟩, 43), (⟨"BalloonTownModel", "plainLifts", "(I)I"⟩, 43), (⟨"BalloonTownModel", "sinksIt", "(I)I"⟩, 43), (⟨"BalloonTownModel", "plainSinks", "(I)I"⟩, 43), (⟨"BalloonTownModel", "sharesIt", "(I)I"⟩, 43), (⟨"BalloonTownModel", "plainShares", "(I)I"⟩, 43), (⟨"BalloonTownModel", "tellsIt", "(I)I"⟩, 43), (⟨"BalloonTownModel", "plainTells", "(I)I"⟩, 43), (⟨"BalloonTownModel", "moveAll", "(Z)V"⟩, 43), (⟨"BalloonTownModel", "moveRow", "([IIZ)V"⟩, 43)]
theorem lw_r5 : ∀ q ∈ lw_privs_5, lw_okq q := List.forall_mem_cons.mpr ⟨lw_p64, List.forall_mem_cons.mpr ⟨lw_p65, List.forall_mem_cons.mpr ⟨lw_p66, List.forall_mem_cons.mpr ⟨lw_p67, List.forall_mem_cons.mpr ⟨lw_p68, List.forall_mem_cons.mpr ⟨lw_p69, List.forall_mem_cons.mpr ⟨lw_p70, List.forall_mem_cons.mpr ⟨lw_p71, List.forall_mem_cons.mpr ⟨lw_p72, List.forall_mem_cons.mpr ⟨lw_p73, List.forall_mem_cons.mpr ⟨lw_p74, List.forall_mem_cons.mpr ⟨lw_p75, List.forall_mem_cons.mpr ⟨lw_p76, List.forall_mem_cons.mpr ⟨lw_p77, List.forall_mem_cons.mpr ⟨lw_p78, List.forall_mem_cons.mpr ⟨lw_p79, fun _ h => absurd h List.not_mem_nil⟩⟩⟩⟩⟩⟩⟩⟩⟩⟩⟩⟩⟩⟩⟩⟩
def lw_privs : List (MethodName × Nat) := lw_privs_1 ++ (lw_privs_2 ++ (lw_privs_3 ++ (lw_privs_4 ++ (lw_privs_5))))
def lw_tbl : List Cond := k2_sels lw_privs ++ tables_1
theorem lw_privs_ok : ∀ q ∈ lw_privs, lw_okq q := by
  show ∀ q ∈ lw_privs_1 ++ (lw_privs_2 ++ (lw_privs_3 ++ (lw_privs_4 ++ (lw_privs_5)))), lw_okq q
  exact List.forall_mem_append.mpr ⟨lw_r1, List.forall_mem_append.mpr ⟨lw_r2, List.forall_mem_append.mpr ⟨lw_r3, List.forall_mem_append.mpr ⟨lw_r4, lw_r5⟩⟩⟩⟩
-- ===== end of PART A; then your names; then what follows =====
end
section
/-! ===== BEGIN words of one list among another's, by their places ===== -/
theorem goodIn_r {big : List Cond} (ws : List Cond) (ps : List Nat) (hp : ws = ps.filterMap (fun i => big[i]?)) (h : ws.all goodWord = true) : GoodIn big ws := by
  intro w hw
  have h1 := List.all_eq_true.mp h w hw
  rw [hp] at hw
  obtain ⟨i, -, hi⟩ := List.mem_filterMap.mp hw
  have hm : w ∈ big := by first | exact List.mem_of_getElem? hi | exact List.getElem?_mem hi
  exact ⟨hm, good_of_word h1⟩
theorem goodIn_app {big a b : List Cond} (ha : GoodIn big a) (hb : GoodIn big b) : GoodIn big (a ++ b) := fun w h => (List.mem_append.mp h).elim (ha w) (hb w)
theorem goodIn_ca {big a b : List Cond} {c : Cond} (ha : GoodIn big (c :: a)) (hb : GoodIn big b) : GoodIn big (c :: (a ++ b)) := fun w h => (List.mem_cons.mp h).elim (fun e => ha w (List.mem_cons.mpr (Or.inl e))) (fun h => (List.mem_append.mp h).elim (fun h => ha w (List.mem_cons.mpr (Or.inr h))) (hb w))
theorem goodIn_sub {big ws : List Cond} (hm : ∀ w ∈ ws, w ∈ big) (h : ws.all goodWord = true) : GoodIn big ws := fun w hw => ⟨hm w hw, good_of_word (List.all_eq_true.mp h w hw)⟩
/-! ===== END ===== -/

/-! ===== BEGIN printed: names, fields, word lists, decode rows ===== -/
def RX0 : String := "BalloonTown$Acts"
def TX0 : u_T := fun k => match k with
  | 0 => ("BalloonTown$Acts", "bodies", "[I", true)
  | 1 => ("BalloonTown$Acts", "ran", "I", false)
  | 2 => ("BalloonTown$Acts", "partedBy0", "Z", false)
  | 3 => ("BalloonTown$Acts", "kind", "I", false)
  | 4 => ("BalloonTown$Acts", "n", "I", false)
  | _ => ("BalloonTown$Acts", "a", "I", false)
def tyX0 : Nat → FieldType := fun k => match k with
  | 0 => .array .int
  | 1 => .int
  | 2 => .boolean
  | 3 => .int
  | 4 => .int
  | _ => .int
abbrev wsX00 : List Cond := u_ws RX0 TX0 6
theorem nmX0 : ∀ a, a < 6 → ∀ b, b < 6 → a ≠ b → (TX0 a).2.1 ≠ (TX0 b).2.1 := by decide +kernel
theorem tyX0_ok : ∀ k, k < 6 → parseFieldDescriptor (TX0 k).2.2.1 = some (tyX0 k) := by decide +kernel
abbrev cX0_init : ByteArray := prog_2_method_1_code
def yX0_init : MethodName := ⟨RX0, "<init>", "()V"⟩
abbrev cX0_forget : ByteArray := prog_2_method_2_code
def yX0_forget : MethodName := ⟨RX0, "forget", "()V"⟩
abbrev cX0_answer : ByteArray := prog_2_method_3_code
def yX0_answer : MethodName := ⟨RX0, "answer", "(LBalloonTown$Balloon;III)I"⟩
abbrev cX0_begin : ByteArray := prog_2_method_4_code
def yX0_begin : MethodName := ⟨RX0, "begin", "(I)V"⟩
abbrev cX0_lifts : ByteArray := prog_2_method_5_code
def yX0_lifts : MethodName := ⟨RX0, "lifts", "(I)I"⟩
abbrev cX0_sinks : ByteArray := prog_2_method_6_code
def yX0_sinks : MethodName := ⟨RX0, "sinks", "(I)I"⟩
abbrev cX0_shares : ByteArray := prog_2_method_7_code
def yX0_shares : MethodName := ⟨RX0, "shares", "(I)I"⟩
abbrev cX0_parted : ByteArray := prog_2_method_8_code
def yX0_parted : MethodName := ⟨RX0, "parted", "(I)I"⟩
abbrev cX0_tells : ByteArray := prog_2_method_9_code
def yX0_tells : MethodName := ⟨RX0, "tells", "(I)I"⟩
def RX1 : String := "BalloonTown$Balloon"
def TX1 : u_T := fun k => match k with
  | _ => ("BalloonTown$Balloon", "parts", "[I", true)
def tyX1 : Nat → FieldType := fun k => match k with
  | _ => .array .int
abbrev wsX10 : List Cond := u_ws RX1 TX1 1
theorem nmX1 : ∀ a, a < 1 → ∀ b, b < 1 → a ≠ b → (TX1 a).2.1 ≠ (TX1 b).2.1 := by decide +kernel
theorem tyX1_ok : ∀ k, k < 1 → parseFieldDescriptor (TX1 k).2.2.1 = some (tyX1 k) := by decide +kernel
abbrev cX1_init : ByteArray := prog_3_method_1_code
def yX1_init : MethodName := ⟨RX1, "<init>", "()V"⟩
abbrev cX1_begin : ByteArray := prog_3_method_2_code
def yX1_begin : MethodName := ⟨RX1, "begin", "(III)V"⟩
abbrev cX1_copyFrom : ByteArray := prog_3_method_3_code
def yX1_copyFrom : MethodName := ⟨RX1, "copyFrom", "(LBalloonTown$Balloon;)V"⟩
abbrev cX1_lift : ByteArray := prog_3_method_4_code
def yX1_lift : MethodName := ⟨RX1, "lift", "(I)I"⟩
abbrev cX1_weight : ByteArray := prog_3_method_5_code
def yX1_weight : MethodName := ⟨RX1, "weight", "()I"⟩
abbrev cX1_target : ByteArray := prog_3_method_6_code
def yX1_target : MethodName := ⟨RX1, "target", "(I)I"⟩
abbrev cX1_leaks : ByteArray := prog_3_method_7_code
def yX1_leaks : MethodName := ⟨RX1, "leaks", "(I)I"⟩
abbrev cX1_passHour : ByteArray := prog_3_method_8_code
def yX1_passHour : MethodName := ⟨RX1, "passHour", "(II)V"⟩
def RX2 : String := "BalloonTown$Sheet"
def TX2 : u_T := fun k => match k with
  | 0 => ("BalloonTown$Sheet", "items", "[I", true)
  | 1 => ("BalloonTown$Sheet", "sort", "I", false)
  | _ => ("BalloonTown$Sheet", "length", "I", false)
def tyX2 : Nat → FieldType := fun k => match k with
  | 0 => .array .int
  | 1 => .int
  | _ => .int
abbrev wsX20 : List Cond := u_ws RX2 TX2 3
theorem nmX2 : ∀ a, a < 3 → ∀ b, b < 3 → a ≠ b → (TX2 a).2.1 ≠ (TX2 b).2.1 := by decide +kernel
theorem tyX2_ok : ∀ k, k < 3 → parseFieldDescriptor (TX2 k).2.2.1 = some (tyX2 k) := by decide +kernel
abbrev cX2_init : ByteArray := prog_4_method_1_code
def yX2_init : MethodName := ⟨RX2, "<init>", "()V"⟩
abbrev cX2_becomeRow : ByteArray := prog_4_method_2_code
def yX2_becomeRow : MethodName := ⟨RX2, "becomeRow", "(II)V"⟩
abbrev cX2_narrowed : ByteArray := prog_4_method_3_code
def yX2_narrowed : MethodName := ⟨RX2, "narrowed", "(I)I"⟩
def RX3 : String := "BalloonTown$Shelf"
def TX3 : u_T := fun k => match k with
  | 0 => ("BalloonTown$Shelf", "holds", "I", false)
  | 1 => ("BalloonTown$Shelf", "number", "I", false)
  | 2 => ("BalloonTown$Shelf", "sort", "I", false)
  | _ => ("BalloonTown$Shelf", "length", "I", false)
def tyX3 : Nat → FieldType := fun k => match k with
  | 0 => .int
  | 1 => .int
  | 2 => .int
  | _ => .int
abbrev wsX30 : List Cond := u_ws RX3 TX3 4
theorem nmX3 : ∀ a, a < 4 → ∀ b, b < 4 → a ≠ b → (TX3 a).2.1 ≠ (TX3 b).2.1 := by decide +kernel
theorem tyX3_ok : ∀ k, k < 4 → parseFieldDescriptor (TX3 k).2.2.1 = some (tyX3 k) := by decide +kernel
abbrev cX3_init : ByteArray := prog_5_method_1_code
def yX3_init : MethodName := ⟨RX3, "<init>", "()V"⟩
abbrev cX3_holdBalloon : ByteArray := prog_5_method_2_code
def yX3_holdBalloon : MethodName := ⟨RX3, "holdBalloon", "(I)V"⟩
abbrev cX3_holdRow : ByteArray := prog_5_method_3_code
def yX3_holdRow : MethodName := ⟨RX3, "holdRow", "(LBalloonTown$Sheet;)V"⟩
def RX4 : String := "BalloonTown$Tape"
def TX4 : u_T := fun k => match k with
  | 0 => ("BalloonTown$Tape", "bytes", "[B", true)
  | 1 => ("BalloonTown$Tape", "size", "I", false)
  | 2 => ("BalloonTown$Tape", "sort", "I", false)
  | 3 => ("BalloonTown$Tape", "start", "I", false)
  | 4 => ("BalloonTown$Tape", "end", "I", false)
  | _ => ("BalloonTown$Tape", "fault", "I", false)
def tyX4 : Nat → FieldType := fun k => match k with
  | 0 => .array .byte
  | 1 => .int
  | 2 => .int
  | 3 => .int
  | 4 => .int
  | _ => .int
abbrev wsX40 : List Cond := u_ws RX4 TX4 6
theorem nmX4 : ∀ a, a < 6 → ∀ b, b < 6 → a ≠ b → (TX4 a).2.1 ≠ (TX4 b).2.1 := by decide +kernel
theorem tyX4_ok : ∀ k, k < 6 → parseFieldDescriptor (TX4 k).2.2.1 = some (tyX4 k) := by decide +kernel
abbrev cX4_init : ByteArray := prog_6_method_1_code
def yX4_init : MethodName := ⟨RX4, "<init>", "()V"⟩
abbrev cX4_take : ByteArray := prog_6_method_2_code
def yX4_take : MethodName := ⟨RX4, "take", "(JI)V"⟩
abbrev cX4_readInto : ByteArray := prog_6_method_3_code
def yX4_readInto : MethodName := ⟨RX4, "readInto", "(LBalloonTown$Town;)I"⟩
abbrev cX4_readBalloon : ByteArray := prog_6_method_4_code
def yX4_readBalloon : MethodName := ⟨RX4, "readBalloon", "(LBalloonTown$Town;I)V"⟩
abbrev cX4_readPart : ByteArray := prog_6_method_5_code
def yX4_readPart : MethodName := ⟨RX4, "readPart", "(Ljava/lang/String;[II)V"⟩
abbrev cX4_readWarmth : ByteArray := prog_6_method_6_code
def yX4_readWarmth : MethodName := ⟨RX4, "readWarmth", "(LBalloonTown$Town;II)V"⟩
abbrev cX4_kindHere : ByteArray := prog_6_method_7_code
def yX4_kindHere : MethodName := ⟨RX4, "kindHere", "()I"⟩
abbrev cX4_nameOf : ByteArray := prog_6_method_8_code
def yX4_nameOf : MethodName := ⟨RX4, "nameOf", "(I)Ljava/lang/String;"⟩
abbrev cX4_isName : ByteArray := prog_6_method_9_code
def yX4_isName : MethodName := ⟨RX4, "isName", "(Ljava/lang/String;)Z"⟩
abbrev cX4_passName : ByteArray := prog_6_method_10_code
def yX4_passName : MethodName := ⟨RX4, "passName", "(Ljava/lang/String;)V"⟩
abbrev cX4_passSign : ByteArray := prog_6_method_11_code
def yX4_passSign : MethodName := ⟨RX4, "passSign", "(C)V"⟩
abbrev cX4_number : ByteArray := prog_6_method_12_code
def yX4_number : MethodName := ⟨RX4, "number", "(II)I"⟩
abbrev cX4_fail : ByteArray := prog_6_method_13_code
def yX4_fail : MethodName := ⟨RX4, "fail", "()V"⟩
abbrev cX4_advance : ByteArray := prog_6_method_14_code
def yX4_advance : MethodName := ⟨RX4, "advance", "()V"⟩
abbrev cX4_sortAt : ByteArray := prog_6_method_15_code
def yX4_sortAt : MethodName := ⟨RX4, "sortAt", "(I)I"⟩
def RX5 : String := "BalloonTown$Town"
def TX5 : u_T := fun k => match k with
  | 0 => ("BalloonTown$Town", "warmths", "[I", true)
  | 1 => ("BalloonTown$Town", "balloons", "[LBalloonTown$Balloon;", true)
  | 2 => ("BalloonTown$Town", "count", "I", false)
  | 3 => ("BalloonTown$Town", "now", "I", false)
  | 4 => ("BalloonTown$Town", "gap", "I", false)
  | _ => ("BalloonTown$Town", "z", "I", false)
def tyX5 : Nat → FieldType := fun k => match k with
  | 0 => .array .int
  | 1 => .array (.object "BalloonTown$Balloon")
  | 2 => .int
  | 3 => .int
  | 4 => .int
  | _ => .int
abbrev wsX50 : List Cond := u_ws RX5 TX5 6
theorem nmX5 : ∀ a, a < 6 → ∀ b, b < 6 → a ≠ b → (TX5 a).2.1 ≠ (TX5 b).2.1 := by decide +kernel
theorem tyX5_ok : ∀ k, k < 6 → parseFieldDescriptor (TX5 k).2.2.1 = some (tyX5 k) := by decide +kernel
abbrev cX5_init : ByteArray := prog_7_method_1_code
def yX5_init : MethodName := ⟨RX5, "<init>", "()V"⟩
abbrev cX5_becomeEmpty : ByteArray := prog_7_method_2_code
def yX5_becomeEmpty : MethodName := ⟨RX5, "becomeEmpty", "()V"⟩
abbrev cX5_copyFrom : ByteArray := prog_7_method_3_code
def yX5_copyFrom : MethodName := ⟨RX5, "copyFrom", "(LBalloonTown$Town;)V"⟩
abbrev cX5_has : ByteArray := prog_7_method_4_code
def yX5_has : MethodName := ⟨RX5, "has", "(I)Z"⟩
abbrev cX5_add : ByteArray := prog_7_method_5_code
def yX5_add : MethodName := ⟨RX5, "add", "(III)V"⟩
abbrev cX5_hourNow : ByteArray := prog_7_method_6_code
def yX5_hourNow : MethodName := ⟨RX5, "hourNow", "()I"⟩
abbrev cX5_passHour : ByteArray := prog_7_method_7_code
def yX5_passHour : MethodName := ⟨RX5, "passHour", "()V"⟩
abbrev cX5_heightOf : ByteArray := prog_7_method_8_code
def yX5_heightOf : MethodName := ⟨RX5, "heightOf", "(I)I"⟩
abbrev cX5_shareColumn : ByteArray := prog_7_method_9_code
def yX5_shareColumn : MethodName := ⟨RX5, "shareColumn", "(II)Z"⟩
abbrev cX5_tooNear : ByteArray := prog_7_method_10_code
def yX5_tooNear : MethodName := ⟨RX5, "tooNear", "(II)Z"⟩
abbrev cX5_touchedBy : ByteArray := prog_7_method_11_code
def yX5_touchedBy : MethodName := ⟨RX5, "touchedBy", "(I)I"⟩
abbrev cX5_touchingPairs : ByteArray := prog_7_method_12_code
def yX5_touchingPairs : MethodName := ⟨RX5, "touchingPairs", "()I"⟩
abbrev cX5_hangsAbove : ByteArray := prog_7_method_13_code
def yX5_hangsAbove : MethodName := ⟨RX5, "hangsAbove", "(II)Z"⟩
abbrev cX5_nextAbove : ByteArray := prog_7_method_14_code
def yX5_nextAbove : MethodName := ⟨RX5, "nextAbove", "(I)I"⟩
abbrev cX5_nextBelow : ByteArray := prog_7_method_15_code
def yX5_nextBelow : MethodName := ⟨RX5, "nextBelow", "(I)I"⟩
abbrev cX5_reachedBy : ByteArray := prog_7_method_16_code
def yX5_reachedBy : MethodName := ⟨RX5, "reachedBy", "(I)I"⟩
abbrev cX5_inReach : ByteArray := prog_7_method_17_code
def yX5_inReach : MethodName := ⟨RX5, "inReach", "(II)I"⟩
abbrev cX5_canGive : ByteArray := prog_7_method_18_code
def yX5_canGive : MethodName := ⟨RX5, "canGive", "(IIII)Z"⟩
def RX6 : String := "BalloonTown$Trial"
def TX6 : u_T := fun k => match k with
  | 0 => ("BalloonTown$Trial", "town", "LBalloonTown$Town;", true)
  | 1 => ("BalloonTown$Trial", "one", "LBalloonTown$Balloon;", true)
  | 2 => ("BalloonTown$Trial", "heights", "[[I", true)
  | 3 => ("BalloonTown$Trial", "gases", "[[I", true)
  | 4 => ("BalloonTown$Trial", "colder", "I", false)
  | _ => ("BalloonTown$Trial", "last", "I", false)
def tyX6 : Nat → FieldType := fun k => match k with
  | 0 => .object "BalloonTown$Town"
  | 1 => .object "BalloonTown$Balloon"
  | 2 => .array (.array .int)
  | 3 => .array (.array .int)
  | 4 => .int
  | _ => .int
abbrev wsX60 : List Cond := u_ws RX6 TX6 6
theorem nmX6 : ∀ a, a < 6 → ∀ b, b < 6 → a ≠ b → (TX6 a).2.1 ≠ (TX6 b).2.1 := by decide +kernel
theorem tyX6_ok : ∀ k, k < 6 → parseFieldDescriptor (TX6 k).2.2.1 = some (tyX6 k) := by decide +kernel
abbrev cX6_init : ByteArray := prog_8_method_1_code
def yX6_init : MethodName := ⟨RX6, "<init>", "(LBalloonTown$Town;)V"⟩
abbrev cX6_run : ByteArray := prog_8_method_2_code
def yX6_run : MethodName := ⟨RX6, "run", "(II)V"⟩
abbrev cX6_followWith : ByteArray := prog_8_method_3_code
def yX6_followWith : MethodName := ⟨RX6, "followWith", "(III)V"⟩
abbrev cX6_step : ByteArray := prog_8_method_4_code
def yX6_step : MethodName := ⟨RX6, "step", "(I)V"⟩
abbrev cX6_note : ByteArray := prog_8_method_5_code
def yX6_note : MethodName := ⟨RX6, "note", "(II)V"⟩
abbrev cX6_near : ByteArray := prog_8_method_6_code
def yX6_near : MethodName := ⟨RX6, "near", "(III)Z"⟩
abbrev cX6_touchedIn : ByteArray := prog_8_method_7_code
def yX6_touchedIn : MethodName := ⟨RX6, "touchedIn", "(III)I"⟩
abbrev cX6_isClearIn : ByteArray := prog_8_method_8_code
def yX6_isClearIn : MethodName := ⟨RX6, "isClearIn", "(II)Z"⟩
abbrev cX6_isClearWith : ByteArray := prog_8_method_9_code
def yX6_isClearWith : MethodName := ⟨RX6, "isClearWith", "(III)Z"⟩
abbrev cX6_leastPair : ByteArray := prog_8_method_10_code
def yX6_leastPair : MethodName := ⟨RX6, "leastPair", "(I)I"⟩
abbrev cX6_isClearForAll : ByteArray := prog_8_method_11_code
def yX6_isClearForAll : MethodName := ⟨RX6, "isClearForAll", "()Z"⟩
abbrev cX6_pairsToCome : ByteArray := prog_8_method_12_code
def yX6_pairsToCome : MethodName := ⟨RX6, "pairsToCome", "()I"⟩
abbrev cX6_pairsWithGift : ByteArray := prog_8_method_13_code
def yX6_pairsWithGift : MethodName := ⟨RX6, "pairsWithGift", "(III)I"⟩
abbrev cX6_rowPart : ByteArray := prog_8_method_14_code
def yX6_rowPart : MethodName := ⟨RX6, "rowPart", "(III)I"⟩
def RX7 : String := "BalloonTown"
def TX7 : u_T := fun k => match k with
  | 0 => ("BalloonTown", "live", "LBalloonTown$Town;", true)
  | 1 => ("BalloonTown", "kept", "LBalloonTown$Town;", true)
  | 2 => ("BalloonTown", "anyKept", "Z", false)
  | 3 => ("BalloonTown", "told", "LBalloonTown$Town;", true)
  | 4 => ("BalloonTown", "tape", "LBalloonTown$Tape;", true)
  | 5 => ("BalloonTown", "trial", "LBalloonTown$Trial;", true)
  | 6 => ("BalloonTown", "rows", "[[I", true)
  | 7 => ("BalloonTown", "rowCount", "I", false)
  | 8 => ("BalloonTown", "sheets", "[LBalloonTown$Sheet;", true)
  | 9 => ("BalloonTown", "shelves", "[LBalloonTown$Shelf;", true)
  | _ => ("BalloonTown", "acts", "LBalloonTown$Acts;", true)
def tyX7 : Nat → FieldType := fun k => match k with
  | 0 => .object "BalloonTown$Town"
  | 1 => .object "BalloonTown$Town"
  | 2 => .boolean
  | 3 => .object "BalloonTown$Town"
  | 4 => .object "BalloonTown$Tape"
  | 5 => .object "BalloonTown$Trial"
  | 6 => .array (.array .int)
  | 7 => .int
  | 8 => .array (.object "BalloonTown$Sheet")
  | 9 => .array (.object "BalloonTown$Shelf")
  | _ => .object "BalloonTown$Acts"
abbrev wsX70 : List Cond := u_ws RX7 TX7 11
theorem nmX7 : ∀ a, a < 11 → ∀ b, b < 11 → a ≠ b → (TX7 a).2.1 ≠ (TX7 b).2.1 := by decide +kernel
theorem tyX7_ok : ∀ k, k < 11 → parseFieldDescriptor (TX7 k).2.2.1 = some (tyX7 k) := by decide +kernel
abbrev cX7_init : ByteArray := prog_1_method_1_code
def yX7_init : MethodName := ⟨RX7, "<init>", "()V"⟩
abbrev cX7_feed : ByteArray := prog_1_method_2_code
def yX7_feed : MethodName := ⟨RX7, "feed", "(JI)I"⟩
abbrev cX7_town : ByteArray := prog_1_method_3_code
def yX7_town : MethodName := ⟨RX7, "town", "()I"⟩
abbrev cX7_warm : ByteArray := prog_1_method_4_code
def yX7_warm : MethodName := ⟨RX7, "warm", "(II)I"⟩
abbrev cX7_warmth : ByteArray := prog_1_method_5_code
def yX7_warmth : MethodName := ⟨RX7, "warmth", "(I)I"⟩
abbrev cX7_gap : ByteArray := prog_1_method_6_code
def yX7_gap : MethodName := ⟨RX7, "gap", "(I)I"⟩
abbrev cX7_balloon : ByteArray := prog_1_method_7_code
def yX7_balloon : MethodName := ⟨RX7, "balloon", "(III)I"⟩
abbrev cX7_balloonOf : ByteArray := prog_1_method_8_code
def yX7_balloonOf : MethodName := ⟨RX7, "balloonOf", "(II)I"⟩
abbrev cX7_becomes : ByteArray := prog_1_method_9_code
def yX7_becomes : MethodName := ⟨RX7, "becomes", "(III)I"⟩
abbrev cX7_mind : ByteArray := prog_1_method_10_code
def yX7_mind : MethodName := ⟨RX7, "mind", "(III)I"⟩
abbrev cX7_pour : ByteArray := prog_1_method_11_code
def yX7_pour : MethodName := ⟨RX7, "pour", "(II)I"⟩
abbrev cX7_give : ByteArray := prog_1_method_12_code
def yX7_give : MethodName := ⟨RX7, "give", "(IIII)I"⟩
abbrev cX7_touches : ByteArray := prog_1_method_13_code
def yX7_touches : MethodName := ⟨RX7, "touches", "(I)I"⟩
abbrev cX7_above : ByteArray := prog_1_method_14_code
def yX7_above : MethodName := ⟨RX7, "above", "(II)I"⟩
abbrev cX7_hours : ByteArray := prog_1_method_15_code
def yX7_hours : MethodName := ⟨RX7, "hours", "(I)I"⟩
abbrev cX7_clock : ByteArray := prog_1_method_16_code
def yX7_clock : MethodName := ⟨RX7, "clock", "(I)I"⟩
abbrev cX7_height : ByteArray := prog_1_method_17_code
def yX7_height : MethodName := ⟨RX7, "height", "(II)I"⟩
abbrev cX7_first : ByteArray := prog_1_method_18_code
def yX7_first : MethodName := ⟨RX7, "first", "(I)I"⟩
abbrev cX7_clear : ByteArray := prog_1_method_19_code
def yX7_clear : MethodName := ⟨RX7, "clear", "(II)I"⟩
abbrev cX7_leastSand : ByteArray := prog_1_method_20_code
def yX7_leastSand : MethodName := ⟨RX7, "leastSand", "(II)I"⟩
abbrev cX7_ropeFor : ByteArray := prog_1_method_21_code
def yX7_ropeFor : MethodName := ⟨RX7, "ropeFor", "(II)I"⟩
abbrev cX7_columnFor : ByteArray := prog_1_method_22_code
def yX7_columnFor : MethodName := ⟨RX7, "columnFor", "(II)I"⟩
abbrev cX7_lasts : ByteArray := prog_1_method_23_code
def yX7_lasts : MethodName := ⟨RX7, "lasts", "(I)I"⟩
abbrev cX7_reached : ByteArray := prog_1_method_24_code
def yX7_reached : MethodName := ⟨RX7, "reached", "(I)I"⟩
abbrev cX7_help : ByteArray := prog_1_method_25_code
def yX7_help : MethodName := ⟨RX7, "help", "(I)I"⟩
abbrev cX7_cold : ByteArray := prog_1_method_26_code
def yX7_cold : MethodName := ⟨RX7, "cold", "()I"⟩
abbrev cX7_highest : ByteArray := prog_1_method_27_code
def yX7_highest : MethodName := ⟨RX7, "highest", "(I)I"⟩
abbrev cX7_seed : ByteArray := prog_1_method_28_code
def yX7_seed : MethodName := ⟨RX7, "seed", "(I)I"⟩
abbrev cX7_draw : ByteArray := prog_1_method_29_code
def yX7_draw : MethodName := ⟨RX7, "draw", "(I)I"⟩
abbrev cX7_prove : ByteArray := prog_1_method_30_code
def yX7_prove : MethodName := ⟨RX7, "prove", "(II)I"⟩
abbrev cX7_row : ByteArray := prog_1_method_31_code
def yX7_row : MethodName := ⟨RX7, "row", "(II)I"⟩
abbrev cX7_alterRow : ByteArray := prog_1_method_32_code
def yX7_alterRow : MethodName := ⟨RX7, "alterRow", "(III)I"⟩
abbrev cX7_judge : ByteArray := prog_1_method_33_code
def yX7_judge : MethodName := ⟨RX7, "judge", "(I)I"⟩
abbrev cX7_warms : ByteArray := prog_1_method_34_code
def yX7_warms : MethodName := ⟨RX7, "warms", "(IIII)I"⟩
abbrev cX7_sheet : ByteArray := prog_1_method_35_code
def yX7_sheet : MethodName := ⟨RX7, "sheet", "(III)I"⟩
abbrev cX7_put : ByteArray := prog_1_method_36_code
def yX7_put : MethodName := ⟨RX7, "put", "(III)I"⟩
abbrev cX7_item : ByteArray := prog_1_method_37_code
def yX7_item : MethodName := ⟨RX7, "item", "(III)I"⟩
abbrev cX7_shelf : ByteArray := prog_1_method_38_code
def yX7_shelf : MethodName := ⟨RX7, "shelf", "(III)I"⟩
abbrev cX7_taken : ByteArray := prog_1_method_39_code
def yX7_taken : MethodName := ⟨RX7, "taken", "(II)I"⟩
abbrev cX7_act : ByteArray := prog_1_method_40_code
def yX7_act : MethodName := ⟨RX7, "act", "(III)I"⟩
abbrev cX7_trace : ByteArray := prog_1_method_41_code
def yX7_trace : MethodName := ⟨RX7, "trace", "(I)I"⟩
abbrev cX7_many : ByteArray := prog_1_method_42_code
def yX7_many : MethodName := ⟨RX7, "many", "(I)I"⟩
abbrev cX7_keep : ByteArray := prog_1_method_43_code
def yX7_keep : MethodName := ⟨RX7, "keep", "()I"⟩
abbrev cX7_again : ByteArray := prog_1_method_44_code
def yX7_again : MethodName := ⟨RX7, "again", "()I"⟩
abbrev cX7_within : ByteArray := prog_1_method_45_code
def yX7_within : MethodName := ⟨RX7, "within", "(III)Z"⟩
abbrev cX7_held : ByteArray := prog_1_method_46_code
def yX7_held : MethodName := ⟨RX7, "held", "(III)I"⟩
abbrev cX7_fits : ByteArray := prog_1_method_47_code
def yX7_fits : MethodName := ⟨RX7, "fits", "(II)Z"⟩
abbrev cX7_isHour : ByteArray := prog_1_method_48_code
def yX7_isHour : MethodName := ⟨RX7, "isHour", "(I)Z"⟩
abbrev cX7_isSheet : ByteArray := prog_1_method_49_code
def yX7_isSheet : MethodName := ⟨RX7, "isSheet", "(I)Z"⟩
abbrev cX7_isShelf : ByteArray := prog_1_method_50_code
def yX7_isShelf : MethodName := ⟨RX7, "isShelf", "(I)Z"⟩
abbrev cX7_isUnder : ByteArray := prog_1_method_51_code
def yX7_isUnder : MethodName := ⟨RX7, "isUnder", "(II)Z"⟩
abbrev cX7_isRowPart : ByteArray := prog_1_method_52_code
def yX7_isRowPart : MethodName := ⟨RX7, "isRowPart", "(II)Z"⟩
abbrev cX7_isRowRight : ByteArray := prog_1_method_53_code
def yX7_isRowRight : MethodName := ⟨RX7, "isRowRight", "(II)Z"⟩
abbrev cX7_holdsBalloon : ByteArray := prog_1_method_54_code
def yX7_holdsBalloon : MethodName := ⟨RX7, "holdsBalloon", "(LBalloonTown$Shelf;)Z"⟩
def RX8 : String := "BalloonTownModel"
def TX8 : u_T := fun k => match k with
  | 0 => ("BalloonTownModel", "warmths", "[I", true)
  | 1 => ("BalloonTownModel", "gap", "I", false)
  | 2 => ("BalloonTownModel", "balloons", "I", false)
  | 3 => ("BalloonTownModel", "kinds", "[I", true)
  | 4 => ("BalloonTownModel", "own", "[I", true)
  | 5 => ("BalloonTownModel", "row", "[I", true)
  | 6 => ("BalloonTownModel", "at", "I", false)
  | 7 => ("BalloonTownModel", "colder", "I", false)
  | 8 => ("BalloonTownModel", "z", "I", false)
  | 9 => ("BalloonTownModel", "tape", "[I", true)
  | 10 => ("BalloonTownModel", "tapeMany", "I", false)
  | 11 => ("BalloonTownModel", "sort", "I", false)
  | 12 => ("BalloonTownModel", "begins", "I", false)
  | 13 => ("BalloonTownModel", "tokenEnds", "I", false)
  | 14 => ("BalloonTownModel", "word", "J", false)
  | 15 => ("BalloonTownModel", "value", "I", false)
  | 16 => ("BalloonTownModel", "good", "Z", false)
  | 17 => ("BalloonTownModel", "freshMany", "I", false)
  | 18 => ("BalloonTownModel", "freshGap", "I", false)
  | 19 => ("BalloonTownModel", "freshKinds", "[I", true)
  | 20 => ("BalloonTownModel", "freshOwn", "[I", true)
  | 21 => ("BalloonTownModel", "freshParts", "[I", true)
  | 22 => ("BalloonTownModel", "freshWarmths", "[I", true)
  | 23 => ("BalloonTownModel", "rows", "[I", true)
  | 24 => ("BalloonTownModel", "must", "[I", true)
  | 25 => ("BalloonTownModel", "rowMany", "I", false)
  | 26 => ("BalloonTownModel", "mustMany", "I", false)
  | 27 => ("BalloonTownModel", "sorts", "[I", true)
  | 28 => ("BalloonTownModel", "sizes", "[I", true)
  | 29 => ("BalloonTownModel", "sheets", "[J", true)
  | 30 => ("BalloonTownModel", "held", "[I", true)
  | 31 => ("BalloonTownModel", "heldNumber", "[I", true)
  | 32 => ("BalloonTownModel", "heldSize", "[I", true)
  | 33 => ("BalloonTownModel", "kind", "I", false)
  | 34 => ("BalloonTownModel", "number", "I", false)
  | 35 => ("BalloonTownModel", "ownA", "I", false)
  | 36 => ("BalloonTownModel", "traced", "[I", true)
  | 37 => ("BalloonTownModel", "bodies", "I", false)
  | 38 => ("BalloonTownModel", "isParted", "Z", false)
  | 39 => ("BalloonTownModel", "isKept", "Z", false)
  | 40 => ("BalloonTownModel", "keptRow", "[I", true)
  | 41 => ("BalloonTownModel", "movedTo", "I", false)
  | _ => ("BalloonTownModel", "single", "[I", true)
def tyX8 : Nat → FieldType := fun k => match k with
  | 0 => .array .int
  | 1 => .int
  | 2 => .int
  | 3 => .array .int
  | 4 => .array .int
  | 5 => .array .int
  | 6 => .int
  | 7 => .int
  | 8 => .int
  | 9 => .array .int
  | 10 => .int
  | 11 => .int
  | 12 => .int
  | 13 => .int
  | 14 => .long
  | 15 => .int
  | 16 => .boolean
  | 17 => .int
  | 18 => .int
  | 19 => .array .int
  | 20 => .array .int
  | 21 => .array .int
  | 22 => .array .int
  | 23 => .array .int
  | 24 => .array .int
  | 25 => .int
  | 26 => .int
  | 27 => .array .int
  | 28 => .array .int
  | 29 => .array .long
  | 30 => .array .int
  | 31 => .array .int
  | 32 => .array .int
  | 33 => .int
  | 34 => .int
  | 35 => .int
  | 36 => .array .int
  | 37 => .int
  | 38 => .boolean
  | 39 => .boolean
  | 40 => .array .int
  | 41 => .int
  | _ => .array .int
abbrev wsX80 : List Cond := u_ws RX8 TX8 43
theorem nmX8 : ∀ a, a < 43 → ∀ b, b < 43 → a ≠ b → (TX8 a).2.1 ≠ (TX8 b).2.1 := by decide +kernel
theorem tyX8_ok : ∀ k, k < 43 → parseFieldDescriptor (TX8 k).2.2.1 = some (tyX8 k) := by decide +kernel
abbrev cX8_init : ByteArray := prog_10_method_1_code
def yX8_init : MethodName := ⟨RX8, "<init>", "()V"⟩
abbrev cX8_in : ByteArray := prog_10_method_2_code
def yX8_in : MethodName := ⟨RX8, "in", "(III)Z"⟩
abbrev cX8_isHour : ByteArray := prog_10_method_3_code
def yX8_isHour : MethodName := ⟨RX8, "isHour", "(I)Z"⟩
abbrev cX8_isBalloon : ByteArray := prog_10_method_4_code
def yX8_isBalloon : MethodName := ⟨RX8, "isBalloon", "(I)Z"⟩
abbrev cX8_isKind : ByteArray := prog_10_method_5_code
def yX8_isKind : MethodName := ⟨RX8, "isKind", "(II)Z"⟩
abbrev cX8_isPart : ByteArray := prog_10_method_6_code
def yX8_isPart : MethodName := ⟨RX8, "isPart", "(II)Z"⟩
abbrev cX8_its : ByteArray := prog_10_method_7_code
def yX8_its : MethodName := ⟨RX8, "its", "(II)I"⟩
abbrev cX8_sets : ByteArray := prog_10_method_8_code
def yX8_sets : MethodName := ⟨RX8, "sets", "(III)V"⟩
abbrev cX8_feed : ByteArray := prog_10_method_9_code
def yX8_feed : MethodName := ⟨RX8, "feed", "(JI)I"⟩
abbrev cX8_byteAt : ByteArray := prog_10_method_10_code
def yX8_byteAt : MethodName := ⟨RX8, "byteAt", "(I)I"⟩
abbrev cX8_isLetter : ByteArray := prog_10_method_11_code
def yX8_isLetter : MethodName := ⟨RX8, "isLetter", "(I)Z"⟩
abbrev cX8_isDigit : ByteArray := prog_10_method_12_code
def yX8_isDigit : MethodName := ⟨RX8, "isDigit", "(I)Z"⟩
abbrev cX8_advance : ByteArray := prog_10_method_13_code
def yX8_advance : MethodName := ⟨RX8, "advance", "()V"⟩
abbrev cX8_isWord : ByteArray := prog_10_method_14_code
def yX8_isWord : MethodName := ⟨RX8, "isWord", "(J)Z"⟩
abbrev cX8_isMark : ByteArray := prog_10_method_15_code
def yX8_isMark : MethodName := ⟨RX8, "isMark", "(I)Z"⟩
abbrev cX8_kindHere : ByteArray := prog_10_method_16_code
def yX8_kindHere : MethodName := ⟨RX8, "kindHere", "()I"⟩
abbrev cX8_wantNumber : ByteArray := prog_10_method_17_code
def yX8_wantNumber : MethodName := ⟨RX8, "wantNumber", "(II)I"⟩
abbrev cX8_wantEnd : ByteArray := prog_10_method_18_code
def yX8_wantEnd : MethodName := ⟨RX8, "wantEnd", "()V"⟩
abbrev cX8_mayWant : ByteArray := prog_10_method_19_code
def yX8_mayWant : MethodName := ⟨RX8, "mayWant", "(JIII)I"⟩
abbrev cX8_wantBalloon : ByteArray := prog_10_method_20_code
def yX8_wantBalloon : MethodName := ⟨RX8, "wantBalloon", "(I)V"⟩
abbrev cX8_wantWarmth : ByteArray := prog_10_method_21_code
def yX8_wantWarmth : MethodName := ⟨RX8, "wantWarmth", "(Z)V"⟩
abbrev cX8_wantClause : ByteArray := prog_10_method_22_code
def yX8_wantClause : MethodName := ⟨RX8, "wantClause", "()V"⟩
abbrev cX8_town : ByteArray := prog_10_method_23_code
def yX8_town : MethodName := ⟨RX8, "town", "()I"⟩
abbrev cX8_isWarmth : ByteArray := prog_10_method_24_code
def yX8_isWarmth : MethodName := ⟨RX8, "isWarmth", "(I)Z"⟩
abbrev cX8_warmth : ByteArray := prog_10_method_25_code
def yX8_warmth : MethodName := ⟨RX8, "warmth", "(I)I"⟩
abbrev cX8_warm : ByteArray := prog_10_method_26_code
def yX8_warm : MethodName := ⟨RX8, "warm", "(II)I"⟩
abbrev cX8_gap : ByteArray := prog_10_method_27_code
def yX8_gap : MethodName := ⟨RX8, "gap", "(I)I"⟩
abbrev cX8_balloon : ByteArray := prog_10_method_28_code
def yX8_balloon : MethodName := ⟨RX8, "balloon", "(III)I"⟩
abbrev cX8_weight : ByteArray := prog_10_method_29_code
def yX8_weight : MethodName := ⟨RX8, "weight", "(I)I"⟩
abbrev cX8_hourNow : ByteArray := prog_10_method_30_code
def yX8_hourNow : MethodName := ⟨RX8, "hourNow", "()I"⟩
abbrev cX8_lift : ByteArray := prog_10_method_31_code
def yX8_lift : MethodName := ⟨RX8, "lift", "(I)I"⟩
abbrev cX8_target : ByteArray := prog_10_method_32_code
def yX8_target : MethodName := ⟨RX8, "target", "(I)I"⟩
abbrev cX8_leaks : ByteArray := prog_10_method_33_code
def yX8_leaks : MethodName := ⟨RX8, "leaks", "(I)I"⟩
abbrev cX8_balloonOf : ByteArray := prog_10_method_34_code
def yX8_balloonOf : MethodName := ⟨RX8, "balloonOf", "(II)I"⟩
abbrev cX8_becomes : ByteArray := prog_10_method_35_code
def yX8_becomes : MethodName := ⟨RX8, "becomes", "(III)I"⟩
abbrev cX8_mind : ByteArray := prog_10_method_36_code
def yX8_mind : MethodName := ⟨RX8, "mind", "(III)I"⟩
abbrev cX8_pour : ByteArray := prog_10_method_37_code
def yX8_pour : MethodName := ⟨RX8, "pour", "(II)I"⟩
abbrev cX8_isOver : ByteArray := prog_10_method_38_code
def yX8_isOver : MethodName := ⟨RX8, "isOver", "(II)Z"⟩
abbrev cX8_nextTo : ByteArray := prog_10_method_39_code
def yX8_nextTo : MethodName := ⟨RX8, "nextTo", "(IZ)I"⟩
abbrev cX8_above : ByteArray := prog_10_method_40_code
def yX8_above : MethodName := ⟨RX8, "above", "(II)I"⟩
abbrev cX8_apart : ByteArray := prog_10_method_41_code
def yX8_apart : MethodName := ⟨RX8, "apart", "(II)I"⟩
abbrev cX8_reach : ByteArray := prog_10_method_42_code
def yX8_reach : MethodName := ⟨RX8, "reach", "(I)I"⟩
abbrev cX8_reached : ByteArray := prog_10_method_43_code
def yX8_reached : MethodName := ⟨RX8, "reached", "(I)I"⟩
abbrev cX8_canGive : ByteArray := prog_10_method_44_code
def yX8_canGive : MethodName := ⟨RX8, "canGive", "(IIII)Z"⟩
abbrev cX8_gives : ByteArray := prog_10_method_45_code
def yX8_gives : MethodName := ⟨RX8, "gives", "(IIII)V"⟩
abbrev cX8_give : ByteArray := prog_10_method_46_code
def yX8_give : MethodName := ⟨RX8, "give", "(IIII)I"⟩
abbrev cX8_isTouch : ByteArray := prog_10_method_47_code
def yX8_isTouch : MethodName := ⟨RX8, "isTouch", "(II)Z"⟩
abbrev cX8_touchSet : ByteArray := prog_10_method_48_code
def yX8_touchSet : MethodName := ⟨RX8, "touchSet", "(I)I"⟩
abbrev cX8_ones : ByteArray := prog_10_method_49_code
def yX8_ones : MethodName := ⟨RX8, "ones", "(I)I"⟩
abbrev cX8_pairs : ByteArray := prog_10_method_50_code
def yX8_pairs : MethodName := ⟨RX8, "pairs", "()I"⟩
abbrev cX8_touches : ByteArray := prog_10_method_51_code
def yX8_touches : MethodName := ⟨RX8, "touches", "(I)I"⟩
abbrev cX8_nearer : ByteArray := prog_10_method_52_code
def yX8_nearer : MethodName := ⟨RX8, "nearer", "(II)I"⟩
abbrev cX8_hourGoes : ByteArray := prog_10_method_53_code
def yX8_hourGoes : MethodName := ⟨RX8, "hourGoes", "()V"⟩
abbrev cX8_goesOn : ByteArray := prog_10_method_54_code
def yX8_goesOn : MethodName := ⟨RX8, "goesOn", "()Z"⟩
abbrev cX8_go : ByteArray := prog_10_method_55_code
def yX8_go : MethodName := ⟨RX8, "go", "(I)V"⟩
abbrev cX8_isTrial : ByteArray := prog_10_method_56_code
def yX8_isTrial : MethodName := ⟨RX8, "isTrial", "(I)Z"⟩
abbrev cX8_isSoon : ByteArray := prog_10_method_57_code
def yX8_isSoon : MethodName := ⟨RX8, "isSoon", "(I)Z"⟩
abbrev cX8_hours : ByteArray := prog_10_method_58_code
def yX8_hours : MethodName := ⟨RX8, "hours", "(I)I"⟩
abbrev cX8_clock : ByteArray := prog_10_method_59_code
def yX8_clock : MethodName := ⟨RX8, "clock", "(I)I"⟩
abbrev cX8_lends : ByteArray := prog_10_method_60_code
def yX8_lends : MethodName := ⟨RX8, "lends", "()V"⟩
abbrev cX8_height : ByteArray := prog_10_method_61_code
def yX8_height : MethodName := ⟨RX8, "height", "(II)I"⟩
abbrev cX8_firstPair : ByteArray := prog_10_method_62_code
def yX8_firstPair : MethodName := ⟨RX8, "firstPair", "()I"⟩
abbrev cX8_first : ByteArray := prog_10_method_63_code
def yX8_first : MethodName := ⟨RX8, "first", "(I)I"⟩
abbrev cX8_isClear : ByteArray := prog_10_method_64_code
def yX8_isClear : MethodName := ⟨RX8, "isClear", "(II)Z"⟩
abbrev cX8_isClearWith : ByteArray := prog_10_method_65_code
def yX8_isClearWith : MethodName := ⟨RX8, "isClearWith", "(IIII)Z"⟩
abbrev cX8_clear : ByteArray := prog_10_method_66_code
def yX8_clear : MethodName := ⟨RX8, "clear", "(II)I"⟩
abbrev cX8_leastSand : ByteArray := prog_10_method_67_code
def yX8_leastSand : MethodName := ⟨RX8, "leastSand", "(II)I"⟩
abbrev cX8_ropeFor : ByteArray := prog_10_method_68_code
def yX8_ropeFor : MethodName := ⟨RX8, "ropeFor", "(II)I"⟩
abbrev cX8_columnFor : ByteArray := prog_10_method_69_code
def yX8_columnFor : MethodName := ⟨RX8, "columnFor", "(II)I"⟩
abbrev cX8_lasts : ByteArray := prog_10_method_70_code
def yX8_lasts : MethodName := ⟨RX8, "lasts", "(I)I"⟩
abbrev cX8_pairsBehind : ByteArray := prog_10_method_71_code
def yX8_pairsBehind : MethodName := ⟨RX8, "pairsBehind", "(I)I"⟩
abbrev cX8_help : ByteArray := prog_10_method_72_code
def yX8_help : MethodName := ⟨RX8, "help", "(I)I"⟩
abbrev cX8_cold : ByteArray := prog_10_method_73_code
def yX8_cold : MethodName := ⟨RX8, "cold", "()I"⟩
abbrev cX8_highest : ByteArray := prog_10_method_74_code
def yX8_highest : MethodName := ⟨RX8, "highest", "(I)I"⟩
abbrev cX8_seed : ByteArray := prog_10_method_75_code
def yX8_seed : MethodName := ⟨RX8, "seed", "(I)I"⟩
abbrev cX8_draw : ByteArray := prog_10_method_76_code
def yX8_draw : MethodName := ⟨RX8, "draw", "(I)I"⟩
abbrev cX8_findRows : ByteArray := prog_10_method_77_code
def yX8_findRows : MethodName := ⟨RX8, "findRows", "(II)V"⟩
abbrev cX8_prove : ByteArray := prog_10_method_78_code
def yX8_prove : MethodName := ⟨RX8, "prove", "(II)I"⟩
abbrev cX8_isRow : ByteArray := prog_10_method_79_code
def yX8_isRow : MethodName := ⟨RX8, "isRow", "(II)Z"⟩
abbrev cX8_row : ByteArray := prog_10_method_80_code
def yX8_row : MethodName := ⟨RX8, "row", "(II)I"⟩
abbrev cX8_alterRow : ByteArray := prog_10_method_81_code
def yX8_alterRow : MethodName := ⟨RX8, "alterRow", "(III)I"⟩
abbrev cX8_judge : ByteArray := prog_10_method_82_code
def yX8_judge : MethodName := ⟨RX8, "judge", "(I)I"⟩
abbrev cX8_warms : ByteArray := prog_10_method_83_code
def yX8_warms : MethodName := ⟨RX8, "warms", "(IIII)I"⟩
abbrev cX8_isShelf : ByteArray := prog_10_method_84_code
def yX8_isShelf : MethodName := ⟨RX8, "isShelf", "(I)Z"⟩
abbrev cX8_sheet : ByteArray := prog_10_method_85_code
def yX8_sheet : MethodName := ⟨RX8, "sheet", "(III)I"⟩
abbrev cX8_put : ByteArray := prog_10_method_86_code
def yX8_put : MethodName := ⟨RX8, "put", "(III)I"⟩
abbrev cX8_lacksSort : ByteArray := prog_10_method_87_code
def yX8_lacksSort : MethodName := ⟨RX8, "lacksSort", "(II)I"⟩
abbrev cX8_item : ByteArray := prog_10_method_88_code
def yX8_item : MethodName := ⟨RX8, "item", "(III)I"⟩
abbrev cX8_isHeld : ByteArray := prog_10_method_89_code
def yX8_isHeld : MethodName := ⟨RX8, "isHeld", "(II)Z"⟩
abbrev cX8_shelf : ByteArray := prog_10_method_90_code
def yX8_shelf : MethodName := ⟨RX8, "shelf", "(III)I"⟩
abbrev cX8_kindOn : ByteArray := prog_10_method_91_code
def yX8_kindOn : MethodName := ⟨RX8, "kindOn", "(I)I"⟩
abbrev cX8_isUnder : ByteArray := prog_10_method_92_code
def yX8_isUnder : MethodName := ⟨RX8, "isUnder", "(II)Z"⟩
abbrev cX8_taken : ByteArray := prog_10_method_93_code
def yX8_taken : MethodName := ⟨RX8, "taken", "(II)I"⟩
abbrev cX8_ran : ByteArray := prog_10_method_94_code
def yX8_ran : MethodName := ⟨RX8, "ran", "(I)V"⟩
abbrev cX8_plainLifts : ByteArray := prog_10_method_95_code
def yX8_plainLifts : MethodName := ⟨RX8, "plainLifts", "(I)I"⟩
abbrev cX8_leakyLifts : ByteArray := prog_10_method_96_code
def yX8_leakyLifts : MethodName := ⟨RX8, "leakyLifts", "(I)I"⟩
abbrev cX8_liftsIt : ByteArray := prog_10_method_97_code
def yX8_liftsIt : MethodName := ⟨RX8, "liftsIt", "(I)I"⟩
abbrev cX8_plainSinks : ByteArray := prog_10_method_98_code
def yX8_plainSinks : MethodName := ⟨RX8, "plainSinks", "(I)I"⟩
abbrev cX8_sinksIt : ByteArray := prog_10_method_99_code
def yX8_sinksIt : MethodName := ⟨RX8, "sinksIt", "(I)I"⟩
abbrev cX8_plainShares : ByteArray := prog_10_method_100_code
def yX8_plainShares : MethodName := ⟨RX8, "plainShares", "(I)I"⟩
abbrev cX8_sharesIt : ByteArray := prog_10_method_101_code
def yX8_sharesIt : MethodName := ⟨RX8, "sharesIt", "(I)I"⟩
abbrev cX8_plainTells : ByteArray := prog_10_method_102_code
def yX8_plainTells : MethodName := ⟨RX8, "plainTells", "(I)I"⟩
abbrev cX8_tellsIt : ByteArray := prog_10_method_103_code
def yX8_tellsIt : MethodName := ⟨RX8, "tellsIt", "(I)I"⟩
abbrev cX8_act : ByteArray := prog_10_method_104_code
def yX8_act : MethodName := ⟨RX8, "act", "(III)I"⟩
abbrev cX8_trace : ByteArray := prog_10_method_105_code
def yX8_trace : MethodName := ⟨RX8, "trace", "(I)I"⟩
abbrev cX8_many : ByteArray := prog_10_method_106_code
def yX8_many : MethodName := ⟨RX8, "many", "(I)I"⟩
abbrev cX8_moveRow : ByteArray := prog_10_method_107_code
def yX8_moveRow : MethodName := ⟨RX8, "moveRow", "([IIZ)V"⟩
abbrev cX8_moveAll : ByteArray := prog_10_method_108_code
def yX8_moveAll : MethodName := ⟨RX8, "moveAll", "(Z)V"⟩
abbrev cX8_keep : ByteArray := prog_10_method_109_code
def yX8_keep : MethodName := ⟨RX8, "keep", "()I"⟩
abbrev cX8_again : ByteArray := prog_10_method_110_code
def yX8_again : MethodName := ⟨RX8, "again", "()I"⟩
def RJ6 : String := "java/lang/Integer"
def TJ6 : u_T := fun k => match k with
  | _ => ("", "", "", false)
def tyJ6 : Nat → FieldType := fun k => match k with
  | _ => .int
abbrev wsJ60 : List Cond := u_ws RJ6 TJ6 0
theorem nmJ6 : ∀ a, a < 0 → ∀ b, b < 0 → a ≠ b → (TJ6 a).2.1 ≠ (TJ6 b).2.1 := by decide +kernel
theorem tyJ6_ok : ∀ k, k < 0 → parseFieldDescriptor (TJ6 k).2.2.1 = some (tyJ6 k) := by decide +kernel
abbrev cJ6_bitCount_0f7a4 : ByteArray := prog_11_method_49_code
def yJ6_bitCount_0f7a4 : MethodName := ⟨RJ6, "bitCount", "(I)I"⟩
def RJ9 : String := "java/lang/Math"
def TJ9 : u_T := fun k => match k with
  | _ => ("", "", "", false)
def tyJ9 : Nat → FieldType := fun k => match k with
  | _ => .int
abbrev wsJ90 : List Cond := u_ws RJ9 TJ9 0
theorem nmJ9 : ∀ a, a < 0 → ∀ b, b < 0 → a ≠ b → (TJ9 a).2.1 ≠ (TJ9 b).2.1 := by decide +kernel
theorem tyJ9_ok : ∀ k, k < 0 → parseFieldDescriptor (TJ9 k).2.2.1 = some (tyJ9 k) := by decide +kernel
abbrev cJ9_abs_0f7a4 : ByteArray := prog_12_method_59_code
def yJ9_abs_0f7a4 : MethodName := ⟨RJ9, "abs", "(I)I"⟩
abbrev cJ9_max_7cf53 : ByteArray := prog_12_method_65_code
def yJ9_max_7cf53 : MethodName := ⟨RJ9, "max", "(II)I"⟩
abbrev cJ9_min_7cf53 : ByteArray := prog_12_method_69_code
def yJ9_min_7cf53 : MethodName := ⟨RJ9, "min", "(II)I"⟩
def RJ0 : String := "java/lang/String"
def TJ0 : u_T := fun k => match k with
  | _ => ("", "", "", false)
def tyJ0 : Nat → FieldType := fun k => match k with
  | _ => .int
abbrev wsJ00 : List Cond := u_ws RJ0 TJ0 0
theorem nmJ0 : ∀ a, a < 0 → ∀ b, b < 0 → a ≠ b → (TJ0 a).2.1 ≠ (TJ0 b).2.1 := by decide +kernel
theorem tyJ0_ok : ∀ k, k < 0 → parseFieldDescriptor (TJ0 k).2.2.1 = some (tyJ0 k) := by decide +kernel
abbrev cJ0_length_8abf5 : ByteArray := prog_13_method_54_code
def yJ0_length_8abf5 : MethodName := ⟨RJ0, "length", "()I"⟩
abbrev cJ0_charAt_5068e : ByteArray := prog_13_method_56_code
def yJ0_charAt_5068e : MethodName := ⟨RJ0, "charAt", "(I)C"⟩
abbrev cJ0_coder_7d493 : ByteArray := prog_13_method_152_code
def yJ0_coder_7d493 : MethodName := ⟨RJ0, "coder", "()B"⟩
abbrev cJ0_isLatin1_aae02 : ByteArray := prog_13_method_154_code
def yJ0_isLatin1_aae02 : MethodName := ⟨RJ0, "isLatin1", "()Z"⟩
abbrev cJ0_checkIndex_df160 : ByteArray := prog_13_method_155_code
def yJ0_checkIndex_df160 : MethodName := ⟨RJ0, "checkIndex", "(II)V"⟩
def RJ1 : String := "java/lang/StringLatin1"
def TJ1 : u_T := fun k => match k with
  | _ => ("", "", "", false)
def tyJ1 : Nat → FieldType := fun k => match k with
  | _ => .int
abbrev wsJ10 : List Cond := u_ws RJ1 TJ1 0
theorem nmJ1 : ∀ a, a < 0 → ∀ b, b < 0 → a ≠ b → (TJ1 a).2.1 ≠ (TJ1 b).2.1 := by decide +kernel
theorem tyJ1_ok : ∀ k, k < 0 → parseFieldDescriptor (TJ1 k).2.2.1 = some (tyJ1 k) := by decide +kernel
abbrev cJ1_charAt_3b067 : ByteArray := prog_14_method_2_code
def yJ1_charAt_3b067 : MethodName := ⟨RJ1, "charAt", "([BI)C"⟩
def RJ2 : String := "java/lang/StringUTF16"
def TJ2 : u_T := fun k => match k with
  | _ => ("", "", "", false)
def tyJ2 : Nat → FieldType := fun k => match k with
  | _ => .int
abbrev wsJ20 : List Cond := u_ws RJ2 TJ2 0
theorem nmJ2 : ∀ a, a < 0 → ∀ b, b < 0 → a ≠ b → (TJ2 a).2.1 ≠ (TJ2 b).2.1 := by decide +kernel
theorem tyJ2_ok : ∀ k, k < 0 → parseFieldDescriptor (TJ2 k).2.2.1 = some (tyJ2 k) := by decide +kernel
abbrev cJ2_getChar_3b067 : ByteArray := prog_15_method_5_code
def yJ2_getChar_3b067 : MethodName := ⟨RJ2, "getChar", "([BI)C"⟩
abbrev cJ2_length_9d52b : ByteArray := prog_15_method_6_code
def yJ2_length_9d52b : MethodName := ⟨RJ2, "length", "([B)I"⟩
abbrev cJ2_charAt_3b067 : ByteArray := prog_15_method_83_code
def yJ2_charAt_3b067 : MethodName := ⟨RJ2, "charAt", "([BI)C"⟩
abbrev cJ2_checkIndex_2214a : ByteArray := prog_15_method_91_code
def yJ2_checkIndex_2214a : MethodName := ⟨RJ2, "checkIndex", "(I[B)V"⟩
def RJ10 : String := "java/lang/System"
def TJ10 : u_T := fun k => match k with
  | _ => ("", "", "", false)
def tyJ10 : Nat → FieldType := fun k => match k with
  | _ => .int
abbrev wsJ100 : List Cond := u_ws RJ10 TJ10 0
theorem nmJ10 : ∀ a, a < 0 → ∀ b, b < 0 → a ≠ b → (TJ10 a).2.1 ≠ (TJ10 b).2.1 := by decide +kernel
theorem tyJ10_ok : ∀ k, k < 0 → parseFieldDescriptor (TJ10 k).2.2.1 = some (tyJ10 k) := by decide +kernel
def RJ3 : String := "jdk/internal/util/Preconditions"
def TJ3 : u_T := fun k => match k with
  | _ => ("", "", "", false)
def tyJ3 : Nat → FieldType := fun k => match k with
  | _ => .int
abbrev wsJ30 : List Cond := u_ws RJ3 TJ3 0
theorem nmJ3 : ∀ a, a < 0 → ∀ b, b < 0 → a ≠ b → (TJ3 a).2.1 ≠ (TJ3 b).2.1 := by decide +kernel
theorem tyJ3_ok : ∀ k, k < 0 → parseFieldDescriptor (TJ3 k).2.2.1 = some (tyJ3 k) := by decide +kernel
abbrev cJ3_checkIndex_8e157 : ByteArray := prog_17_method_11_code
def yJ3_checkIndex_8e157 : MethodName := ⟨RJ3, "checkIndex", "(IILjava/util/function/BiFunction;)I"⟩
def RL : String := "BalloonTownLaw"
abbrev cL_law : ByteArray := code
def yL_law : MethodName := ⟨RL, "law", "([I)Z"⟩
set_option maxRecDepth 20000 in
theorem inX0 : ∀ w ∈ wsX00, w ∈ lw_tbl := by decide +kernel
set_option maxRecDepth 20000 in
theorem inX1 : ∀ w ∈ wsX10, w ∈ lw_tbl := by decide +kernel
set_option maxRecDepth 20000 in
theorem inX2 : ∀ w ∈ wsX20, w ∈ lw_tbl := by decide +kernel
set_option maxRecDepth 20000 in
theorem inX3 : ∀ w ∈ wsX30, w ∈ lw_tbl := by decide +kernel
set_option maxRecDepth 20000 in
theorem inX4 : ∀ w ∈ wsX40, w ∈ lw_tbl := by decide +kernel
set_option maxRecDepth 20000 in
theorem inX5 : ∀ w ∈ wsX50, w ∈ lw_tbl := by decide +kernel
set_option maxRecDepth 20000 in
theorem inX6 : ∀ w ∈ wsX60, w ∈ lw_tbl := by decide +kernel
set_option maxRecDepth 20000 in
theorem inX7 : ∀ w ∈ wsX70, w ∈ lw_tbl := by decide +kernel
set_option maxRecDepth 20000 in
theorem inX8 : ∀ w ∈ wsX80, w ∈ lw_tbl := by decide +kernel
abbrev vwCl : List vw_C := [(RX0, TX0, 6), (RX1, TX1, 1), (RX2, TX2, 3), (RX3, TX3, 4), (RX4, TX4, 6), (RX5, TX5, 6), (RX6, TX6, 6), (RX7, TX7, 11), (RX8, TX8, 43)]
end
section
theorem dX0_init_0 : decode cX0_init 0 = .ok (.aload_n 0, 1) := by decide +kernel
theorem dX0_init_1 : decode cX0_init 1 = .ok (.invokespecial 3, 3) := by decide +kernel
theorem dX0_init_4 : decode cX0_init 4 = .ok (.aload_n 0, 1) := by decide +kernel
theorem dX0_init_5 : decode cX0_init 5 = .ok (.bipush 30, 2) := by decide +kernel
theorem dX0_init_7 : decode cX0_init 7 = .ok (.newarray .int, 2) := by decide +kernel
theorem dX0_init_9 : decode cX0_init 9 = .ok (.putfield 9, 3) := by decide +kernel
theorem dX0_init_12 : decode cX0_init 12 = .ok (.aload_n 0, 1) := by decide +kernel
theorem dX0_init_13 : decode cX0_init 13 = .ok (.iconst 0, 1) := by decide +kernel
theorem dX0_init_14 : decode cX0_init 14 = .ok (.putfield 15, 3) := by decide +kernel
theorem dX0_init_17 : decode cX0_init 17 = .ok (.aload_n 0, 1) := by decide +kernel
theorem dX0_init_18 : decode cX0_init 18 = .ok (.iconst 0, 1) := by decide +kernel
theorem dX0_init_19 : decode cX0_init 19 = .ok (.putfield 19, 3) := by decide +kernel
theorem dX0_init_22 : decode cX0_init 22 = .ok (.aload_n 0, 1) := by decide +kernel
theorem dX0_init_23 : decode cX0_init 23 = .ok (.iconst 0, 1) := by decide +kernel
theorem dX0_init_24 : decode cX0_init 24 = .ok (.putfield 23, 3) := by decide +kernel
theorem dX0_init_27 : decode cX0_init 27 = .ok (.aload_n 0, 1) := by decide +kernel
theorem dX0_init_28 : decode cX0_init 28 = .ok (.iconst 0, 1) := by decide +kernel
theorem dX0_init_29 : decode cX0_init 29 = .ok (.putfield 26, 3) := by decide +kernel
theorem dX0_init_32 : decode cX0_init 32 = .ok (.aload_n 0, 1) := by decide +kernel
theorem dX0_init_33 : decode cX0_init 33 = .ok (.iconst 0, 1) := by decide +kernel
theorem dX0_init_34 : decode cX0_init 34 = .ok (.putfield 29, 3) := by decide +kernel
theorem dX0_init_37 : decode cX0_init 37 = .ok (.return_, 1) := by decide +kernel
theorem dX0_forget_0 : decode cX0_forget 0 = .ok (.aload_n 0, 1) := by decide +kernel
theorem dX0_forget_1 : decode cX0_forget 1 = .ok (.iconst 0, 1) := by decide +kernel
theorem dX0_forget_2 : decode cX0_forget 2 = .ok (.putfield 15, 3) := by decide +kernel
theorem dX0_forget_5 : decode cX0_forget 5 = .ok (.aload_n 0, 1) := by decide +kernel
theorem dX0_forget_6 : decode cX0_forget 6 = .ok (.iconst 0, 1) := by decide +kernel
theorem dX0_forget_7 : decode cX0_forget 7 = .ok (.putfield 19, 3) := by decide +kernel
theorem dX0_forget_10 : decode cX0_forget 10 = .ok (.return_, 1) := by decide +kernel
theorem dX0_answer_0 : decode cX0_answer 0 = .ok (.aload_n 0, 1) := by decide +kernel
theorem dX0_answer_1 : decode cX0_answer 1 = .ok (.aload_n 1, 1) := by decide +kernel
theorem dX0_answer_2 : decode cX0_answer 2 = .ok (.getfield 32, 3) := by decide +kernel
theorem dX0_answer_5 : decode cX0_answer 5 = .ok (.iconst 0, 1) := by decide +kernel
theorem dX0_answer_6 : decode cX0_answer 6 = .ok (.iaload, 1) := by decide +kernel
theorem dX0_answer_7 : decode cX0_answer 7 = .ok (.putfield 23, 3) := by decide +kernel
theorem dX0_answer_10 : decode cX0_answer 10 = .ok (.aload_n 0, 1) := by decide +kernel
theorem dX0_answer_11 : decode cX0_answer 11 = .ok (.aload_n 1, 1) := by decide +kernel
theorem dX0_answer_12 : decode cX0_answer 12 = .ok (.getfield 32, 3) := by decide +kernel
theorem dX0_answer_15 : decode cX0_answer 15 = .ok (.iconst 1, 1) := by decide +kernel
theorem dX0_answer_16 : decode cX0_answer 16 = .ok (.iaload, 1) := by decide +kernel
theorem dX0_answer_17 : decode cX0_answer 17 = .ok (.putfield 29, 3) := by decide +kernel
theorem dX0_answer_20 : decode cX0_answer 20 = .ok (.aload_n 0, 1) := by decide +kernel
theorem dX0_answer_21 : decode cX0_answer 21 = .ok (.iload_n 2, 1) := by decide +kernel
theorem dX0_answer_22 : decode cX0_answer 22 = .ok (.putfield 26, 3) := by decide +kernel
theorem dX0_answer_25 : decode cX0_answer 25 = .ok (.iconst 0, 1) := by decide +kernel
theorem dX0_answer_26 : decode cX0_answer 26 = .ok (.istore 5, 2) := by decide +kernel
theorem dX0_answer_28 : decode cX0_answer 28 = .ok (.iload_n 3, 1) := by decide +kernel
theorem dX0_answer_29 : decode cX0_answer 29 = .ok (.tableswitch 60 0 2 #[27, 38, 49], 27) := by decide +kernel
theorem dX0_answer_56 : decode cX0_answer 56 = .ok (.aload_n 0, 1) := by decide +kernel
theorem dX0_answer_57 : decode cX0_answer 57 = .ok (.iload 4, 2) := by decide +kernel
theorem dX0_answer_59 : decode cX0_answer 59 = .ok (.invokevirtual 37, 3) := by decide +kernel
theorem dX0_answer_62 : decode cX0_answer 62 = .ok (.istore 5, 2) := by decide +kernel
theorem dX0_answer_64 : decode cX0_answer 64 = .ok (.goto 33, 3) := by decide +kernel
theorem dX0_answer_67 : decode cX0_answer 67 = .ok (.aload_n 0, 1) := by decide +kernel
theorem dX0_answer_68 : decode cX0_answer 68 = .ok (.iload 4, 2) := by decide +kernel
theorem dX0_answer_70 : decode cX0_answer 70 = .ok (.invokevirtual 41, 3) := by decide +kernel
theorem dX0_answer_73 : decode cX0_answer 73 = .ok (.istore 5, 2) := by decide +kernel
theorem dX0_answer_75 : decode cX0_answer 75 = .ok (.goto 22, 3) := by decide +kernel
theorem dX0_answer_78 : decode cX0_answer 78 = .ok (.aload_n 0, 1) := by decide +kernel
theorem dX0_answer_79 : decode cX0_answer 79 = .ok (.iload 4, 2) := by decide +kernel
theorem dX0_answer_81 : decode cX0_answer 81 = .ok (.invokevirtual 44, 3) := by decide +kernel
theorem dX0_answer_84 : decode cX0_answer 84 = .ok (.istore 5, 2) := by decide +kernel
theorem dX0_answer_86 : decode cX0_answer 86 = .ok (.goto 11, 3) := by decide +kernel
theorem dX0_answer_89 : decode cX0_answer 89 = .ok (.aload_n 0, 1) := by decide +kernel
theorem dX0_answer_90 : decode cX0_answer 90 = .ok (.iload 4, 2) := by decide +kernel
theorem dX0_answer_92 : decode cX0_answer 92 = .ok (.invokevirtual 47, 3) := by decide +kernel
theorem dX0_answer_95 : decode cX0_answer 95 = .ok (.istore 5, 2) := by decide +kernel
theorem dX0_answer_97 : decode cX0_answer 97 = .ok (.aload_n 0, 1) := by decide +kernel
theorem dX0_answer_98 : decode cX0_answer 98 = .ok (.getfield 19, 3) := by decide +kernel
theorem dX0_answer_101 : decode cX0_answer 101 = .ok (.ifCond .eq 8, 3) := by decide +kernel
theorem dX0_answer_104 : decode cX0_answer 104 = .ok (.bipush (-15), 2) := by decide +kernel
theorem dX0_answer_106 : decode cX0_answer 106 = .ok (.goto 5, 3) := by decide +kernel
theorem dX0_answer_109 : decode cX0_answer 109 = .ok (.iload 5, 2) := by decide +kernel
theorem dX0_answer_111 : decode cX0_answer 111 = .ok (.ireturn, 1) := by decide +kernel
theorem dX0_begin_0 : decode cX0_begin 0 = .ok (.aload_n 0, 1) := by decide +kernel
theorem dX0_begin_1 : decode cX0_begin 1 = .ok (.getfield 19, 3) := by decide +kernel
theorem dX0_begin_4 : decode cX0_begin 4 = .ok (.ifCond .ne 32, 3) := by decide +kernel
theorem dX0_begin_7 : decode cX0_begin 7 = .ok (.aload_n 0, 1) := by decide +kernel
theorem dX0_begin_8 : decode cX0_begin 8 = .ok (.getfield 15, 3) := by decide +kernel
theorem dX0_begin_11 : decode cX0_begin 11 = .ok (.bipush 30, 2) := by decide +kernel
theorem dX0_begin_13 : decode cX0_begin 13 = .ok (.if_icmp .ge 23, 3) := by decide +kernel
theorem dX0_begin_16 : decode cX0_begin 16 = .ok (.aload_n 0, 1) := by decide +kernel
theorem dX0_begin_17 : decode cX0_begin 17 = .ok (.getfield 9, 3) := by decide +kernel
theorem dX0_begin_20 : decode cX0_begin 20 = .ok (.aload_n 0, 1) := by decide +kernel
theorem dX0_begin_21 : decode cX0_begin 21 = .ok (.getfield 15, 3) := by decide +kernel
theorem dX0_begin_24 : decode cX0_begin 24 = .ok (.iload_n 1, 1) := by decide +kernel
theorem dX0_begin_25 : decode cX0_begin 25 = .ok (.iastore, 1) := by decide +kernel
theorem dX0_begin_26 : decode cX0_begin 26 = .ok (.aload_n 0, 1) := by decide +kernel
theorem dX0_begin_27 : decode cX0_begin 27 = .ok (.dup, 1) := by decide +kernel
theorem dX0_begin_28 : decode cX0_begin 28 = .ok (.getfield 15, 3) := by decide +kernel
theorem dX0_begin_31 : decode cX0_begin 31 = .ok (.iconst 1, 1) := by decide +kernel
theorem dX0_begin_32 : decode cX0_begin 32 = .ok (.iadd, 1) := by decide +kernel
theorem dX0_begin_33 : decode cX0_begin 33 = .ok (.putfield 15, 3) := by decide +kernel
theorem dX0_begin_36 : decode cX0_begin 36 = .ok (.return_, 1) := by decide +kernel
theorem dX0_lifts_0 : decode cX0_lifts 0 = .ok (.aload_n 0, 1) := by decide +kernel
theorem dX0_lifts_1 : decode cX0_lifts 1 = .ok (.getfield 23, 3) := by decide +kernel
theorem dX0_lifts_4 : decode cX0_lifts 4 = .ok (.tableswitch 102 2 4 #[28, 49, 78], 28) := by decide +kernel
theorem dX0_lifts_32 : decode cX0_lifts 32 = .ok (.aload_n 0, 1) := by decide +kernel
theorem dX0_lifts_33 : decode cX0_lifts 33 = .ok (.bipush 30, 2) := by decide +kernel
theorem dX0_lifts_35 : decode cX0_lifts 35 = .ok (.invokevirtual 50, 3) := by decide +kernel
theorem dX0_lifts_38 : decode cX0_lifts 38 = .ok (.aload_n 0, 1) := by decide +kernel
theorem dX0_lifts_39 : decode cX0_lifts 39 = .ok (.bipush 10, 2) := by decide +kernel
theorem dX0_lifts_41 : decode cX0_lifts 41 = .ok (.invokevirtual 50, 3) := by decide +kernel
theorem dX0_lifts_44 : decode cX0_lifts 44 = .ok (.iload_n 1, 1) := by decide +kernel
theorem dX0_lifts_45 : decode cX0_lifts 45 = .ok (.aload_n 0, 1) := by decide +kernel
theorem dX0_lifts_46 : decode cX0_lifts 46 = .ok (.getfield 26, 3) := by decide +kernel
theorem dX0_lifts_49 : decode cX0_lifts 49 = .ok (.iadd, 1) := by decide +kernel
theorem dX0_lifts_50 : decode cX0_lifts 50 = .ok (.iconst 3, 1) := by decide +kernel
theorem dX0_lifts_51 : decode cX0_lifts 51 = .ok (.imul, 1) := by decide +kernel
theorem dX0_lifts_52 : decode cX0_lifts 52 = .ok (.ireturn, 1) := by decide +kernel
theorem dX0_lifts_53 : decode cX0_lifts 53 = .ok (.aload_n 0, 1) := by decide +kernel
theorem dX0_lifts_54 : decode cX0_lifts 54 = .ok (.bipush 40, 2) := by decide +kernel
theorem dX0_lifts_56 : decode cX0_lifts 56 = .ok (.invokevirtual 50, 3) := by decide +kernel
theorem dX0_lifts_59 : decode cX0_lifts 59 = .ok (.aload_n 0, 1) := by decide +kernel
theorem dX0_lifts_60 : decode cX0_lifts 60 = .ok (.bipush 30, 2) := by decide +kernel
theorem dX0_lifts_62 : decode cX0_lifts 62 = .ok (.invokevirtual 50, 3) := by decide +kernel
theorem dX0_lifts_65 : decode cX0_lifts 65 = .ok (.aload_n 0, 1) := by decide +kernel
theorem dX0_lifts_66 : decode cX0_lifts 66 = .ok (.bipush 10, 2) := by decide +kernel
theorem dX0_lifts_68 : decode cX0_lifts 68 = .ok (.invokevirtual 50, 3) := by decide +kernel
theorem dX0_lifts_71 : decode cX0_lifts 71 = .ok (.iconst 0, 1) := by decide +kernel
theorem dX0_lifts_72 : decode cX0_lifts 72 = .ok (.iload_n 1, 1) := by decide +kernel
theorem dX0_lifts_73 : decode cX0_lifts 73 = .ok (.aload_n 0, 1) := by decide +kernel
theorem dX0_lifts_74 : decode cX0_lifts 74 = .ok (.getfield 26, 3) := by decide +kernel
theorem dX0_lifts_77 : decode cX0_lifts 77 = .ok (.iadd, 1) := by decide +kernel
theorem dX0_lifts_78 : decode cX0_lifts 78 = .ok (.iconst 3, 1) := by decide +kernel
theorem dX0_lifts_79 : decode cX0_lifts 79 = .ok (.imul, 1) := by decide +kernel
theorem dX0_lifts_80 : decode cX0_lifts 80 = .ok (.isub, 1) := by decide +kernel
theorem dX0_lifts_81 : decode cX0_lifts 81 = .ok (.ireturn, 1) := by decide +kernel
theorem dX0_lifts_82 : decode cX0_lifts 82 = .ok (.aload_n 0, 1) := by decide +kernel
theorem dX0_lifts_83 : decode cX0_lifts 83 = .ok (.bipush 51, 2) := by decide +kernel
theorem dX0_lifts_85 : decode cX0_lifts 85 = .ok (.invokevirtual 50, 3) := by decide +kernel
theorem dX0_lifts_88 : decode cX0_lifts 88 = .ok (.aload_n 0, 1) := by decide +kernel
theorem dX0_lifts_89 : decode cX0_lifts 89 = .ok (.bipush 10, 2) := by decide +kernel
theorem dX0_lifts_91 : decode cX0_lifts 91 = .ok (.invokevirtual 50, 3) := by decide +kernel
theorem dX0_lifts_94 : decode cX0_lifts 94 = .ok (.iload_n 1, 1) := by decide +kernel
theorem dX0_lifts_95 : decode cX0_lifts 95 = .ok (.aload_n 0, 1) := by decide +kernel
theorem dX0_lifts_96 : decode cX0_lifts 96 = .ok (.getfield 26, 3) := by decide +kernel
theorem dX0_lifts_99 : decode cX0_lifts 99 = .ok (.iadd, 1) := by decide +kernel
theorem dX0_lifts_100 : decode cX0_lifts 100 = .ok (.aload_n 0, 1) := by decide +kernel
theorem dX0_lifts_101 : decode cX0_lifts 101 = .ok (.getfield 26, 3) := by decide +kernel
theorem dX0_lifts_104 : decode cX0_lifts 104 = .ok (.isub, 1) := by decide +kernel
theorem dX0_lifts_105 : decode cX0_lifts 105 = .ok (.ireturn, 1) := by decide +kernel
theorem dX0_lifts_106 : decode cX0_lifts 106 = .ok (.aload_n 0, 1) := by decide +kernel
theorem dX0_lifts_107 : decode cX0_lifts 107 = .ok (.bipush 10, 2) := by decide +kernel
theorem dX0_lifts_109 : decode cX0_lifts 109 = .ok (.invokevirtual 50, 3) := by decide +kernel
theorem dX0_lifts_112 : decode cX0_lifts 112 = .ok (.iload_n 1, 1) := by decide +kernel
theorem dX0_lifts_113 : decode cX0_lifts 113 = .ok (.aload_n 0, 1) := by decide +kernel
theorem dX0_lifts_114 : decode cX0_lifts 114 = .ok (.getfield 26, 3) := by decide +kernel
theorem dX0_lifts_117 : decode cX0_lifts 117 = .ok (.iadd, 1) := by decide +kernel
theorem dX0_lifts_118 : decode cX0_lifts 118 = .ok (.ireturn, 1) := by decide +kernel
theorem dX0_sinks_0 : decode cX0_sinks 0 = .ok (.aload_n 0, 1) := by decide +kernel
theorem dX0_sinks_1 : decode cX0_sinks 1 = .ok (.getfield 23, 3) := by decide +kernel
theorem dX0_sinks_4 : decode cX0_sinks 4 = .ok (.tableswitch 86 1 4 #[32, 86, 57, 32], 32) := by decide +kernel
theorem dX0_sinks_36 : decode cX0_sinks 36 = .ok (.aload_n 0, 1) := by decide +kernel
theorem dX0_sinks_37 : decode cX0_sinks 37 = .ok (.bipush 20, 2) := by decide +kernel
theorem dX0_sinks_39 : decode cX0_sinks 39 = .ok (.invokevirtual 50, 3) := by decide +kernel
theorem dX0_sinks_42 : decode cX0_sinks 42 = .ok (.aload_n 0, 1) := by decide +kernel
theorem dX0_sinks_43 : decode cX0_sinks 43 = .ok (.bipush 11, 2) := by decide +kernel
theorem dX0_sinks_45 : decode cX0_sinks 45 = .ok (.invokevirtual 50, 3) := by decide +kernel
theorem dX0_sinks_48 : decode cX0_sinks 48 = .ok (.aload_n 0, 1) := by decide +kernel
theorem dX0_sinks_49 : decode cX0_sinks 49 = .ok (.iload_n 1, 1) := by decide +kernel
theorem dX0_sinks_50 : decode cX0_sinks 50 = .ok (.invokevirtual 37, 3) := by decide +kernel
theorem dX0_sinks_53 : decode cX0_sinks 53 = .ok (.iconst 2, 1) := by decide +kernel
theorem dX0_sinks_54 : decode cX0_sinks 54 = .ok (.imul, 1) := by decide +kernel
theorem dX0_sinks_55 : decode cX0_sinks 55 = .ok (.aload_n 0, 1) := by decide +kernel
theorem dX0_sinks_56 : decode cX0_sinks 56 = .ok (.getfield 29, 3) := by decide +kernel
theorem dX0_sinks_59 : decode cX0_sinks 59 = .ok (.isub, 1) := by decide +kernel
theorem dX0_sinks_60 : decode cX0_sinks 60 = .ok (.ireturn, 1) := by decide +kernel
theorem dX0_sinks_61 : decode cX0_sinks 61 = .ok (.aload_n 0, 1) := by decide +kernel
theorem dX0_sinks_62 : decode cX0_sinks 62 = .ok (.bipush 41, 2) := by decide +kernel
theorem dX0_sinks_64 : decode cX0_sinks 64 = .ok (.invokevirtual 50, 3) := by decide +kernel
theorem dX0_sinks_67 : decode cX0_sinks 67 = .ok (.aload_n 0, 1) := by decide +kernel
theorem dX0_sinks_68 : decode cX0_sinks 68 = .ok (.bipush 11, 2) := by decide +kernel
theorem dX0_sinks_70 : decode cX0_sinks 70 = .ok (.invokevirtual 50, 3) := by decide +kernel
theorem dX0_sinks_73 : decode cX0_sinks 73 = .ok (.aload_n 0, 1) := by decide +kernel
theorem dX0_sinks_74 : decode cX0_sinks 74 = .ok (.iload_n 1, 1) := by decide +kernel
theorem dX0_sinks_75 : decode cX0_sinks 75 = .ok (.invokevirtual 37, 3) := by decide +kernel
theorem dX0_sinks_78 : decode cX0_sinks 78 = .ok (.iconst 2, 1) := by decide +kernel
theorem dX0_sinks_79 : decode cX0_sinks 79 = .ok (.imul, 1) := by decide +kernel
theorem dX0_sinks_80 : decode cX0_sinks 80 = .ok (.aload_n 0, 1) := by decide +kernel
theorem dX0_sinks_81 : decode cX0_sinks 81 = .ok (.aload_n 0, 1) := by decide +kernel
theorem dX0_sinks_82 : decode cX0_sinks 82 = .ok (.getfield 26, 3) := by decide +kernel
theorem dX0_sinks_85 : decode cX0_sinks 85 = .ok (.invokevirtual 37, 3) := by decide +kernel
theorem dX0_sinks_88 : decode cX0_sinks 88 = .ok (.iadd, 1) := by decide +kernel
theorem dX0_sinks_89 : decode cX0_sinks 89 = .ok (.ireturn, 1) := by decide +kernel
theorem dX0_sinks_90 : decode cX0_sinks 90 = .ok (.aload_n 0, 1) := by decide +kernel
theorem dX0_sinks_91 : decode cX0_sinks 91 = .ok (.bipush 11, 2) := by decide +kernel
theorem dX0_sinks_93 : decode cX0_sinks 93 = .ok (.invokevirtual 50, 3) := by decide +kernel
theorem dX0_sinks_96 : decode cX0_sinks 96 = .ok (.aload_n 0, 1) := by decide +kernel
theorem dX0_sinks_97 : decode cX0_sinks 97 = .ok (.iload_n 1, 1) := by decide +kernel
theorem dX0_sinks_98 : decode cX0_sinks 98 = .ok (.invokevirtual 37, 3) := by decide +kernel
theorem dX0_sinks_101 : decode cX0_sinks 101 = .ok (.iconst 2, 1) := by decide +kernel
theorem dX0_sinks_102 : decode cX0_sinks 102 = .ok (.imul, 1) := by decide +kernel
theorem dX0_sinks_103 : decode cX0_sinks 103 = .ok (.ireturn, 1) := by decide +kernel
theorem dX0_shares_0 : decode cX0_shares 0 = .ok (.aload_n 0, 1) := by decide +kernel
theorem dX0_shares_1 : decode cX0_shares 1 = .ok (.getfield 23, 3) := by decide +kernel
theorem dX0_shares_4 : decode cX0_shares 4 = .ok (.lookupswitch 65 #[(4, 28), (5, 44)], 28) := by decide +kernel
theorem dX0_shares_32 : decode cX0_shares 32 = .ok (.aload_n 0, 1) := by decide +kernel
theorem dX0_shares_33 : decode cX0_shares 33 = .ok (.bipush 50, 2) := by decide +kernel
theorem dX0_shares_35 : decode cX0_shares 35 = .ok (.invokevirtual 50, 3) := by decide +kernel
theorem dX0_shares_38 : decode cX0_shares 38 = .ok (.aload_n 0, 1) := by decide +kernel
theorem dX0_shares_39 : decode cX0_shares 39 = .ok (.iload_n 1, 1) := by decide +kernel
theorem dX0_shares_40 : decode cX0_shares 40 = .ok (.iconst 2, 1) := by decide +kernel
theorem dX0_shares_41 : decode cX0_shares 41 = .ok (.iadd, 1) := by decide +kernel
theorem dX0_shares_42 : decode cX0_shares 42 = .ok (.invokevirtual 54, 3) := by decide +kernel
theorem dX0_shares_45 : decode cX0_shares 45 = .ok (.iconst 1, 1) := by decide +kernel
theorem dX0_shares_46 : decode cX0_shares 46 = .ok (.ixor, 1) := by decide +kernel
theorem dX0_shares_47 : decode cX0_shares 47 = .ok (.ireturn, 1) := by decide +kernel
theorem dX0_shares_48 : decode cX0_shares 48 = .ok (.aload_n 0, 1) := by decide +kernel
theorem dX0_shares_49 : decode cX0_shares 49 = .ok (.bipush 61, 2) := by decide +kernel
theorem dX0_shares_51 : decode cX0_shares 51 = .ok (.invokevirtual 50, 3) := by decide +kernel
theorem dX0_shares_54 : decode cX0_shares 54 = .ok (.aload_n 0, 1) := by decide +kernel
theorem dX0_shares_55 : decode cX0_shares 55 = .ok (.iload_n 1, 1) := by decide +kernel
theorem dX0_shares_56 : decode cX0_shares 56 = .ok (.invokevirtual 54, 3) := by decide +kernel
theorem dX0_shares_59 : decode cX0_shares 59 = .ok (.aload_n 0, 1) := by decide +kernel
theorem dX0_shares_60 : decode cX0_shares 60 = .ok (.aload_n 0, 1) := by decide +kernel
theorem dX0_shares_61 : decode cX0_shares 61 = .ok (.getfield 29, 3) := by decide +kernel
theorem dX0_shares_64 : decode cX0_shares 64 = .ok (.invokevirtual 37, 3) := by decide +kernel
theorem dX0_shares_67 : decode cX0_shares 67 = .ok (.iadd, 1) := by decide +kernel
theorem dX0_shares_68 : decode cX0_shares 68 = .ok (.ireturn, 1) := by decide +kernel
theorem dX0_shares_69 : decode cX0_shares 69 = .ok (.aload_n 0, 1) := by decide +kernel
theorem dX0_shares_70 : decode cX0_shares 70 = .ok (.iload_n 1, 1) := by decide +kernel
theorem dX0_shares_71 : decode cX0_shares 71 = .ok (.invokevirtual 54, 3) := by decide +kernel
theorem dX0_shares_74 : decode cX0_shares 74 = .ok (.ireturn, 1) := by decide +kernel
theorem dX0_parted_0 : decode cX0_parted 0 = .ok (.aload_n 0, 1) := by decide +kernel
theorem dX0_parted_1 : decode cX0_parted 1 = .ok (.bipush 12, 2) := by decide +kernel
theorem dX0_parted_3 : decode cX0_parted 3 = .ok (.invokevirtual 50, 3) := by decide +kernel
theorem dX0_parted_6 : decode cX0_parted 6 = .ok (.aload_n 0, 1) := by decide +kernel
theorem dX0_parted_7 : decode cX0_parted 7 = .ok (.getfield 29, 3) := by decide +kernel
theorem dX0_parted_10 : decode cX0_parted 10 = .ok (.aload_n 0, 1) := by decide +kernel
theorem dX0_parted_11 : decode cX0_parted 11 = .ok (.getfield 26, 3) := by decide +kernel
theorem dX0_parted_14 : decode cX0_parted 14 = .ok (.if_icmp .ne 10, 3) := by decide +kernel
theorem dX0_parted_17 : decode cX0_parted 17 = .ok (.aload_n 0, 1) := by decide +kernel
theorem dX0_parted_18 : decode cX0_parted 18 = .ok (.iconst 1, 1) := by decide +kernel
theorem dX0_parted_19 : decode cX0_parted 19 = .ok (.putfield 19, 3) := by decide +kernel
theorem dX0_parted_22 : decode cX0_parted 22 = .ok (.iconst 0, 1) := by decide +kernel
theorem dX0_parted_23 : decode cX0_parted 23 = .ok (.ireturn, 1) := by decide +kernel
theorem dX0_parted_24 : decode cX0_parted 24 = .ok (.iload_n 1, 1) := by decide +kernel
theorem dX0_parted_25 : decode cX0_parted 25 = .ok (.aload_n 0, 1) := by decide +kernel
theorem dX0_parted_26 : decode cX0_parted 26 = .ok (.getfield 29, 3) := by decide +kernel
theorem dX0_parted_29 : decode cX0_parted 29 = .ok (.aload_n 0, 1) := by decide +kernel
theorem dX0_parted_30 : decode cX0_parted 30 = .ok (.getfield 26, 3) := by decide +kernel
theorem dX0_parted_33 : decode cX0_parted 33 = .ok (.isub, 1) := by decide +kernel
theorem dX0_parted_34 : decode cX0_parted 34 = .ok (.idiv, 1) := by decide +kernel
theorem dX0_parted_35 : decode cX0_parted 35 = .ok (.ireturn, 1) := by decide +kernel
theorem dX0_tells_0 : decode cX0_tells 0 = .ok (.aload_n 0, 1) := by decide +kernel
theorem dX0_tells_1 : decode cX0_tells 1 = .ok (.getfield 23, 3) := by decide +kernel
theorem dX0_tells_4 : decode cX0_tells 4 = .ok (.tableswitch 89 2 5 #[32, 32, 89, 64], 32) := by decide +kernel
theorem dX0_tells_36 : decode cX0_tells 36 = .ok (.aload_n 0, 1) := by decide +kernel
theorem dX0_tells_37 : decode cX0_tells 37 = .ok (.bipush 31, 2) := by decide +kernel
theorem dX0_tells_39 : decode cX0_tells 39 = .ok (.invokevirtual 50, 3) := by decide +kernel
theorem dX0_tells_42 : decode cX0_tells 42 = .ok (.aload_n 0, 1) := by decide +kernel
theorem dX0_tells_43 : decode cX0_tells 43 = .ok (.bipush 13, 2) := by decide +kernel
theorem dX0_tells_45 : decode cX0_tells 45 = .ok (.invokevirtual 50, 3) := by decide +kernel
theorem dX0_tells_48 : decode cX0_tells 48 = .ok (.aload_n 0, 1) := by decide +kernel
theorem dX0_tells_49 : decode cX0_tells 49 = .ok (.iload_n 1, 1) := by decide +kernel
theorem dX0_tells_50 : decode cX0_tells 50 = .ok (.invokevirtual 41, 3) := by decide +kernel
theorem dX0_tells_53 : decode cX0_tells 53 = .ok (.aload_n 0, 1) := by decide +kernel
theorem dX0_tells_54 : decode cX0_tells 54 = .ok (.getfield 29, 3) := by decide +kernel
theorem dX0_tells_57 : decode cX0_tells 57 = .ok (.ixor, 1) := by decide +kernel
theorem dX0_tells_58 : decode cX0_tells 58 = .ok (.aload_n 0, 1) := by decide +kernel
theorem dX0_tells_59 : decode cX0_tells 59 = .ok (.aload_n 0, 1) := by decide +kernel
theorem dX0_tells_60 : decode cX0_tells 60 = .ok (.getfield 26, 3) := by decide +kernel
theorem dX0_tells_63 : decode cX0_tells 63 = .ok (.invokevirtual 44, 3) := by decide +kernel
theorem dX0_tells_66 : decode cX0_tells 66 = .ok (.iadd, 1) := by decide +kernel
theorem dX0_tells_67 : decode cX0_tells 67 = .ok (.ireturn, 1) := by decide +kernel
theorem dX0_tells_68 : decode cX0_tells 68 = .ok (.aload_n 0, 1) := by decide +kernel
theorem dX0_tells_69 : decode cX0_tells 69 = .ok (.bipush 60, 2) := by decide +kernel
theorem dX0_tells_71 : decode cX0_tells 71 = .ok (.invokevirtual 50, 3) := by decide +kernel
theorem dX0_tells_74 : decode cX0_tells 74 = .ok (.aload_n 0, 1) := by decide +kernel
theorem dX0_tells_75 : decode cX0_tells 75 = .ok (.bipush 13, 2) := by decide +kernel
theorem dX0_tells_77 : decode cX0_tells 77 = .ok (.invokevirtual 50, 3) := by decide +kernel
theorem dX0_tells_80 : decode cX0_tells 80 = .ok (.aload_n 0, 1) := by decide +kernel
theorem dX0_tells_81 : decode cX0_tells 81 = .ok (.iload_n 1, 1) := by decide +kernel
theorem dX0_tells_82 : decode cX0_tells 82 = .ok (.invokevirtual 41, 3) := by decide +kernel
theorem dX0_tells_85 : decode cX0_tells 85 = .ok (.aload_n 0, 1) := by decide +kernel
theorem dX0_tells_86 : decode cX0_tells 86 = .ok (.getfield 29, 3) := by decide +kernel
theorem dX0_tells_89 : decode cX0_tells 89 = .ok (.ixor, 1) := by decide +kernel
theorem dX0_tells_90 : decode cX0_tells 90 = .ok (.iconst 2, 1) := by decide +kernel
theorem dX0_tells_91 : decode cX0_tells 91 = .ok (.imul, 1) := by decide +kernel
theorem dX0_tells_92 : decode cX0_tells 92 = .ok (.ireturn, 1) := by decide +kernel
theorem dX0_tells_93 : decode cX0_tells 93 = .ok (.aload_n 0, 1) := by decide +kernel
theorem dX0_tells_94 : decode cX0_tells 94 = .ok (.bipush 13, 2) := by decide +kernel
theorem dX0_tells_96 : decode cX0_tells 96 = .ok (.invokevirtual 50, 3) := by decide +kernel
theorem dX0_tells_99 : decode cX0_tells 99 = .ok (.aload_n 0, 1) := by decide +kernel
theorem dX0_tells_100 : decode cX0_tells 100 = .ok (.iload_n 1, 1) := by decide +kernel
theorem dX0_tells_101 : decode cX0_tells 101 = .ok (.invokevirtual 41, 3) := by decide +kernel
theorem dX0_tells_104 : decode cX0_tells 104 = .ok (.aload_n 0, 1) := by decide +kernel
theorem dX0_tells_105 : decode cX0_tells 105 = .ok (.getfield 29, 3) := by decide +kernel
theorem dX0_tells_108 : decode cX0_tells 108 = .ok (.ixor, 1) := by decide +kernel
theorem dX0_tells_109 : decode cX0_tells 109 = .ok (.ireturn, 1) := by decide +kernel
theorem dX1_init_0 : decode cX1_init 0 = .ok (.aload_n 0, 1) := by decide +kernel
theorem dX1_init_1 : decode cX1_init 1 = .ok (.invokespecial 3, 3) := by decide +kernel
theorem dX1_init_4 : decode cX1_init 4 = .ok (.aload_n 0, 1) := by decide +kernel
theorem dX1_init_5 : decode cX1_init 5 = .ok (.bipush 9, 2) := by decide +kernel
theorem dX1_init_7 : decode cX1_init 7 = .ok (.newarray .int, 2) := by decide +kernel
theorem dX1_init_9 : decode cX1_init 9 = .ok (.putfield 9, 3) := by decide +kernel
theorem dX1_init_12 : decode cX1_init 12 = .ok (.return_, 1) := by decide +kernel
theorem dX1_begin_0 : decode cX1_begin 0 = .ok (.getstatic 15, 3) := by decide +kernel
theorem dX1_begin_3 : decode cX1_begin 3 = .ok (.iconst 0, 1) := by decide +kernel
theorem dX1_begin_4 : decode cX1_begin 4 = .ok (.aload_n 0, 1) := by decide +kernel
theorem dX1_begin_5 : decode cX1_begin 5 = .ok (.getfield 9, 3) := by decide +kernel
theorem dX1_begin_8 : decode cX1_begin 8 = .ok (.iconst 0, 1) := by decide +kernel
theorem dX1_begin_9 : decode cX1_begin 9 = .ok (.bipush 9, 2) := by decide +kernel
theorem dX1_begin_11 : decode cX1_begin 11 = .ok (.invokestatic 18, 3) := by decide +kernel
theorem dX1_begin_14 : decode cX1_begin 14 = .ok (.aload_n 0, 1) := by decide +kernel
theorem dX1_begin_15 : decode cX1_begin 15 = .ok (.getfield 9, 3) := by decide +kernel
theorem dX1_begin_18 : decode cX1_begin 18 = .ok (.iconst 0, 1) := by decide +kernel
theorem dX1_begin_19 : decode cX1_begin 19 = .ok (.iload_n 1, 1) := by decide +kernel
theorem dX1_begin_20 : decode cX1_begin 20 = .ok (.iastore, 1) := by decide +kernel
theorem dX1_begin_21 : decode cX1_begin 21 = .ok (.aload_n 0, 1) := by decide +kernel
theorem dX1_begin_22 : decode cX1_begin 22 = .ok (.getfield 9, 3) := by decide +kernel
theorem dX1_begin_25 : decode cX1_begin 25 = .ok (.iconst 1, 1) := by decide +kernel
theorem dX1_begin_26 : decode cX1_begin 26 = .ok (.iload_n 2, 1) := by decide +kernel
theorem dX1_begin_27 : decode cX1_begin 27 = .ok (.iastore, 1) := by decide +kernel
theorem dX1_begin_28 : decode cX1_begin 28 = .ok (.aload_n 0, 1) := by decide +kernel
theorem dX1_begin_29 : decode cX1_begin 29 = .ok (.getfield 9, 3) := by decide +kernel
theorem dX1_begin_32 : decode cX1_begin 32 = .ok (.iconst 2, 1) := by decide +kernel
theorem dX1_begin_33 : decode cX1_begin 33 = .ok (.iload_n 3, 1) := by decide +kernel
theorem dX1_begin_34 : decode cX1_begin 34 = .ok (.iastore, 1) := by decide +kernel
theorem dX1_begin_35 : decode cX1_begin 35 = .ok (.return_, 1) := by decide +kernel
theorem dX1_copyFrom_0 : decode cX1_copyFrom 0 = .ok (.aload_n 1, 1) := by decide +kernel
theorem dX1_copyFrom_1 : decode cX1_copyFrom 1 = .ok (.getfield 9, 3) := by decide +kernel
theorem dX1_copyFrom_4 : decode cX1_copyFrom 4 = .ok (.iconst 0, 1) := by decide +kernel
theorem dX1_copyFrom_5 : decode cX1_copyFrom 5 = .ok (.aload_n 0, 1) := by decide +kernel
theorem dX1_copyFrom_6 : decode cX1_copyFrom 6 = .ok (.getfield 9, 3) := by decide +kernel
theorem dX1_copyFrom_9 : decode cX1_copyFrom 9 = .ok (.iconst 0, 1) := by decide +kernel
theorem dX1_copyFrom_10 : decode cX1_copyFrom 10 = .ok (.bipush 9, 2) := by decide +kernel
theorem dX1_copyFrom_12 : decode cX1_copyFrom 12 = .ok (.invokestatic 18, 3) := by decide +kernel
theorem dX1_copyFrom_15 : decode cX1_copyFrom 15 = .ok (.return_, 1) := by decide +kernel
theorem dX1_lift_0 : decode cX1_lift 0 = .ok (.aload_n 0, 1) := by decide +kernel
theorem dX1_lift_1 : decode cX1_lift 1 = .ok (.getfield 9, 3) := by decide +kernel
theorem dX1_lift_4 : decode cX1_lift 4 = .ok (.iconst 5, 1) := by decide +kernel
theorem dX1_lift_5 : decode cX1_lift 5 = .ok (.iaload, 1) := by decide +kernel
theorem dX1_lift_6 : decode cX1_lift 6 = .ok (.istore_n 2, 1) := by decide +kernel
theorem dX1_lift_7 : decode cX1_lift 7 = .ok (.aload_n 0, 1) := by decide +kernel
theorem dX1_lift_8 : decode cX1_lift 8 = .ok (.getfield 9, 3) := by decide +kernel
theorem dX1_lift_11 : decode cX1_lift 11 = .ok (.iconst 0, 1) := by decide +kernel
theorem dX1_lift_12 : decode cX1_lift 12 = .ok (.iaload, 1) := by decide +kernel
theorem dX1_lift_13 : decode cX1_lift 13 = .ok (.lookupswitch 51 #[(1, 27), (4, 38)], 27) := by decide +kernel
theorem dX1_lift_40 : decode cX1_lift 40 = .ok (.iload_n 2, 1) := by decide +kernel
theorem dX1_lift_41 : decode cX1_lift 41 = .ok (.iload_n 2, 1) := by decide +kernel
theorem dX1_lift_42 : decode cX1_lift 42 = .ok (.iconst 2, 1) := by decide +kernel
theorem dX1_lift_43 : decode cX1_lift 43 = .ok (.imul, 1) := by decide +kernel
theorem dX1_lift_44 : decode cX1_lift 44 = .ok (.iload_n 1, 1) := by decide +kernel
theorem dX1_lift_45 : decode cX1_lift 45 = .ok (.imul, 1) := by decide +kernel
theorem dX1_lift_46 : decode cX1_lift 46 = .ok (.bipush 100, 2) := by decide +kernel
theorem dX1_lift_48 : decode cX1_lift 48 = .ok (.idiv, 1) := by decide +kernel
theorem dX1_lift_49 : decode cX1_lift 49 = .ok (.iadd, 1) := by decide +kernel
theorem dX1_lift_50 : decode cX1_lift 50 = .ok (.ireturn, 1) := by decide +kernel
theorem dX1_lift_51 : decode cX1_lift 51 = .ok (.iload_n 2, 1) := by decide +kernel
theorem dX1_lift_52 : decode cX1_lift 52 = .ok (.iload_n 2, 1) := by decide +kernel
theorem dX1_lift_53 : decode cX1_lift 53 = .ok (.iconst 2, 1) := by decide +kernel
theorem dX1_lift_54 : decode cX1_lift 54 = .ok (.imul, 1) := by decide +kernel
theorem dX1_lift_55 : decode cX1_lift 55 = .ok (.iload_n 1, 1) := by decide +kernel
theorem dX1_lift_56 : decode cX1_lift 56 = .ok (.imul, 1) := by decide +kernel
theorem dX1_lift_57 : decode cX1_lift 57 = .ok (.bipush 100, 2) := by decide +kernel
theorem dX1_lift_59 : decode cX1_lift 59 = .ok (.idiv, 1) := by decide +kernel
theorem dX1_lift_60 : decode cX1_lift 60 = .ok (.iadd, 1) := by decide +kernel
theorem dX1_lift_61 : decode cX1_lift 61 = .ok (.iconst 5, 1) := by decide +kernel
theorem dX1_lift_62 : decode cX1_lift 62 = .ok (.iadd, 1) := by decide +kernel
theorem dX1_lift_63 : decode cX1_lift 63 = .ok (.ireturn, 1) := by decide +kernel
theorem dX1_lift_64 : decode cX1_lift 64 = .ok (.iload_n 2, 1) := by decide +kernel
theorem dX1_lift_65 : decode cX1_lift 65 = .ok (.iload_n 2, 1) := by decide +kernel
theorem dX1_lift_66 : decode cX1_lift 66 = .ok (.iload_n 1, 1) := by decide +kernel
theorem dX1_lift_67 : decode cX1_lift 67 = .ok (.imul, 1) := by decide +kernel
theorem dX1_lift_68 : decode cX1_lift 68 = .ok (.bipush 100, 2) := by decide +kernel
theorem dX1_lift_70 : decode cX1_lift 70 = .ok (.idiv, 1) := by decide +kernel
theorem dX1_lift_71 : decode cX1_lift 71 = .ok (.iadd, 1) := by decide +kernel
theorem dX1_lift_72 : decode cX1_lift 72 = .ok (.ireturn, 1) := by decide +kernel
theorem dX1_weight_0 : decode cX1_weight 0 = .ok (.aload_n 0, 1) := by decide +kernel
theorem dX1_weight_1 : decode cX1_weight 1 = .ok (.getfield 9, 3) := by decide +kernel
theorem dX1_weight_4 : decode cX1_weight 4 = .ok (.bipush 6, 2) := by decide +kernel
theorem dX1_weight_6 : decode cX1_weight 6 = .ok (.iaload, 1) := by decide +kernel
theorem dX1_weight_7 : decode cX1_weight 7 = .ok (.aload_n 0, 1) := by decide +kernel
theorem dX1_weight_8 : decode cX1_weight 8 = .ok (.getfield 9, 3) := by decide +kernel
theorem dX1_weight_11 : decode cX1_weight 11 = .ok (.bipush 7, 2) := by decide +kernel
theorem dX1_weight_13 : decode cX1_weight 13 = .ok (.iaload, 1) := by decide +kernel
theorem dX1_weight_14 : decode cX1_weight 14 = .ok (.iadd, 1) := by decide +kernel
theorem dX1_weight_15 : decode cX1_weight 15 = .ok (.aload_n 0, 1) := by decide +kernel
theorem dX1_weight_16 : decode cX1_weight 16 = .ok (.getfield 9, 3) := by decide +kernel
theorem dX1_weight_19 : decode cX1_weight 19 = .ok (.bipush 8, 2) := by decide +kernel
theorem dX1_weight_21 : decode cX1_weight 21 = .ok (.iaload, 1) := by decide +kernel
theorem dX1_weight_22 : decode cX1_weight 22 = .ok (.iadd, 1) := by decide +kernel
theorem dX1_weight_23 : decode cX1_weight 23 = .ok (.aload_n 0, 1) := by decide +kernel
theorem dX1_weight_24 : decode cX1_weight 24 = .ok (.getfield 9, 3) := by decide +kernel
theorem dX1_weight_27 : decode cX1_weight 27 = .ok (.iconst 1, 1) := by decide +kernel
theorem dX1_weight_28 : decode cX1_weight 28 = .ok (.iaload, 1) := by decide +kernel
theorem dX1_weight_29 : decode cX1_weight 29 = .ok (.iadd, 1) := by decide +kernel
theorem dX1_weight_30 : decode cX1_weight 30 = .ok (.ireturn, 1) := by decide +kernel
theorem dX1_target_0 : decode cX1_target 0 = .ok (.aload_n 0, 1) := by decide +kernel
theorem dX1_target_1 : decode cX1_target 1 = .ok (.iload_n 1, 1) := by decide +kernel
theorem dX1_target_2 : decode cX1_target 2 = .ok (.invokevirtual 24, 3) := by decide +kernel
theorem dX1_target_5 : decode cX1_target 5 = .ok (.aload_n 0, 1) := by decide +kernel
theorem dX1_target_6 : decode cX1_target 6 = .ok (.invokevirtual 28, 3) := by decide +kernel
theorem dX1_target_9 : decode cX1_target 9 = .ok (.isub, 1) := by decide +kernel
theorem dX1_target_10 : decode cX1_target 10 = .ok (.istore_n 2, 1) := by decide +kernel
theorem dX1_target_11 : decode cX1_target 11 = .ok (.aload_n 0, 1) := by decide +kernel
theorem dX1_target_12 : decode cX1_target 12 = .ok (.getfield 9, 3) := by decide +kernel
theorem dX1_target_15 : decode cX1_target 15 = .ok (.iconst 0, 1) := by decide +kernel
theorem dX1_target_16 : decode cX1_target 16 = .ok (.iaload, 1) := by decide +kernel
theorem dX1_target_17 : decode cX1_target 17 = .ok (.iconst 5, 1) := by decide +kernel
theorem dX1_target_18 : decode cX1_target 18 = .ok (.if_icmp .ne 9, 3) := by decide +kernel
theorem dX1_target_21 : decode cX1_target 21 = .ok (.iload_n 2, 1) := by decide +kernel
theorem dX1_target_22 : decode cX1_target 22 = .ok (.iconst 2, 1) := by decide +kernel
theorem dX1_target_23 : decode cX1_target 23 = .ok (.idiv, 1) := by decide +kernel
theorem dX1_target_24 : decode cX1_target 24 = .ok (.goto 4, 3) := by decide +kernel
theorem dX1_target_27 : decode cX1_target 27 = .ok (.iload_n 2, 1) := by decide +kernel
theorem dX1_target_28 : decode cX1_target 28 = .ok (.iconst 0, 1) := by decide +kernel
theorem dX1_target_29 : decode cX1_target 29 = .ok (.aload_n 0, 1) := by decide +kernel
theorem dX1_target_30 : decode cX1_target 30 = .ok (.getfield 9, 3) := by decide +kernel
theorem dX1_target_33 : decode cX1_target 33 = .ok (.iconst 4, 1) := by decide +kernel
theorem dX1_target_34 : decode cX1_target 34 = .ok (.iaload, 1) := by decide +kernel
theorem dX1_target_35 : decode cX1_target 35 = .ok (.invokestatic 32, 3) := by decide +kernel
theorem dX1_target_38 : decode cX1_target 38 = .ok (.ireturn, 1) := by decide +kernel
theorem dX1_leaks_0 : decode cX1_leaks 0 = .ok (.aload_n 0, 1) := by decide +kernel
theorem dX1_leaks_1 : decode cX1_leaks 1 = .ok (.getfield 9, 3) := by decide +kernel
theorem dX1_leaks_4 : decode cX1_leaks 4 = .ok (.iconst 0, 1) := by decide +kernel
theorem dX1_leaks_5 : decode cX1_leaks 5 = .ok (.iaload, 1) := by decide +kernel
theorem dX1_leaks_6 : decode cX1_leaks 6 = .ok (.lookupswitch 40 #[(2, 26), (3, 28)], 26) := by decide +kernel
theorem dX1_leaks_32 : decode cX1_leaks 32 = .ok (.iconst 2, 1) := by decide +kernel
theorem dX1_leaks_33 : decode cX1_leaks 33 = .ok (.ireturn, 1) := by decide +kernel
theorem dX1_leaks_34 : decode cX1_leaks 34 = .ok (.iload_n 1, 1) := by decide +kernel
theorem dX1_leaks_35 : decode cX1_leaks 35 = .ok (.iconst 2, 1) := by decide +kernel
theorem dX1_leaks_36 : decode cX1_leaks 36 = .ok (.irem, 1) := by decide +kernel
theorem dX1_leaks_37 : decode cX1_leaks 37 = .ok (.ifCond .ne 7, 3) := by decide +kernel
theorem dX1_leaks_40 : decode cX1_leaks 40 = .ok (.iconst 1, 1) := by decide +kernel
theorem dX1_leaks_41 : decode cX1_leaks 41 = .ok (.goto 4, 3) := by decide +kernel
theorem dX1_leaks_44 : decode cX1_leaks 44 = .ok (.iconst 0, 1) := by decide +kernel
theorem dX1_leaks_45 : decode cX1_leaks 45 = .ok (.ireturn, 1) := by decide +kernel
theorem dX1_leaks_46 : decode cX1_leaks 46 = .ok (.iconst 0, 1) := by decide +kernel
theorem dX1_leaks_47 : decode cX1_leaks 47 = .ok (.ireturn, 1) := by decide +kernel
theorem dX1_passHour_0 : decode cX1_passHour 0 = .ok (.aload_n 0, 1) := by decide +kernel
theorem dX1_passHour_1 : decode cX1_passHour 1 = .ok (.getfield 9, 3) := by decide +kernel
theorem dX1_passHour_4 : decode cX1_passHour 4 = .ok (.iconst 3, 1) := by decide +kernel
theorem dX1_passHour_5 : decode cX1_passHour 5 = .ok (.dup2, 1) := by decide +kernel
theorem dX1_passHour_6 : decode cX1_passHour 6 = .ok (.iaload, 1) := by decide +kernel
theorem dX1_passHour_7 : decode cX1_passHour 7 = .ok (.aload_n 0, 1) := by decide +kernel
theorem dX1_passHour_8 : decode cX1_passHour 8 = .ok (.iload_n 1, 1) := by decide +kernel
theorem dX1_passHour_9 : decode cX1_passHour 9 = .ok (.invokevirtual 36, 3) := by decide +kernel
theorem dX1_passHour_12 : decode cX1_passHour 12 = .ok (.aload_n 0, 1) := by decide +kernel
theorem dX1_passHour_13 : decode cX1_passHour 13 = .ok (.getfield 9, 3) := by decide +kernel
theorem dX1_passHour_16 : decode cX1_passHour 16 = .ok (.iconst 3, 1) := by decide +kernel
theorem dX1_passHour_17 : decode cX1_passHour 17 = .ok (.iaload, 1) := by decide +kernel
theorem dX1_passHour_18 : decode cX1_passHour 18 = .ok (.isub, 1) := by decide +kernel
theorem dX1_passHour_19 : decode cX1_passHour 19 = .ok (.bipush (-10), 2) := by decide +kernel
theorem dX1_passHour_21 : decode cX1_passHour 21 = .ok (.bipush 10, 2) := by decide +kernel
theorem dX1_passHour_23 : decode cX1_passHour 23 = .ok (.invokestatic 32, 3) := by decide +kernel
theorem dX1_passHour_26 : decode cX1_passHour 26 = .ok (.iadd, 1) := by decide +kernel
theorem dX1_passHour_27 : decode cX1_passHour 27 = .ok (.iastore, 1) := by decide +kernel
theorem dX1_passHour_28 : decode cX1_passHour 28 = .ok (.aload_n 0, 1) := by decide +kernel
theorem dX1_passHour_29 : decode cX1_passHour 29 = .ok (.getfield 9, 3) := by decide +kernel
theorem dX1_passHour_32 : decode cX1_passHour 32 = .ok (.iconst 5, 1) := by decide +kernel
theorem dX1_passHour_33 : decode cX1_passHour 33 = .ok (.iconst 0, 1) := by decide +kernel
theorem dX1_passHour_34 : decode cX1_passHour 34 = .ok (.aload_n 0, 1) := by decide +kernel
theorem dX1_passHour_35 : decode cX1_passHour 35 = .ok (.getfield 9, 3) := by decide +kernel
theorem dX1_passHour_38 : decode cX1_passHour 38 = .ok (.iconst 5, 1) := by decide +kernel
theorem dX1_passHour_39 : decode cX1_passHour 39 = .ok (.iaload, 1) := by decide +kernel
theorem dX1_passHour_40 : decode cX1_passHour 40 = .ok (.aload_n 0, 1) := by decide +kernel
theorem dX1_passHour_41 : decode cX1_passHour 41 = .ok (.iload_n 2, 1) := by decide +kernel
theorem dX1_passHour_42 : decode cX1_passHour 42 = .ok (.invokevirtual 39, 3) := by decide +kernel
theorem dX1_passHour_45 : decode cX1_passHour 45 = .ok (.isub, 1) := by decide +kernel
theorem dX1_passHour_46 : decode cX1_passHour 46 = .ok (.invokestatic 42, 3) := by decide +kernel
theorem dX1_passHour_49 : decode cX1_passHour 49 = .ok (.iastore, 1) := by decide +kernel
theorem dX1_passHour_50 : decode cX1_passHour 50 = .ok (.aload_n 0, 1) := by decide +kernel
theorem dX1_passHour_51 : decode cX1_passHour 51 = .ok (.getfield 9, 3) := by decide +kernel
theorem dX1_passHour_54 : decode cX1_passHour 54 = .ok (.bipush 7, 2) := by decide +kernel
theorem dX1_passHour_56 : decode cX1_passHour 56 = .ok (.iconst 0, 1) := by decide +kernel
theorem dX1_passHour_57 : decode cX1_passHour 57 = .ok (.aload_n 0, 1) := by decide +kernel
theorem dX1_passHour_58 : decode cX1_passHour 58 = .ok (.getfield 9, 3) := by decide +kernel
theorem dX1_passHour_61 : decode cX1_passHour 61 = .ok (.bipush 7, 2) := by decide +kernel
theorem dX1_passHour_63 : decode cX1_passHour 63 = .ok (.iaload, 1) := by decide +kernel
theorem dX1_passHour_64 : decode cX1_passHour 64 = .ok (.aload_n 0, 1) := by decide +kernel
theorem dX1_passHour_65 : decode cX1_passHour 65 = .ok (.getfield 9, 3) := by decide +kernel
theorem dX1_passHour_68 : decode cX1_passHour 68 = .ok (.bipush 8, 2) := by decide +kernel
theorem dX1_passHour_70 : decode cX1_passHour 70 = .ok (.iaload, 1) := by decide +kernel
theorem dX1_passHour_71 : decode cX1_passHour 71 = .ok (.isub, 1) := by decide +kernel
theorem dX1_passHour_72 : decode cX1_passHour 72 = .ok (.invokestatic 42, 3) := by decide +kernel
theorem dX1_passHour_75 : decode cX1_passHour 75 = .ok (.iastore, 1) := by decide +kernel
theorem dX1_passHour_76 : decode cX1_passHour 76 = .ok (.return_, 1) := by decide +kernel
theorem dX2_init_0 : decode cX2_init 0 = .ok (.aload_n 0, 1) := by decide +kernel
theorem dX2_init_1 : decode cX2_init 1 = .ok (.invokespecial 3, 3) := by decide +kernel
theorem dX2_init_4 : decode cX2_init 4 = .ok (.aload_n 0, 1) := by decide +kernel
theorem dX2_init_5 : decode cX2_init 5 = .ok (.bipush 40, 2) := by decide +kernel
theorem dX2_init_7 : decode cX2_init 7 = .ok (.newarray .int, 2) := by decide +kernel
theorem dX2_init_9 : decode cX2_init 9 = .ok (.putfield 9, 3) := by decide +kernel
theorem dX2_init_12 : decode cX2_init 12 = .ok (.aload_n 0, 1) := by decide +kernel
theorem dX2_init_13 : decode cX2_init 13 = .ok (.iconst (-1), 1) := by decide +kernel
theorem dX2_init_14 : decode cX2_init 14 = .ok (.putfield 15, 3) := by decide +kernel
theorem dX2_init_17 : decode cX2_init 17 = .ok (.aload_n 0, 1) := by decide +kernel
theorem dX2_init_18 : decode cX2_init 18 = .ok (.iconst 0, 1) := by decide +kernel
theorem dX2_init_19 : decode cX2_init 19 = .ok (.putfield 19, 3) := by decide +kernel
theorem dX2_init_22 : decode cX2_init 22 = .ok (.return_, 1) := by decide +kernel
theorem dX2_becomeRow_0 : decode cX2_becomeRow 0 = .ok (.aload_n 0, 1) := by decide +kernel
theorem dX2_becomeRow_1 : decode cX2_becomeRow 1 = .ok (.iload_n 1, 1) := by decide +kernel
theorem dX2_becomeRow_2 : decode cX2_becomeRow 2 = .ok (.putfield 15, 3) := by decide +kernel
theorem dX2_becomeRow_5 : decode cX2_becomeRow 5 = .ok (.aload_n 0, 1) := by decide +kernel
theorem dX2_becomeRow_6 : decode cX2_becomeRow 6 = .ok (.iload_n 2, 1) := by decide +kernel
theorem dX2_becomeRow_7 : decode cX2_becomeRow 7 = .ok (.putfield 19, 3) := by decide +kernel
theorem dX2_becomeRow_10 : decode cX2_becomeRow 10 = .ok (.iconst 0, 1) := by decide +kernel
theorem dX2_becomeRow_11 : decode cX2_becomeRow 11 = .ok (.istore_n 3, 1) := by decide +kernel
theorem dX2_becomeRow_12 : decode cX2_becomeRow 12 = .ok (.iload_n 3, 1) := by decide +kernel
theorem dX2_becomeRow_13 : decode cX2_becomeRow 13 = .ok (.iload_n 2, 1) := by decide +kernel
theorem dX2_becomeRow_14 : decode cX2_becomeRow 14 = .ok (.if_icmp .ge 16, 3) := by decide +kernel
theorem dX2_becomeRow_17 : decode cX2_becomeRow 17 = .ok (.aload_n 0, 1) := by decide +kernel
theorem dX2_becomeRow_18 : decode cX2_becomeRow 18 = .ok (.getfield 9, 3) := by decide +kernel
theorem dX2_becomeRow_21 : decode cX2_becomeRow 21 = .ok (.iload_n 3, 1) := by decide +kernel
theorem dX2_becomeRow_22 : decode cX2_becomeRow 22 = .ok (.iconst 0, 1) := by decide +kernel
theorem dX2_becomeRow_23 : decode cX2_becomeRow 23 = .ok (.iastore, 1) := by decide +kernel
theorem dX2_becomeRow_24 : decode cX2_becomeRow 24 = .ok (.iinc 3 1, 3) := by decide +kernel
theorem dX2_becomeRow_27 : decode cX2_becomeRow 27 = .ok (.goto (-15), 3) := by decide +kernel
theorem dX2_becomeRow_30 : decode cX2_becomeRow 30 = .ok (.return_, 1) := by decide +kernel
theorem dX2_narrowed_0 : decode cX2_narrowed 0 = .ok (.aload_n 0, 1) := by decide +kernel
theorem dX2_narrowed_1 : decode cX2_narrowed 1 = .ok (.getfield 15, 3) := by decide +kernel
theorem dX2_narrowed_4 : decode cX2_narrowed 4 = .ok (.lookupswitch 34 #[(0, 28), (1, 31)], 28) := by decide +kernel
theorem dX2_narrowed_32 : decode cX2_narrowed 32 = .ok (.iload_n 1, 1) := by decide +kernel
theorem dX2_narrowed_33 : decode cX2_narrowed 33 = .ok (.i2b, 1) := by decide +kernel
theorem dX2_narrowed_34 : decode cX2_narrowed 34 = .ok (.ireturn, 1) := by decide +kernel
theorem dX2_narrowed_35 : decode cX2_narrowed 35 = .ok (.iload_n 1, 1) := by decide +kernel
theorem dX2_narrowed_36 : decode cX2_narrowed 36 = .ok (.i2s, 1) := by decide +kernel
theorem dX2_narrowed_37 : decode cX2_narrowed 37 = .ok (.ireturn, 1) := by decide +kernel
theorem dX2_narrowed_38 : decode cX2_narrowed 38 = .ok (.iload_n 1, 1) := by decide +kernel
theorem dX2_narrowed_39 : decode cX2_narrowed 39 = .ok (.ireturn, 1) := by decide +kernel
theorem dX3_init_0 : decode cX3_init 0 = .ok (.aload_n 0, 1) := by decide +kernel
theorem dX3_init_1 : decode cX3_init 1 = .ok (.invokespecial 3, 3) := by decide +kernel
theorem dX3_init_4 : decode cX3_init 4 = .ok (.aload_n 0, 1) := by decide +kernel
theorem dX3_init_5 : decode cX3_init 5 = .ok (.iconst 2, 1) := by decide +kernel
theorem dX3_init_6 : decode cX3_init 6 = .ok (.putfield 9, 3) := by decide +kernel
theorem dX3_init_9 : decode cX3_init 9 = .ok (.aload_n 0, 1) := by decide +kernel
theorem dX3_init_10 : decode cX3_init 10 = .ok (.iconst 0, 1) := by decide +kernel
theorem dX3_init_11 : decode cX3_init 11 = .ok (.putfield 15, 3) := by decide +kernel
theorem dX3_init_14 : decode cX3_init 14 = .ok (.aload_n 0, 1) := by decide +kernel
theorem dX3_init_15 : decode cX3_init 15 = .ok (.iconst (-1), 1) := by decide +kernel
theorem dX3_init_16 : decode cX3_init 16 = .ok (.putfield 18, 3) := by decide +kernel
theorem dX3_init_19 : decode cX3_init 19 = .ok (.aload_n 0, 1) := by decide +kernel
theorem dX3_init_20 : decode cX3_init 20 = .ok (.iconst 0, 1) := by decide +kernel
theorem dX3_init_21 : decode cX3_init 21 = .ok (.putfield 21, 3) := by decide +kernel
theorem dX3_init_24 : decode cX3_init 24 = .ok (.return_, 1) := by decide +kernel
theorem dX3_holdBalloon_0 : decode cX3_holdBalloon 0 = .ok (.aload_n 0, 1) := by decide +kernel
theorem dX3_holdBalloon_1 : decode cX3_holdBalloon 1 = .ok (.iconst 0, 1) := by decide +kernel
theorem dX3_holdBalloon_2 : decode cX3_holdBalloon 2 = .ok (.putfield 9, 3) := by decide +kernel
theorem dX3_holdBalloon_5 : decode cX3_holdBalloon 5 = .ok (.aload_n 0, 1) := by decide +kernel
theorem dX3_holdBalloon_6 : decode cX3_holdBalloon 6 = .ok (.iload_n 1, 1) := by decide +kernel
theorem dX3_holdBalloon_7 : decode cX3_holdBalloon 7 = .ok (.putfield 15, 3) := by decide +kernel
theorem dX3_holdBalloon_10 : decode cX3_holdBalloon 10 = .ok (.return_, 1) := by decide +kernel
theorem dX3_holdRow_0 : decode cX3_holdRow 0 = .ok (.aload_n 0, 1) := by decide +kernel
theorem dX3_holdRow_1 : decode cX3_holdRow 1 = .ok (.aload_n 1, 1) := by decide +kernel
theorem dX3_holdRow_2 : decode cX3_holdRow 2 = .ok (.getfield 24, 3) := by decide +kernel
theorem dX3_holdRow_5 : decode cX3_holdRow 5 = .ok (.iconst (-1), 1) := by decide +kernel
theorem dX3_holdRow_6 : decode cX3_holdRow 6 = .ok (.if_icmp .ne 7, 3) := by decide +kernel
theorem dX3_holdRow_9 : decode cX3_holdRow 9 = .ok (.iconst 2, 1) := by decide +kernel
theorem dX3_holdRow_10 : decode cX3_holdRow 10 = .ok (.goto 4, 3) := by decide +kernel
theorem dX3_holdRow_13 : decode cX3_holdRow 13 = .ok (.iconst 1, 1) := by decide +kernel
theorem dX3_holdRow_14 : decode cX3_holdRow 14 = .ok (.putfield 9, 3) := by decide +kernel
theorem dX3_holdRow_17 : decode cX3_holdRow 17 = .ok (.aload_n 0, 1) := by decide +kernel
theorem dX3_holdRow_18 : decode cX3_holdRow 18 = .ok (.aload_n 1, 1) := by decide +kernel
theorem dX3_holdRow_19 : decode cX3_holdRow 19 = .ok (.getfield 24, 3) := by decide +kernel
theorem dX3_holdRow_22 : decode cX3_holdRow 22 = .ok (.putfield 18, 3) := by decide +kernel
theorem dX3_holdRow_25 : decode cX3_holdRow 25 = .ok (.aload_n 0, 1) := by decide +kernel
theorem dX3_holdRow_26 : decode cX3_holdRow 26 = .ok (.aload_n 1, 1) := by decide +kernel
theorem dX3_holdRow_27 : decode cX3_holdRow 27 = .ok (.getfield 27, 3) := by decide +kernel
theorem dX3_holdRow_30 : decode cX3_holdRow 30 = .ok (.putfield 21, 3) := by decide +kernel
theorem dX3_holdRow_33 : decode cX3_holdRow 33 = .ok (.return_, 1) := by decide +kernel
theorem dX4_init_0 : decode cX4_init 0 = .ok (.aload_n 0, 1) := by decide +kernel
theorem dX4_init_1 : decode cX4_init 1 = .ok (.invokespecial 3, 3) := by decide +kernel
theorem dX4_init_4 : decode cX4_init 4 = .ok (.aload_n 0, 1) := by decide +kernel
theorem dX4_init_5 : decode cX4_init 5 = .ok (.sipush 240, 3) := by decide +kernel
theorem dX4_init_8 : decode cX4_init 8 = .ok (.newarray .byte, 2) := by decide +kernel
theorem dX4_init_10 : decode cX4_init 10 = .ok (.putfield 9, 3) := by decide +kernel
theorem dX4_init_13 : decode cX4_init 13 = .ok (.aload_n 0, 1) := by decide +kernel
theorem dX4_init_14 : decode cX4_init 14 = .ok (.iconst 0, 1) := by decide +kernel
theorem dX4_init_15 : decode cX4_init 15 = .ok (.putfield 15, 3) := by decide +kernel
theorem dX4_init_18 : decode cX4_init 18 = .ok (.aload_n 0, 1) := by decide +kernel
theorem dX4_init_19 : decode cX4_init 19 = .ok (.iconst 0, 1) := by decide +kernel
theorem dX4_init_20 : decode cX4_init 20 = .ok (.putfield 19, 3) := by decide +kernel
theorem dX4_init_23 : decode cX4_init 23 = .ok (.aload_n 0, 1) := by decide +kernel
theorem dX4_init_24 : decode cX4_init 24 = .ok (.iconst 0, 1) := by decide +kernel
theorem dX4_init_25 : decode cX4_init 25 = .ok (.putfield 22, 3) := by decide +kernel
theorem dX4_init_28 : decode cX4_init 28 = .ok (.aload_n 0, 1) := by decide +kernel
theorem dX4_init_29 : decode cX4_init 29 = .ok (.iconst 0, 1) := by decide +kernel
theorem dX4_init_30 : decode cX4_init 30 = .ok (.putfield 25, 3) := by decide +kernel
theorem dX4_init_33 : decode cX4_init 33 = .ok (.aload_n 0, 1) := by decide +kernel
theorem dX4_init_34 : decode cX4_init 34 = .ok (.bipush (-3), 2) := by decide +kernel
theorem dX4_init_36 : decode cX4_init 36 = .ok (.putfield 28, 3) := by decide +kernel
theorem dX4_init_39 : decode cX4_init 39 = .ok (.return_, 1) := by decide +kernel
theorem dX4_take_0 : decode cX4_take 0 = .ok (.iconst 0, 1) := by decide +kernel
theorem dX4_take_1 : decode cX4_take 1 = .ok (.istore 4, 2) := by decide +kernel
theorem dX4_take_3 : decode cX4_take 3 = .ok (.iload 4, 2) := by decide +kernel
theorem dX4_take_5 : decode cX4_take 5 = .ok (.iload_n 3, 1) := by decide +kernel
theorem dX4_take_6 : decode cX4_take 6 = .ok (.if_icmp .ge 37, 3) := by decide +kernel
theorem dX4_take_9 : decode cX4_take 9 = .ok (.aload_n 0, 1) := by decide +kernel
theorem dX4_take_10 : decode cX4_take 10 = .ok (.getfield 9, 3) := by decide +kernel
theorem dX4_take_13 : decode cX4_take 13 = .ok (.aload_n 0, 1) := by decide +kernel
theorem dX4_take_14 : decode cX4_take 14 = .ok (.getfield 15, 3) := by decide +kernel
theorem dX4_take_17 : decode cX4_take 17 = .ok (.lload_n 1, 1) := by decide +kernel
theorem dX4_take_18 : decode cX4_take 18 = .ok (.bipush 8, 2) := by decide +kernel
theorem dX4_take_20 : decode cX4_take 20 = .ok (.iload 4, 2) := by decide +kernel
theorem dX4_take_22 : decode cX4_take 22 = .ok (.imul, 1) := by decide +kernel
theorem dX4_take_23 : decode cX4_take 23 = .ok (.lshr, 1) := by decide +kernel
theorem dX4_take_24 : decode cX4_take 24 = .ok (.l2i, 1) := by decide +kernel
theorem dX4_take_25 : decode cX4_take 25 = .ok (.i2b, 1) := by decide +kernel
theorem dX4_take_26 : decode cX4_take 26 = .ok (.bastore, 1) := by decide +kernel
theorem dX4_take_27 : decode cX4_take 27 = .ok (.aload_n 0, 1) := by decide +kernel
theorem dX4_take_28 : decode cX4_take 28 = .ok (.dup, 1) := by decide +kernel
theorem dX4_take_29 : decode cX4_take 29 = .ok (.getfield 15, 3) := by decide +kernel
theorem dX4_take_32 : decode cX4_take 32 = .ok (.iconst 1, 1) := by decide +kernel
theorem dX4_take_33 : decode cX4_take 33 = .ok (.iadd, 1) := by decide +kernel
theorem dX4_take_34 : decode cX4_take 34 = .ok (.putfield 15, 3) := by decide +kernel
theorem dX4_take_37 : decode cX4_take 37 = .ok (.iinc 4 1, 3) := by decide +kernel
theorem dX4_take_40 : decode cX4_take 40 = .ok (.goto (-37), 3) := by decide +kernel
theorem dX4_take_43 : decode cX4_take 43 = .ok (.return_, 1) := by decide +kernel
theorem dX4_readInto_0 : decode cX4_readInto 0 = .ok (.aload_n 1, 1) := by decide +kernel
theorem dX4_readInto_1 : decode cX4_readInto 1 = .ok (.invokevirtual 31, 3) := by decide +kernel
theorem dX4_readInto_4 : decode cX4_readInto 4 = .ok (.aload_n 0, 1) := by decide +kernel
theorem dX4_readInto_5 : decode cX4_readInto 5 = .ok (.bipush (-3), 2) := by decide +kernel
theorem dX4_readInto_7 : decode cX4_readInto 7 = .ok (.putfield 28, 3) := by decide +kernel
theorem dX4_readInto_10 : decode cX4_readInto 10 = .ok (.aload_n 0, 1) := by decide +kernel
theorem dX4_readInto_11 : decode cX4_readInto 11 = .ok (.iconst 0, 1) := by decide +kernel
theorem dX4_readInto_12 : decode cX4_readInto 12 = .ok (.putfield 25, 3) := by decide +kernel
theorem dX4_readInto_15 : decode cX4_readInto 15 = .ok (.aload_n 0, 1) := by decide +kernel
theorem dX4_readInto_16 : decode cX4_readInto 16 = .ok (.invokevirtual 36, 3) := by decide +kernel
theorem dX4_readInto_19 : decode cX4_readInto 19 = .ok (.iconst 0, 1) := by decide +kernel
theorem dX4_readInto_20 : decode cX4_readInto 20 = .ok (.istore_n 2, 1) := by decide +kernel
theorem dX4_readInto_21 : decode cX4_readInto 21 = .ok (.iload_n 2, 1) := by decide +kernel
theorem dX4_readInto_22 : decode cX4_readInto 22 = .ok (.sipush 240, 3) := by decide +kernel
theorem dX4_readInto_25 : decode cX4_readInto 25 = .ok (.if_icmp .ge 122, 3) := by decide +kernel
theorem dX4_readInto_28 : decode cX4_readInto 28 = .ok (.aload_n 0, 1) := by decide +kernel
theorem dX4_readInto_29 : decode cX4_readInto 29 = .ok (.getfield 19, 3) := by decide +kernel
theorem dX4_readInto_32 : decode cX4_readInto 32 = .ok (.ifCond .eq 115, 3) := by decide +kernel
theorem dX4_readInto_35 : decode cX4_readInto 35 = .ok (.aload_n 0, 1) := by decide +kernel
theorem dX4_readInto_36 : decode cX4_readInto 36 = .ok (.getfield 28, 3) := by decide +kernel
theorem dX4_readInto_39 : decode cX4_readInto 39 = .ok (.bipush (-3), 2) := by decide +kernel
theorem dX4_readInto_41 : decode cX4_readInto 41 = .ok (.if_icmp .ne 106, 3) := by decide +kernel
theorem dX4_readInto_44 : decode cX4_readInto 44 = .ok (.aload_n 0, 1) := by decide +kernel
theorem dX4_readInto_45 : decode cX4_readInto 45 = .ok (.invokevirtual 39, 3) := by decide +kernel
theorem dX4_readInto_48 : decode cX4_readInto 48 = .ok (.istore_n 3, 1) := by decide +kernel
theorem dX4_readInto_49 : decode cX4_readInto 49 = .ok (.iload_n 3, 1) := by decide +kernel
theorem dX4_readInto_50 : decode cX4_readInto 50 = .ok (.bipush (-3), 2) := by decide +kernel
theorem dX4_readInto_52 : decode cX4_readInto 52 = .ok (.if_icmp .eq 12, 3) := by decide +kernel
theorem dX4_readInto_55 : decode cX4_readInto 55 = .ok (.aload_n 0, 1) := by decide +kernel
theorem dX4_readInto_56 : decode cX4_readInto 56 = .ok (.aload_n 1, 1) := by decide +kernel
theorem dX4_readInto_57 : decode cX4_readInto 57 = .ok (.iload_n 3, 1) := by decide +kernel
theorem dX4_readInto_58 : decode cX4_readInto 58 = .ok (.invokevirtual 43, 3) := by decide +kernel
theorem dX4_readInto_61 : decode cX4_readInto 61 = .ok (.goto 74, 3) := by decide +kernel
theorem dX4_readInto_64 : decode cX4_readInto 64 = .ok (.aload_n 0, 1) := by decide +kernel
theorem dX4_readInto_65 : decode cX4_readInto 65 = .ok (.ldc 47, 2) := by decide +kernel
theorem dX4_readInto_67 : decode cX4_readInto 67 = .ok (.invokevirtual 49, 3) := by decide +kernel
theorem dX4_readInto_70 : decode cX4_readInto 70 = .ok (.ifCond .eq 14, 3) := by decide +kernel
theorem dX4_readInto_73 : decode cX4_readInto 73 = .ok (.aload_n 0, 1) := by decide +kernel
theorem dX4_readInto_74 : decode cX4_readInto 74 = .ok (.aload_n 1, 1) := by decide +kernel
theorem dX4_readInto_75 : decode cX4_readInto 75 = .ok (.bipush 40, 2) := by decide +kernel
theorem dX4_readInto_77 : decode cX4_readInto 77 = .ok (.iconst 1, 1) := by decide +kernel
theorem dX4_readInto_78 : decode cX4_readInto 78 = .ok (.invokevirtual 53, 3) := by decide +kernel
theorem dX4_readInto_81 : decode cX4_readInto 81 = .ok (.goto 54, 3) := by decide +kernel
theorem dX4_readInto_84 : decode cX4_readInto 84 = .ok (.aload_n 0, 1) := by decide +kernel
theorem dX4_readInto_85 : decode cX4_readInto 85 = .ok (.ldc 57, 2) := by decide +kernel
theorem dX4_readInto_87 : decode cX4_readInto 87 = .ok (.invokevirtual 49, 3) := by decide +kernel
theorem dX4_readInto_90 : decode cX4_readInto 90 = .ok (.ifCond .eq 14, 3) := by decide +kernel
theorem dX4_readInto_93 : decode cX4_readInto 93 = .ok (.aload_n 0, 1) := by decide +kernel
theorem dX4_readInto_94 : decode cX4_readInto 94 = .ok (.aload_n 1, 1) := by decide +kernel
theorem dX4_readInto_95 : decode cX4_readInto 95 = .ok (.bipush 20, 2) := by decide +kernel
theorem dX4_readInto_97 : decode cX4_readInto 97 = .ok (.iconst (-1), 1) := by decide +kernel
theorem dX4_readInto_98 : decode cX4_readInto 98 = .ok (.invokevirtual 53, 3) := by decide +kernel
theorem dX4_readInto_101 : decode cX4_readInto 101 = .ok (.goto 34, 3) := by decide +kernel
theorem dX4_readInto_104 : decode cX4_readInto 104 = .ok (.aload_n 0, 1) := by decide +kernel
theorem dX4_readInto_105 : decode cX4_readInto 105 = .ok (.ldc 59, 2) := by decide +kernel
theorem dX4_readInto_107 : decode cX4_readInto 107 = .ok (.invokevirtual 49, 3) := by decide +kernel
theorem dX4_readInto_110 : decode cX4_readInto 110 = .ok (.ifCond .eq 21, 3) := by decide +kernel
theorem dX4_readInto_113 : decode cX4_readInto 113 = .ok (.aload_n 0, 1) := by decide +kernel
theorem dX4_readInto_114 : decode cX4_readInto 114 = .ok (.invokevirtual 36, 3) := by decide +kernel
theorem dX4_readInto_117 : decode cX4_readInto 117 = .ok (.aload_n 1, 1) := by decide +kernel
theorem dX4_readInto_118 : decode cX4_readInto 118 = .ok (.aload_n 0, 1) := by decide +kernel
theorem dX4_readInto_119 : decode cX4_readInto 119 = .ok (.iconst 1, 1) := by decide +kernel
theorem dX4_readInto_120 : decode cX4_readInto 120 = .ok (.bipush 20, 2) := by decide +kernel
theorem dX4_readInto_122 : decode cX4_readInto 122 = .ok (.invokevirtual 61, 3) := by decide +kernel
theorem dX4_readInto_125 : decode cX4_readInto 125 = .ok (.putfield 65, 3) := by decide +kernel
theorem dX4_readInto_128 : decode cX4_readInto 128 = .ok (.goto 7, 3) := by decide +kernel
theorem dX4_readInto_131 : decode cX4_readInto 131 = .ok (.aload_n 0, 1) := by decide +kernel
theorem dX4_readInto_132 : decode cX4_readInto 132 = .ok (.invokevirtual 67, 3) := by decide +kernel
theorem dX4_readInto_135 : decode cX4_readInto 135 = .ok (.aload_n 0, 1) := by decide +kernel
theorem dX4_readInto_136 : decode cX4_readInto 136 = .ok (.bipush 59, 2) := by decide +kernel
theorem dX4_readInto_138 : decode cX4_readInto 138 = .ok (.invokevirtual 70, 3) := by decide +kernel
theorem dX4_readInto_141 : decode cX4_readInto 141 = .ok (.iinc 2 1, 3) := by decide +kernel
theorem dX4_readInto_144 : decode cX4_readInto 144 = .ok (.goto (-123), 3) := by decide +kernel
theorem dX4_readInto_147 : decode cX4_readInto 147 = .ok (.aload_n 0, 1) := by decide +kernel
theorem dX4_readInto_148 : decode cX4_readInto 148 = .ok (.getfield 28, 3) := by decide +kernel
theorem dX4_readInto_151 : decode cX4_readInto 151 = .ok (.ireturn, 1) := by decide +kernel
theorem dX4_readBalloon_0 : decode cX4_readBalloon 0 = .ok (.aload_n 1, 1) := by decide +kernel
theorem dX4_readBalloon_1 : decode cX4_readBalloon 1 = .ok (.getfield 74, 3) := by decide +kernel
theorem dX4_readBalloon_4 : decode cX4_readBalloon 4 = .ok (.bipush 6, 2) := by decide +kernel
theorem dX4_readBalloon_6 : decode cX4_readBalloon 6 = .ok (.if_icmp .lt 8, 3) := by decide +kernel
theorem dX4_readBalloon_9 : decode cX4_readBalloon 9 = .ok (.aload_n 0, 1) := by decide +kernel
theorem dX4_readBalloon_10 : decode cX4_readBalloon 10 = .ok (.invokevirtual 67, 3) := by decide +kernel
theorem dX4_readBalloon_13 : decode cX4_readBalloon 13 = .ok (.return_, 1) := by decide +kernel
theorem dX4_readBalloon_14 : decode cX4_readBalloon 14 = .ok (.aload_n 0, 1) := by decide +kernel
theorem dX4_readBalloon_15 : decode cX4_readBalloon 15 = .ok (.invokevirtual 36, 3) := by decide +kernel
theorem dX4_readBalloon_18 : decode cX4_readBalloon 18 = .ok (.aload_n 0, 1) := by decide +kernel
theorem dX4_readBalloon_19 : decode cX4_readBalloon 19 = .ok (.getstatic 77, 3) := by decide +kernel
theorem dX4_readBalloon_22 : decode cX4_readBalloon 22 = .ok (.iconst 1, 1) := by decide +kernel
theorem dX4_readBalloon_23 : decode cX4_readBalloon 23 = .ok (.iaload, 1) := by decide +kernel
theorem dX4_readBalloon_24 : decode cX4_readBalloon 24 = .ok (.getstatic 81, 3) := by decide +kernel
theorem dX4_readBalloon_27 : decode cX4_readBalloon 27 = .ok (.iconst 1, 1) := by decide +kernel
theorem dX4_readBalloon_28 : decode cX4_readBalloon 28 = .ok (.iaload, 1) := by decide +kernel
theorem dX4_readBalloon_29 : decode cX4_readBalloon 29 = .ok (.invokevirtual 61, 3) := by decide +kernel
theorem dX4_readBalloon_32 : decode cX4_readBalloon 32 = .ok (.istore_n 3, 1) := by decide +kernel
theorem dX4_readBalloon_33 : decode cX4_readBalloon 33 = .ok (.aload_n 0, 1) := by decide +kernel
theorem dX4_readBalloon_34 : decode cX4_readBalloon 34 = .ok (.ldc 84, 2) := by decide +kernel
theorem dX4_readBalloon_36 : decode cX4_readBalloon 36 = .ok (.invokevirtual 86, 3) := by decide +kernel
theorem dX4_readBalloon_39 : decode cX4_readBalloon 39 = .ok (.aload_n 1, 1) := by decide +kernel
theorem dX4_readBalloon_40 : decode cX4_readBalloon 40 = .ok (.iload_n 2, 1) := by decide +kernel
theorem dX4_readBalloon_41 : decode cX4_readBalloon 41 = .ok (.iload_n 3, 1) := by decide +kernel
theorem dX4_readBalloon_42 : decode cX4_readBalloon 42 = .ok (.aload_n 0, 1) := by decide +kernel
theorem dX4_readBalloon_43 : decode cX4_readBalloon 43 = .ok (.getstatic 77, 3) := by decide +kernel
theorem dX4_readBalloon_46 : decode cX4_readBalloon 46 = .ok (.iconst 2, 1) := by decide +kernel
theorem dX4_readBalloon_47 : decode cX4_readBalloon 47 = .ok (.iaload, 1) := by decide +kernel
theorem dX4_readBalloon_48 : decode cX4_readBalloon 48 = .ok (.getstatic 81, 3) := by decide +kernel
theorem dX4_readBalloon_51 : decode cX4_readBalloon 51 = .ok (.iconst 2, 1) := by decide +kernel
theorem dX4_readBalloon_52 : decode cX4_readBalloon 52 = .ok (.iaload, 1) := by decide +kernel
theorem dX4_readBalloon_53 : decode cX4_readBalloon 53 = .ok (.invokevirtual 61, 3) := by decide +kernel
theorem dX4_readBalloon_56 : decode cX4_readBalloon 56 = .ok (.invokevirtual 90, 3) := by decide +kernel
theorem dX4_readBalloon_59 : decode cX4_readBalloon 59 = .ok (.aload_n 1, 1) := by decide +kernel
theorem dX4_readBalloon_60 : decode cX4_readBalloon 60 = .ok (.getfield 94, 3) := by decide +kernel
theorem dX4_readBalloon_63 : decode cX4_readBalloon 63 = .ok (.aload_n 1, 1) := by decide +kernel
theorem dX4_readBalloon_64 : decode cX4_readBalloon 64 = .ok (.getfield 74, 3) := by decide +kernel
theorem dX4_readBalloon_67 : decode cX4_readBalloon 67 = .ok (.iconst 1, 1) := by decide +kernel
theorem dX4_readBalloon_68 : decode cX4_readBalloon 68 = .ok (.isub, 1) := by decide +kernel
theorem dX4_readBalloon_69 : decode cX4_readBalloon 69 = .ok (.aaload, 1) := by decide +kernel
theorem dX4_readBalloon_70 : decode cX4_readBalloon 70 = .ok (.getfield 98, 3) := by decide +kernel
theorem dX4_readBalloon_73 : decode cX4_readBalloon 73 = .ok (.astore 4, 2) := by decide +kernel
theorem dX4_readBalloon_75 : decode cX4_readBalloon 75 = .ok (.aload_n 0, 1) := by decide +kernel
theorem dX4_readBalloon_76 : decode cX4_readBalloon 76 = .ok (.ldc 103, 2) := by decide +kernel
theorem dX4_readBalloon_78 : decode cX4_readBalloon 78 = .ok (.aload 4, 2) := by decide +kernel
theorem dX4_readBalloon_80 : decode cX4_readBalloon 80 = .ok (.iconst 5, 1) := by decide +kernel
theorem dX4_readBalloon_81 : decode cX4_readBalloon 81 = .ok (.invokevirtual 105, 3) := by decide +kernel
theorem dX4_readBalloon_84 : decode cX4_readBalloon 84 = .ok (.aload_n 0, 1) := by decide +kernel
theorem dX4_readBalloon_85 : decode cX4_readBalloon 85 = .ok (.ldc 109, 2) := by decide +kernel
theorem dX4_readBalloon_87 : decode cX4_readBalloon 87 = .ok (.aload 4, 2) := by decide +kernel
theorem dX4_readBalloon_89 : decode cX4_readBalloon 89 = .ok (.bipush 6, 2) := by decide +kernel
theorem dX4_readBalloon_91 : decode cX4_readBalloon 91 = .ok (.invokevirtual 105, 3) := by decide +kernel
theorem dX4_readBalloon_94 : decode cX4_readBalloon 94 = .ok (.aload_n 0, 1) := by decide +kernel
theorem dX4_readBalloon_95 : decode cX4_readBalloon 95 = .ok (.ldc 111, 2) := by decide +kernel
theorem dX4_readBalloon_97 : decode cX4_readBalloon 97 = .ok (.aload 4, 2) := by decide +kernel
theorem dX4_readBalloon_99 : decode cX4_readBalloon 99 = .ok (.iconst 4, 1) := by decide +kernel
theorem dX4_readBalloon_100 : decode cX4_readBalloon 100 = .ok (.invokevirtual 105, 3) := by decide +kernel
theorem dX4_readBalloon_103 : decode cX4_readBalloon 103 = .ok (.aload_n 0, 1) := by decide +kernel
theorem dX4_readBalloon_104 : decode cX4_readBalloon 104 = .ok (.ldc 113, 2) := by decide +kernel
theorem dX4_readBalloon_106 : decode cX4_readBalloon 106 = .ok (.aload 4, 2) := by decide +kernel
theorem dX4_readBalloon_108 : decode cX4_readBalloon 108 = .ok (.bipush 7, 2) := by decide +kernel
theorem dX4_readBalloon_110 : decode cX4_readBalloon 110 = .ok (.invokevirtual 105, 3) := by decide +kernel
theorem dX4_readBalloon_113 : decode cX4_readBalloon 113 = .ok (.aload_n 0, 1) := by decide +kernel
theorem dX4_readBalloon_114 : decode cX4_readBalloon 114 = .ok (.ldc 115, 2) := by decide +kernel
theorem dX4_readBalloon_116 : decode cX4_readBalloon 116 = .ok (.aload 4, 2) := by decide +kernel
theorem dX4_readBalloon_118 : decode cX4_readBalloon 118 = .ok (.bipush 8, 2) := by decide +kernel
theorem dX4_readBalloon_120 : decode cX4_readBalloon 120 = .ok (.invokevirtual 105, 3) := by decide +kernel
theorem dX4_readBalloon_123 : decode cX4_readBalloon 123 = .ok (.return_, 1) := by decide +kernel
theorem dX4_readPart_0 : decode cX4_readPart 0 = .ok (.aload_n 0, 1) := by decide +kernel
theorem dX4_readPart_1 : decode cX4_readPart 1 = .ok (.getfield 28, 3) := by decide +kernel
theorem dX4_readPart_4 : decode cX4_readPart 4 = .ok (.bipush (-3), 2) := by decide +kernel
theorem dX4_readPart_6 : decode cX4_readPart 6 = .ok (.if_icmp .ne 32, 3) := by decide +kernel
theorem dX4_readPart_9 : decode cX4_readPart 9 = .ok (.aload_n 0, 1) := by decide +kernel
theorem dX4_readPart_10 : decode cX4_readPart 10 = .ok (.aload_n 1, 1) := by decide +kernel
theorem dX4_readPart_11 : decode cX4_readPart 11 = .ok (.invokevirtual 49, 3) := by decide +kernel
theorem dX4_readPart_14 : decode cX4_readPart 14 = .ok (.ifCond .eq 24, 3) := by decide +kernel
theorem dX4_readPart_17 : decode cX4_readPart 17 = .ok (.aload_n 0, 1) := by decide +kernel
theorem dX4_readPart_18 : decode cX4_readPart 18 = .ok (.invokevirtual 36, 3) := by decide +kernel
theorem dX4_readPart_21 : decode cX4_readPart 21 = .ok (.aload_n 2, 1) := by decide +kernel
theorem dX4_readPart_22 : decode cX4_readPart 22 = .ok (.iload_n 3, 1) := by decide +kernel
theorem dX4_readPart_23 : decode cX4_readPart 23 = .ok (.aload_n 0, 1) := by decide +kernel
theorem dX4_readPart_24 : decode cX4_readPart 24 = .ok (.getstatic 77, 3) := by decide +kernel
theorem dX4_readPart_27 : decode cX4_readPart 27 = .ok (.iload_n 3, 1) := by decide +kernel
theorem dX4_readPart_28 : decode cX4_readPart 28 = .ok (.iaload, 1) := by decide +kernel
theorem dX4_readPart_29 : decode cX4_readPart 29 = .ok (.getstatic 81, 3) := by decide +kernel
theorem dX4_readPart_32 : decode cX4_readPart 32 = .ok (.iload_n 3, 1) := by decide +kernel
theorem dX4_readPart_33 : decode cX4_readPart 33 = .ok (.iaload, 1) := by decide +kernel
theorem dX4_readPart_34 : decode cX4_readPart 34 = .ok (.invokevirtual 61, 3) := by decide +kernel
theorem dX4_readPart_37 : decode cX4_readPart 37 = .ok (.iastore, 1) := by decide +kernel
theorem dX4_readPart_38 : decode cX4_readPart 38 = .ok (.return_, 1) := by decide +kernel
theorem dX4_readWarmth_0 : decode cX4_readWarmth 0 = .ok (.aload_n 0, 1) := by decide +kernel
theorem dX4_readWarmth_1 : decode cX4_readWarmth 1 = .ok (.invokevirtual 36, 3) := by decide +kernel
theorem dX4_readWarmth_4 : decode cX4_readWarmth 4 = .ok (.aload_n 0, 1) := by decide +kernel
theorem dX4_readWarmth_5 : decode cX4_readWarmth 5 = .ok (.iconst 0, 1) := by decide +kernel
theorem dX4_readWarmth_6 : decode cX4_readWarmth 6 = .ok (.bipush 23, 2) := by decide +kernel
theorem dX4_readWarmth_8 : decode cX4_readWarmth 8 = .ok (.invokevirtual 61, 3) := by decide +kernel
theorem dX4_readWarmth_11 : decode cX4_readWarmth 11 = .ok (.istore 4, 2) := by decide +kernel
theorem dX4_readWarmth_13 : decode cX4_readWarmth 13 = .ok (.aload_n 0, 1) := by decide +kernel
theorem dX4_readWarmth_14 : decode cX4_readWarmth 14 = .ok (.iconst 0, 1) := by decide +kernel
theorem dX4_readWarmth_15 : decode cX4_readWarmth 15 = .ok (.iload_n 2, 1) := by decide +kernel
theorem dX4_readWarmth_16 : decode cX4_readWarmth 16 = .ok (.invokevirtual 61, 3) := by decide +kernel
theorem dX4_readWarmth_19 : decode cX4_readWarmth 19 = .ok (.istore 5, 2) := by decide +kernel
theorem dX4_readWarmth_21 : decode cX4_readWarmth 21 = .ok (.aload_n 1, 1) := by decide +kernel
theorem dX4_readWarmth_22 : decode cX4_readWarmth 22 = .ok (.getfield 117, 3) := by decide +kernel
theorem dX4_readWarmth_25 : decode cX4_readWarmth 25 = .ok (.iload 4, 2) := by decide +kernel
theorem dX4_readWarmth_27 : decode cX4_readWarmth 27 = .ok (.iload_n 3, 1) := by decide +kernel
theorem dX4_readWarmth_28 : decode cX4_readWarmth 28 = .ok (.iload 5, 2) := by decide +kernel
theorem dX4_readWarmth_30 : decode cX4_readWarmth 30 = .ok (.imul, 1) := by decide +kernel
theorem dX4_readWarmth_31 : decode cX4_readWarmth 31 = .ok (.iastore, 1) := by decide +kernel
theorem dX4_readWarmth_32 : decode cX4_readWarmth 32 = .ok (.return_, 1) := by decide +kernel
theorem dX4_kindHere_0 : decode cX4_kindHere 0 = .ok (.iconst 0, 1) := by decide +kernel
theorem dX4_kindHere_1 : decode cX4_kindHere 1 = .ok (.istore_n 1, 1) := by decide +kernel
theorem dX4_kindHere_2 : decode cX4_kindHere 2 = .ok (.iload_n 1, 1) := by decide +kernel
theorem dX4_kindHere_3 : decode cX4_kindHere 3 = .ok (.bipush 6, 2) := by decide +kernel
theorem dX4_kindHere_5 : decode cX4_kindHere 5 = .ok (.if_icmp .ge 22, 3) := by decide +kernel
theorem dX4_kindHere_8 : decode cX4_kindHere 8 = .ok (.aload_n 0, 1) := by decide +kernel
theorem dX4_kindHere_9 : decode cX4_kindHere 9 = .ok (.iload_n 1, 1) := by decide +kernel
theorem dX4_kindHere_10 : decode cX4_kindHere 10 = .ok (.invokestatic 120, 3) := by decide +kernel
theorem dX4_kindHere_13 : decode cX4_kindHere 13 = .ok (.invokevirtual 49, 3) := by decide +kernel
theorem dX4_kindHere_16 : decode cX4_kindHere 16 = .ok (.ifCond .eq 5, 3) := by decide +kernel
theorem dX4_kindHere_19 : decode cX4_kindHere 19 = .ok (.iload_n 1, 1) := by decide +kernel
theorem dX4_kindHere_20 : decode cX4_kindHere 20 = .ok (.ireturn, 1) := by decide +kernel
theorem dX4_kindHere_21 : decode cX4_kindHere 21 = .ok (.iinc 1 1, 3) := by decide +kernel
theorem dX4_kindHere_24 : decode cX4_kindHere 24 = .ok (.goto (-22), 3) := by decide +kernel
theorem dX4_kindHere_27 : decode cX4_kindHere 27 = .ok (.bipush (-3), 2) := by decide +kernel
theorem dX4_kindHere_29 : decode cX4_kindHere 29 = .ok (.ireturn, 1) := by decide +kernel
theorem dX4_nameOf_0 : decode cX4_nameOf 0 = .ok (.iload_n 0, 1) := by decide +kernel
theorem dX4_nameOf_1 : decode cX4_nameOf 1 = .ok (.tableswitch 50 1 5 #[35, 38, 41, 44, 47], 35) := by decide +kernel
theorem dX4_nameOf_36 : decode cX4_nameOf 36 = .ok (.ldc 124, 2) := by decide +kernel
theorem dX4_nameOf_38 : decode cX4_nameOf 38 = .ok (.areturn, 1) := by decide +kernel
theorem dX4_nameOf_39 : decode cX4_nameOf 39 = .ok (.ldc 126, 2) := by decide +kernel
theorem dX4_nameOf_41 : decode cX4_nameOf 41 = .ok (.areturn, 1) := by decide +kernel
theorem dX4_nameOf_42 : decode cX4_nameOf 42 = .ok (.ldc 128, 2) := by decide +kernel
theorem dX4_nameOf_44 : decode cX4_nameOf 44 = .ok (.areturn, 1) := by decide +kernel
theorem dX4_nameOf_45 : decode cX4_nameOf 45 = .ok (.ldc 130, 2) := by decide +kernel
theorem dX4_nameOf_47 : decode cX4_nameOf 47 = .ok (.areturn, 1) := by decide +kernel
theorem dX4_nameOf_48 : decode cX4_nameOf 48 = .ok (.ldc 132, 2) := by decide +kernel
theorem dX4_nameOf_50 : decode cX4_nameOf 50 = .ok (.areturn, 1) := by decide +kernel
theorem dX4_nameOf_51 : decode cX4_nameOf 51 = .ok (.ldc 134, 2) := by decide +kernel
theorem dX4_nameOf_53 : decode cX4_nameOf 53 = .ok (.areturn, 1) := by decide +kernel
theorem dX4_isName_0 : decode cX4_isName 0 = .ok (.aload_n 0, 1) := by decide +kernel
theorem dX4_isName_1 : decode cX4_isName 1 = .ok (.getfield 19, 3) := by decide +kernel
theorem dX4_isName_4 : decode cX4_isName 4 = .ok (.iconst 1, 1) := by decide +kernel
theorem dX4_isName_5 : decode cX4_isName 5 = .ok (.if_icmp .ne 19, 3) := by decide +kernel
theorem dX4_isName_8 : decode cX4_isName 8 = .ok (.aload_n 0, 1) := by decide +kernel
theorem dX4_isName_9 : decode cX4_isName 9 = .ok (.getfield 25, 3) := by decide +kernel
theorem dX4_isName_12 : decode cX4_isName 12 = .ok (.aload_n 0, 1) := by decide +kernel
theorem dX4_isName_13 : decode cX4_isName 13 = .ok (.getfield 22, 3) := by decide +kernel
theorem dX4_isName_16 : decode cX4_isName 16 = .ok (.isub, 1) := by decide +kernel
theorem dX4_isName_17 : decode cX4_isName 17 = .ok (.aload_n 1, 1) := by decide +kernel
theorem dX4_isName_18 : decode cX4_isName 18 = .ok (.invokevirtual 136, 3) := by decide +kernel
theorem dX4_isName_21 : decode cX4_isName 21 = .ok (.if_icmp .eq 5, 3) := by decide +kernel
theorem dX4_isName_24 : decode cX4_isName 24 = .ok (.iconst 0, 1) := by decide +kernel
theorem dX4_isName_25 : decode cX4_isName 25 = .ok (.ireturn, 1) := by decide +kernel
theorem dX4_isName_26 : decode cX4_isName 26 = .ok (.iconst 0, 1) := by decide +kernel
theorem dX4_isName_27 : decode cX4_isName 27 = .ok (.istore_n 2, 1) := by decide +kernel
theorem dX4_isName_28 : decode cX4_isName 28 = .ok (.iload_n 2, 1) := by decide +kernel
theorem dX4_isName_29 : decode cX4_isName 29 = .ok (.aload_n 1, 1) := by decide +kernel
theorem dX4_isName_30 : decode cX4_isName 30 = .ok (.invokevirtual 136, 3) := by decide +kernel
theorem dX4_isName_33 : decode cX4_isName 33 = .ok (.if_icmp .ge 30, 3) := by decide +kernel
theorem dX4_isName_36 : decode cX4_isName 36 = .ok (.aload_n 0, 1) := by decide +kernel
theorem dX4_isName_37 : decode cX4_isName 37 = .ok (.getfield 9, 3) := by decide +kernel
theorem dX4_isName_40 : decode cX4_isName 40 = .ok (.aload_n 0, 1) := by decide +kernel
theorem dX4_isName_41 : decode cX4_isName 41 = .ok (.getfield 22, 3) := by decide +kernel
theorem dX4_isName_44 : decode cX4_isName 44 = .ok (.iload_n 2, 1) := by decide +kernel
theorem dX4_isName_45 : decode cX4_isName 45 = .ok (.iadd, 1) := by decide +kernel
theorem dX4_isName_46 : decode cX4_isName 46 = .ok (.baload, 1) := by decide +kernel
theorem dX4_isName_47 : decode cX4_isName 47 = .ok (.aload_n 1, 1) := by decide +kernel
theorem dX4_isName_48 : decode cX4_isName 48 = .ok (.iload_n 2, 1) := by decide +kernel
theorem dX4_isName_49 : decode cX4_isName 49 = .ok (.invokevirtual 141, 3) := by decide +kernel
theorem dX4_isName_52 : decode cX4_isName 52 = .ok (.if_icmp .eq 5, 3) := by decide +kernel
theorem dX4_isName_55 : decode cX4_isName 55 = .ok (.iconst 0, 1) := by decide +kernel
theorem dX4_isName_56 : decode cX4_isName 56 = .ok (.ireturn, 1) := by decide +kernel
theorem dX4_isName_57 : decode cX4_isName 57 = .ok (.iinc 2 1, 3) := by decide +kernel
theorem dX4_isName_60 : decode cX4_isName 60 = .ok (.goto (-32), 3) := by decide +kernel
theorem dX4_isName_63 : decode cX4_isName 63 = .ok (.iconst 1, 1) := by decide +kernel
theorem dX4_isName_64 : decode cX4_isName 64 = .ok (.ireturn, 1) := by decide +kernel
theorem dX4_passName_0 : decode cX4_passName 0 = .ok (.aload_n 0, 1) := by decide +kernel
theorem dX4_passName_1 : decode cX4_passName 1 = .ok (.aload_n 1, 1) := by decide +kernel
theorem dX4_passName_2 : decode cX4_passName 2 = .ok (.invokevirtual 49, 3) := by decide +kernel
theorem dX4_passName_5 : decode cX4_passName 5 = .ok (.ifCond .eq 10, 3) := by decide +kernel
theorem dX4_passName_8 : decode cX4_passName 8 = .ok (.aload_n 0, 1) := by decide +kernel
theorem dX4_passName_9 : decode cX4_passName 9 = .ok (.invokevirtual 36, 3) := by decide +kernel
theorem dX4_passName_12 : decode cX4_passName 12 = .ok (.goto 7, 3) := by decide +kernel
theorem dX4_passName_15 : decode cX4_passName 15 = .ok (.aload_n 0, 1) := by decide +kernel
theorem dX4_passName_16 : decode cX4_passName 16 = .ok (.invokevirtual 67, 3) := by decide +kernel
theorem dX4_passName_19 : decode cX4_passName 19 = .ok (.return_, 1) := by decide +kernel
theorem dX4_passSign_0 : decode cX4_passSign 0 = .ok (.aload_n 0, 1) := by decide +kernel
theorem dX4_passSign_1 : decode cX4_passSign 1 = .ok (.getfield 19, 3) := by decide +kernel
theorem dX4_passSign_4 : decode cX4_passSign 4 = .ok (.iconst 3, 1) := by decide +kernel
theorem dX4_passSign_5 : decode cX4_passSign 5 = .ok (.if_icmp .ne 23, 3) := by decide +kernel
theorem dX4_passSign_8 : decode cX4_passSign 8 = .ok (.aload_n 0, 1) := by decide +kernel
theorem dX4_passSign_9 : decode cX4_passSign 9 = .ok (.getfield 9, 3) := by decide +kernel
theorem dX4_passSign_12 : decode cX4_passSign 12 = .ok (.aload_n 0, 1) := by decide +kernel
theorem dX4_passSign_13 : decode cX4_passSign 13 = .ok (.getfield 22, 3) := by decide +kernel
theorem dX4_passSign_16 : decode cX4_passSign 16 = .ok (.baload, 1) := by decide +kernel
theorem dX4_passSign_17 : decode cX4_passSign 17 = .ok (.iload_n 1, 1) := by decide +kernel
theorem dX4_passSign_18 : decode cX4_passSign 18 = .ok (.if_icmp .ne 10, 3) := by decide +kernel
theorem dX4_passSign_21 : decode cX4_passSign 21 = .ok (.aload_n 0, 1) := by decide +kernel
theorem dX4_passSign_22 : decode cX4_passSign 22 = .ok (.invokevirtual 36, 3) := by decide +kernel
theorem dX4_passSign_25 : decode cX4_passSign 25 = .ok (.goto 7, 3) := by decide +kernel
theorem dX4_passSign_28 : decode cX4_passSign 28 = .ok (.aload_n 0, 1) := by decide +kernel
theorem dX4_passSign_29 : decode cX4_passSign 29 = .ok (.invokevirtual 67, 3) := by decide +kernel
theorem dX4_passSign_32 : decode cX4_passSign 32 = .ok (.return_, 1) := by decide +kernel
theorem dX4_number_0 : decode cX4_number 0 = .ok (.aload_n 0, 1) := by decide +kernel
theorem dX4_number_1 : decode cX4_number 1 = .ok (.getfield 19, 3) := by decide +kernel
theorem dX4_number_4 : decode cX4_number 4 = .ok (.iconst 2, 1) := by decide +kernel
theorem dX4_number_5 : decode cX4_number 5 = .ok (.if_icmp .ne 16, 3) := by decide +kernel
theorem dX4_number_8 : decode cX4_number 8 = .ok (.aload_n 0, 1) := by decide +kernel
theorem dX4_number_9 : decode cX4_number 9 = .ok (.getfield 25, 3) := by decide +kernel
theorem dX4_number_12 : decode cX4_number 12 = .ok (.aload_n 0, 1) := by decide +kernel
theorem dX4_number_13 : decode cX4_number 13 = .ok (.getfield 22, 3) := by decide +kernel
theorem dX4_number_16 : decode cX4_number 16 = .ok (.isub, 1) := by decide +kernel
theorem dX4_number_17 : decode cX4_number 17 = .ok (.iconst 3, 1) := by decide +kernel
theorem dX4_number_18 : decode cX4_number 18 = .ok (.if_icmp .le 9, 3) := by decide +kernel
theorem dX4_number_21 : decode cX4_number 21 = .ok (.aload_n 0, 1) := by decide +kernel
theorem dX4_number_22 : decode cX4_number 22 = .ok (.invokevirtual 67, 3) := by decide +kernel
theorem dX4_number_25 : decode cX4_number 25 = .ok (.iload_n 1, 1) := by decide +kernel
theorem dX4_number_26 : decode cX4_number 26 = .ok (.ireturn, 1) := by decide +kernel
theorem dX4_number_27 : decode cX4_number 27 = .ok (.iconst 0, 1) := by decide +kernel
theorem dX4_number_28 : decode cX4_number 28 = .ok (.istore_n 3, 1) := by decide +kernel
theorem dX4_number_29 : decode cX4_number 29 = .ok (.aload_n 0, 1) := by decide +kernel
theorem dX4_number_30 : decode cX4_number 30 = .ok (.getfield 22, 3) := by decide +kernel
theorem dX4_number_33 : decode cX4_number 33 = .ok (.istore 4, 2) := by decide +kernel
theorem dX4_number_35 : decode cX4_number 35 = .ok (.iload 4, 2) := by decide +kernel
theorem dX4_number_37 : decode cX4_number 37 = .ok (.aload_n 0, 1) := by decide +kernel
theorem dX4_number_38 : decode cX4_number 38 = .ok (.getfield 25, 3) := by decide +kernel
theorem dX4_number_41 : decode cX4_number 41 = .ok (.if_icmp .ge 25, 3) := by decide +kernel
theorem dX4_number_44 : decode cX4_number 44 = .ok (.iload_n 3, 1) := by decide +kernel
theorem dX4_number_45 : decode cX4_number 45 = .ok (.bipush 10, 2) := by decide +kernel
theorem dX4_number_47 : decode cX4_number 47 = .ok (.imul, 1) := by decide +kernel
theorem dX4_number_48 : decode cX4_number 48 = .ok (.aload_n 0, 1) := by decide +kernel
theorem dX4_number_49 : decode cX4_number 49 = .ok (.getfield 9, 3) := by decide +kernel
theorem dX4_number_52 : decode cX4_number 52 = .ok (.iload 4, 2) := by decide +kernel
theorem dX4_number_54 : decode cX4_number 54 = .ok (.baload, 1) := by decide +kernel
theorem dX4_number_55 : decode cX4_number 55 = .ok (.bipush 48, 2) := by decide +kernel
theorem dX4_number_57 : decode cX4_number 57 = .ok (.isub, 1) := by decide +kernel
theorem dX4_number_58 : decode cX4_number 58 = .ok (.iadd, 1) := by decide +kernel
theorem dX4_number_59 : decode cX4_number 59 = .ok (.istore_n 3, 1) := by decide +kernel
theorem dX4_number_60 : decode cX4_number 60 = .ok (.iinc 4 1, 3) := by decide +kernel
theorem dX4_number_63 : decode cX4_number 63 = .ok (.goto (-28), 3) := by decide +kernel
theorem dX4_number_66 : decode cX4_number 66 = .ok (.iload_n 3, 1) := by decide +kernel
theorem dX4_number_67 : decode cX4_number 67 = .ok (.iload_n 1, 1) := by decide +kernel
theorem dX4_number_68 : decode cX4_number 68 = .ok (.iload_n 2, 1) := by decide +kernel
theorem dX4_number_69 : decode cX4_number 69 = .ok (.invokestatic 145, 3) := by decide +kernel
theorem dX4_number_72 : decode cX4_number 72 = .ok (.ifCond .ne 9, 3) := by decide +kernel
theorem dX4_number_75 : decode cX4_number 75 = .ok (.aload_n 0, 1) := by decide +kernel
theorem dX4_number_76 : decode cX4_number 76 = .ok (.invokevirtual 67, 3) := by decide +kernel
theorem dX4_number_79 : decode cX4_number 79 = .ok (.iload_n 1, 1) := by decide +kernel
theorem dX4_number_80 : decode cX4_number 80 = .ok (.ireturn, 1) := by decide +kernel
theorem dX4_number_81 : decode cX4_number 81 = .ok (.aload_n 0, 1) := by decide +kernel
theorem dX4_number_82 : decode cX4_number 82 = .ok (.invokevirtual 36, 3) := by decide +kernel
theorem dX4_number_85 : decode cX4_number 85 = .ok (.iload_n 3, 1) := by decide +kernel
theorem dX4_number_86 : decode cX4_number 86 = .ok (.ireturn, 1) := by decide +kernel
theorem dX4_fail_0 : decode cX4_fail 0 = .ok (.aload_n 0, 1) := by decide +kernel
theorem dX4_fail_1 : decode cX4_fail 1 = .ok (.getfield 28, 3) := by decide +kernel
theorem dX4_fail_4 : decode cX4_fail 4 = .ok (.bipush (-3), 2) := by decide +kernel
theorem dX4_fail_6 : decode cX4_fail 6 = .ok (.if_icmp .ne 11, 3) := by decide +kernel
theorem dX4_fail_9 : decode cX4_fail 9 = .ok (.aload_n 0, 1) := by decide +kernel
theorem dX4_fail_10 : decode cX4_fail 10 = .ok (.aload_n 0, 1) := by decide +kernel
theorem dX4_fail_11 : decode cX4_fail 11 = .ok (.getfield 22, 3) := by decide +kernel
theorem dX4_fail_14 : decode cX4_fail 14 = .ok (.putfield 28, 3) := by decide +kernel
theorem dX4_fail_17 : decode cX4_fail 17 = .ok (.return_, 1) := by decide +kernel
theorem dX4_advance_0 : decode cX4_advance 0 = .ok (.aload_n 0, 1) := by decide +kernel
theorem dX4_advance_1 : decode cX4_advance 1 = .ok (.aload_n 0, 1) := by decide +kernel
theorem dX4_advance_2 : decode cX4_advance 2 = .ok (.getfield 25, 3) := by decide +kernel
theorem dX4_advance_5 : decode cX4_advance 5 = .ok (.putfield 22, 3) := by decide +kernel
theorem dX4_advance_8 : decode cX4_advance 8 = .ok (.aload_n 0, 1) := by decide +kernel
theorem dX4_advance_9 : decode cX4_advance 9 = .ok (.getfield 22, 3) := by decide +kernel
theorem dX4_advance_12 : decode cX4_advance 12 = .ok (.aload_n 0, 1) := by decide +kernel
theorem dX4_advance_13 : decode cX4_advance 13 = .ok (.getfield 15, 3) := by decide +kernel
theorem dX4_advance_16 : decode cX4_advance 16 = .ok (.if_icmp .ge 30, 3) := by decide +kernel
theorem dX4_advance_19 : decode cX4_advance 19 = .ok (.aload_n 0, 1) := by decide +kernel
theorem dX4_advance_20 : decode cX4_advance 20 = .ok (.getfield 9, 3) := by decide +kernel
theorem dX4_advance_23 : decode cX4_advance 23 = .ok (.aload_n 0, 1) := by decide +kernel
theorem dX4_advance_24 : decode cX4_advance 24 = .ok (.getfield 22, 3) := by decide +kernel
theorem dX4_advance_27 : decode cX4_advance 27 = .ok (.baload, 1) := by decide +kernel
theorem dX4_advance_28 : decode cX4_advance 28 = .ok (.bipush 32, 2) := by decide +kernel
theorem dX4_advance_30 : decode cX4_advance 30 = .ok (.if_icmp .ne 16, 3) := by decide +kernel
theorem dX4_advance_33 : decode cX4_advance 33 = .ok (.aload_n 0, 1) := by decide +kernel
theorem dX4_advance_34 : decode cX4_advance 34 = .ok (.dup, 1) := by decide +kernel
theorem dX4_advance_35 : decode cX4_advance 35 = .ok (.getfield 22, 3) := by decide +kernel
theorem dX4_advance_38 : decode cX4_advance 38 = .ok (.iconst 1, 1) := by decide +kernel
theorem dX4_advance_39 : decode cX4_advance 39 = .ok (.iadd, 1) := by decide +kernel
theorem dX4_advance_40 : decode cX4_advance 40 = .ok (.putfield 22, 3) := by decide +kernel
theorem dX4_advance_43 : decode cX4_advance 43 = .ok (.goto (-35), 3) := by decide +kernel
theorem dX4_advance_46 : decode cX4_advance 46 = .ok (.aload_n 0, 1) := by decide +kernel
theorem dX4_advance_47 : decode cX4_advance 47 = .ok (.aload_n 0, 1) := by decide +kernel
theorem dX4_advance_48 : decode cX4_advance 48 = .ok (.aload_n 0, 1) := by decide +kernel
theorem dX4_advance_49 : decode cX4_advance 49 = .ok (.getfield 22, 3) := by decide +kernel
theorem dX4_advance_52 : decode cX4_advance 52 = .ok (.invokevirtual 149, 3) := by decide +kernel
theorem dX4_advance_55 : decode cX4_advance 55 = .ok (.putfield 19, 3) := by decide +kernel
theorem dX4_advance_58 : decode cX4_advance 58 = .ok (.aload_n 0, 1) := by decide +kernel
theorem dX4_advance_59 : decode cX4_advance 59 = .ok (.aload_n 0, 1) := by decide +kernel
theorem dX4_advance_60 : decode cX4_advance 60 = .ok (.getfield 22, 3) := by decide +kernel
theorem dX4_advance_63 : decode cX4_advance 63 = .ok (.iconst 1, 1) := by decide +kernel
theorem dX4_advance_64 : decode cX4_advance 64 = .ok (.iadd, 1) := by decide +kernel
theorem dX4_advance_65 : decode cX4_advance 65 = .ok (.aload_n 0, 1) := by decide +kernel
theorem dX4_advance_66 : decode cX4_advance 66 = .ok (.getfield 15, 3) := by decide +kernel
theorem dX4_advance_69 : decode cX4_advance 69 = .ok (.invokestatic 153, 3) := by decide +kernel
theorem dX4_advance_72 : decode cX4_advance 72 = .ok (.putfield 25, 3) := by decide +kernel
theorem dX4_advance_75 : decode cX4_advance 75 = .ok (.aload_n 0, 1) := by decide +kernel
theorem dX4_advance_76 : decode cX4_advance 76 = .ok (.getfield 19, 3) := by decide +kernel
theorem dX4_advance_79 : decode cX4_advance 79 = .ok (.iconst 1, 1) := by decide +kernel
theorem dX4_advance_80 : decode cX4_advance 80 = .ok (.if_icmp .eq 11, 3) := by decide +kernel
theorem dX4_advance_83 : decode cX4_advance 83 = .ok (.aload_n 0, 1) := by decide +kernel
theorem dX4_advance_84 : decode cX4_advance 84 = .ok (.getfield 19, 3) := by decide +kernel
theorem dX4_advance_87 : decode cX4_advance 87 = .ok (.iconst 2, 1) := by decide +kernel
theorem dX4_advance_88 : decode cX4_advance 88 = .ok (.if_icmp .ne 42, 3) := by decide +kernel
theorem dX4_advance_91 : decode cX4_advance 91 = .ok (.aload_n 0, 1) := by decide +kernel
theorem dX4_advance_92 : decode cX4_advance 92 = .ok (.getfield 25, 3) := by decide +kernel
theorem dX4_advance_95 : decode cX4_advance 95 = .ok (.aload_n 0, 1) := by decide +kernel
theorem dX4_advance_96 : decode cX4_advance 96 = .ok (.getfield 15, 3) := by decide +kernel
theorem dX4_advance_99 : decode cX4_advance 99 = .ok (.if_icmp .ge 31, 3) := by decide +kernel
theorem dX4_advance_102 : decode cX4_advance 102 = .ok (.aload_n 0, 1) := by decide +kernel
theorem dX4_advance_103 : decode cX4_advance 103 = .ok (.aload_n 0, 1) := by decide +kernel
theorem dX4_advance_104 : decode cX4_advance 104 = .ok (.getfield 25, 3) := by decide +kernel
theorem dX4_advance_107 : decode cX4_advance 107 = .ok (.invokevirtual 149, 3) := by decide +kernel
theorem dX4_advance_110 : decode cX4_advance 110 = .ok (.aload_n 0, 1) := by decide +kernel
theorem dX4_advance_111 : decode cX4_advance 111 = .ok (.getfield 19, 3) := by decide +kernel
theorem dX4_advance_114 : decode cX4_advance 114 = .ok (.if_icmp .ne 16, 3) := by decide +kernel
theorem dX4_advance_117 : decode cX4_advance 117 = .ok (.aload_n 0, 1) := by decide +kernel
theorem dX4_advance_118 : decode cX4_advance 118 = .ok (.dup, 1) := by decide +kernel
theorem dX4_advance_119 : decode cX4_advance 119 = .ok (.getfield 25, 3) := by decide +kernel
theorem dX4_advance_122 : decode cX4_advance 122 = .ok (.iconst 1, 1) := by decide +kernel
theorem dX4_advance_123 : decode cX4_advance 123 = .ok (.iadd, 1) := by decide +kernel
theorem dX4_advance_124 : decode cX4_advance 124 = .ok (.putfield 25, 3) := by decide +kernel
theorem dX4_advance_127 : decode cX4_advance 127 = .ok (.goto (-52), 3) := by decide +kernel
theorem dX4_advance_130 : decode cX4_advance 130 = .ok (.return_, 1) := by decide +kernel
theorem dX4_sortAt_0 : decode cX4_sortAt 0 = .ok (.iload_n 1, 1) := by decide +kernel
theorem dX4_sortAt_1 : decode cX4_sortAt 1 = .ok (.aload_n 0, 1) := by decide +kernel
theorem dX4_sortAt_2 : decode cX4_sortAt 2 = .ok (.getfield 15, 3) := by decide +kernel
theorem dX4_sortAt_5 : decode cX4_sortAt 5 = .ok (.if_icmp .lt 5, 3) := by decide +kernel
theorem dX4_sortAt_8 : decode cX4_sortAt 8 = .ok (.iconst 0, 1) := by decide +kernel
theorem dX4_sortAt_9 : decode cX4_sortAt 9 = .ok (.ireturn, 1) := by decide +kernel
theorem dX4_sortAt_10 : decode cX4_sortAt 10 = .ok (.aload_n 0, 1) := by decide +kernel
theorem dX4_sortAt_11 : decode cX4_sortAt 11 = .ok (.getfield 9, 3) := by decide +kernel
theorem dX4_sortAt_14 : decode cX4_sortAt 14 = .ok (.iload_n 1, 1) := by decide +kernel
theorem dX4_sortAt_15 : decode cX4_sortAt 15 = .ok (.baload, 1) := by decide +kernel
theorem dX4_sortAt_16 : decode cX4_sortAt 16 = .ok (.istore_n 2, 1) := by decide +kernel
theorem dX4_sortAt_17 : decode cX4_sortAt 17 = .ok (.iload_n 2, 1) := by decide +kernel
theorem dX4_sortAt_18 : decode cX4_sortAt 18 = .ok (.bipush 97, 2) := by decide +kernel
theorem dX4_sortAt_20 : decode cX4_sortAt 20 = .ok (.if_icmp .lt 11, 3) := by decide +kernel
theorem dX4_sortAt_23 : decode cX4_sortAt 23 = .ok (.iload_n 2, 1) := by decide +kernel
theorem dX4_sortAt_24 : decode cX4_sortAt 24 = .ok (.bipush 122, 2) := by decide +kernel
theorem dX4_sortAt_26 : decode cX4_sortAt 26 = .ok (.if_icmp .gt 5, 3) := by decide +kernel
theorem dX4_sortAt_29 : decode cX4_sortAt 29 = .ok (.iconst 1, 1) := by decide +kernel
theorem dX4_sortAt_30 : decode cX4_sortAt 30 = .ok (.ireturn, 1) := by decide +kernel
theorem dX4_sortAt_31 : decode cX4_sortAt 31 = .ok (.iload_n 2, 1) := by decide +kernel
theorem dX4_sortAt_32 : decode cX4_sortAt 32 = .ok (.bipush 48, 2) := by decide +kernel
theorem dX4_sortAt_34 : decode cX4_sortAt 34 = .ok (.if_icmp .lt 13, 3) := by decide +kernel
theorem dX4_sortAt_37 : decode cX4_sortAt 37 = .ok (.iload_n 2, 1) := by decide +kernel
theorem dX4_sortAt_38 : decode cX4_sortAt 38 = .ok (.bipush 57, 2) := by decide +kernel
theorem dX4_sortAt_40 : decode cX4_sortAt 40 = .ok (.if_icmp .gt 7, 3) := by decide +kernel
theorem dX4_sortAt_43 : decode cX4_sortAt 43 = .ok (.iconst 2, 1) := by decide +kernel
theorem dX4_sortAt_44 : decode cX4_sortAt 44 = .ok (.goto 4, 3) := by decide +kernel
theorem dX4_sortAt_47 : decode cX4_sortAt 47 = .ok (.iconst 3, 1) := by decide +kernel
theorem dX4_sortAt_48 : decode cX4_sortAt 48 = .ok (.ireturn, 1) := by decide +kernel
theorem dX5_init_0 : decode cX5_init 0 = .ok (.aload_n 0, 1) := by decide +kernel
theorem dX5_init_1 : decode cX5_init 1 = .ok (.invokespecial 3, 3) := by decide +kernel
theorem dX5_init_4 : decode cX5_init 4 = .ok (.aload_n 0, 1) := by decide +kernel
theorem dX5_init_5 : decode cX5_init 5 = .ok (.bipush 24, 2) := by decide +kernel
theorem dX5_init_7 : decode cX5_init 7 = .ok (.newarray .int, 2) := by decide +kernel
theorem dX5_init_9 : decode cX5_init 9 = .ok (.putfield 9, 3) := by decide +kernel
theorem dX5_init_12 : decode cX5_init 12 = .ok (.aload_n 0, 1) := by decide +kernel
theorem dX5_init_13 : decode cX5_init 13 = .ok (.bipush 6, 2) := by decide +kernel
theorem dX5_init_15 : decode cX5_init 15 = .ok (.anewarray 15, 3) := by decide +kernel
theorem dX5_init_18 : decode cX5_init 18 = .ok (.putfield 17, 3) := by decide +kernel
theorem dX5_init_21 : decode cX5_init 21 = .ok (.aload_n 0, 1) := by decide +kernel
theorem dX5_init_22 : decode cX5_init 22 = .ok (.iconst 0, 1) := by decide +kernel
theorem dX5_init_23 : decode cX5_init 23 = .ok (.putfield 21, 3) := by decide +kernel
theorem dX5_init_26 : decode cX5_init 26 = .ok (.aload_n 0, 1) := by decide +kernel
theorem dX5_init_27 : decode cX5_init 27 = .ok (.iconst 0, 1) := by decide +kernel
theorem dX5_init_28 : decode cX5_init 28 = .ok (.putfield 25, 3) := by decide +kernel
theorem dX5_init_31 : decode cX5_init 31 = .ok (.aload_n 0, 1) := by decide +kernel
theorem dX5_init_32 : decode cX5_init 32 = .ok (.iconst 3, 1) := by decide +kernel
theorem dX5_init_33 : decode cX5_init 33 = .ok (.putfield 28, 3) := by decide +kernel
theorem dX5_init_36 : decode cX5_init 36 = .ok (.aload_n 0, 1) := by decide +kernel
theorem dX5_init_37 : decode cX5_init 37 = .ok (.iconst 1, 1) := by decide +kernel
theorem dX5_init_38 : decode cX5_init 38 = .ok (.putfield 31, 3) := by decide +kernel
theorem dX5_init_41 : decode cX5_init 41 = .ok (.iconst 0, 1) := by decide +kernel
theorem dX5_init_42 : decode cX5_init 42 = .ok (.istore_n 1, 1) := by decide +kernel
theorem dX5_init_43 : decode cX5_init 43 = .ok (.iload_n 1, 1) := by decide +kernel
theorem dX5_init_44 : decode cX5_init 44 = .ok (.bipush 6, 2) := by decide +kernel
theorem dX5_init_46 : decode cX5_init 46 = .ok (.if_icmp .ge 22, 3) := by decide +kernel
theorem dX5_init_49 : decode cX5_init 49 = .ok (.aload_n 0, 1) := by decide +kernel
theorem dX5_init_50 : decode cX5_init 50 = .ok (.getfield 17, 3) := by decide +kernel
theorem dX5_init_53 : decode cX5_init 53 = .ok (.iload_n 1, 1) := by decide +kernel
theorem dX5_init_54 : decode cX5_init 54 = .ok (.new 15, 3) := by decide +kernel
theorem dX5_init_57 : decode cX5_init 57 = .ok (.dup, 1) := by decide +kernel
theorem dX5_init_58 : decode cX5_init 58 = .ok (.invokespecial 34, 3) := by decide +kernel
theorem dX5_init_61 : decode cX5_init 61 = .ok (.aastore, 1) := by decide +kernel
theorem dX5_init_62 : decode cX5_init 62 = .ok (.iinc 1 1, 3) := by decide +kernel
theorem dX5_init_65 : decode cX5_init 65 = .ok (.goto (-22), 3) := by decide +kernel
theorem dX5_init_68 : decode cX5_init 68 = .ok (.return_, 1) := by decide +kernel
theorem dX5_becomeEmpty_0 : decode cX5_becomeEmpty 0 = .ok (.iconst 0, 1) := by decide +kernel
theorem dX5_becomeEmpty_1 : decode cX5_becomeEmpty 1 = .ok (.istore_n 1, 1) := by decide +kernel
theorem dX5_becomeEmpty_2 : decode cX5_becomeEmpty 2 = .ok (.iload_n 1, 1) := by decide +kernel
theorem dX5_becomeEmpty_3 : decode cX5_becomeEmpty 3 = .ok (.bipush 24, 2) := by decide +kernel
theorem dX5_becomeEmpty_5 : decode cX5_becomeEmpty 5 = .ok (.if_icmp .ge 16, 3) := by decide +kernel
theorem dX5_becomeEmpty_8 : decode cX5_becomeEmpty 8 = .ok (.aload_n 0, 1) := by decide +kernel
theorem dX5_becomeEmpty_9 : decode cX5_becomeEmpty 9 = .ok (.getfield 9, 3) := by decide +kernel
theorem dX5_becomeEmpty_12 : decode cX5_becomeEmpty 12 = .ok (.iload_n 1, 1) := by decide +kernel
theorem dX5_becomeEmpty_13 : decode cX5_becomeEmpty 13 = .ok (.iconst 0, 1) := by decide +kernel
theorem dX5_becomeEmpty_14 : decode cX5_becomeEmpty 14 = .ok (.iastore, 1) := by decide +kernel
theorem dX5_becomeEmpty_15 : decode cX5_becomeEmpty 15 = .ok (.iinc 1 1, 3) := by decide +kernel
theorem dX5_becomeEmpty_18 : decode cX5_becomeEmpty 18 = .ok (.goto (-16), 3) := by decide +kernel
theorem dX5_becomeEmpty_21 : decode cX5_becomeEmpty 21 = .ok (.aload_n 0, 1) := by decide +kernel
theorem dX5_becomeEmpty_22 : decode cX5_becomeEmpty 22 = .ok (.iconst 0, 1) := by decide +kernel
theorem dX5_becomeEmpty_23 : decode cX5_becomeEmpty 23 = .ok (.putfield 21, 3) := by decide +kernel
theorem dX5_becomeEmpty_26 : decode cX5_becomeEmpty 26 = .ok (.aload_n 0, 1) := by decide +kernel
theorem dX5_becomeEmpty_27 : decode cX5_becomeEmpty 27 = .ok (.iconst 0, 1) := by decide +kernel
theorem dX5_becomeEmpty_28 : decode cX5_becomeEmpty 28 = .ok (.putfield 25, 3) := by decide +kernel
theorem dX5_becomeEmpty_31 : decode cX5_becomeEmpty 31 = .ok (.aload_n 0, 1) := by decide +kernel
theorem dX5_becomeEmpty_32 : decode cX5_becomeEmpty 32 = .ok (.iconst 3, 1) := by decide +kernel
theorem dX5_becomeEmpty_33 : decode cX5_becomeEmpty 33 = .ok (.putfield 28, 3) := by decide +kernel
theorem dX5_becomeEmpty_36 : decode cX5_becomeEmpty 36 = .ok (.return_, 1) := by decide +kernel
theorem dX5_copyFrom_0 : decode cX5_copyFrom 0 = .ok (.aload_n 1, 1) := by decide +kernel
theorem dX5_copyFrom_1 : decode cX5_copyFrom 1 = .ok (.getfield 9, 3) := by decide +kernel
theorem dX5_copyFrom_4 : decode cX5_copyFrom 4 = .ok (.iconst 0, 1) := by decide +kernel
theorem dX5_copyFrom_5 : decode cX5_copyFrom 5 = .ok (.aload_n 0, 1) := by decide +kernel
theorem dX5_copyFrom_6 : decode cX5_copyFrom 6 = .ok (.getfield 9, 3) := by decide +kernel
theorem dX5_copyFrom_9 : decode cX5_copyFrom 9 = .ok (.iconst 0, 1) := by decide +kernel
theorem dX5_copyFrom_10 : decode cX5_copyFrom 10 = .ok (.bipush 24, 2) := by decide +kernel
theorem dX5_copyFrom_12 : decode cX5_copyFrom 12 = .ok (.invokestatic 35, 3) := by decide +kernel
theorem dX5_copyFrom_15 : decode cX5_copyFrom 15 = .ok (.iconst 0, 1) := by decide +kernel
theorem dX5_copyFrom_16 : decode cX5_copyFrom 16 = .ok (.istore_n 2, 1) := by decide +kernel
theorem dX5_copyFrom_17 : decode cX5_copyFrom 17 = .ok (.iload_n 2, 1) := by decide +kernel
theorem dX5_copyFrom_18 : decode cX5_copyFrom 18 = .ok (.aload_n 1, 1) := by decide +kernel
theorem dX5_copyFrom_19 : decode cX5_copyFrom 19 = .ok (.getfield 21, 3) := by decide +kernel
theorem dX5_copyFrom_22 : decode cX5_copyFrom 22 = .ok (.if_icmp .ge 24, 3) := by decide +kernel
theorem dX5_copyFrom_25 : decode cX5_copyFrom 25 = .ok (.aload_n 0, 1) := by decide +kernel
theorem dX5_copyFrom_26 : decode cX5_copyFrom 26 = .ok (.getfield 17, 3) := by decide +kernel
theorem dX5_copyFrom_29 : decode cX5_copyFrom 29 = .ok (.iload_n 2, 1) := by decide +kernel
theorem dX5_copyFrom_30 : decode cX5_copyFrom 30 = .ok (.aaload, 1) := by decide +kernel
theorem dX5_copyFrom_31 : decode cX5_copyFrom 31 = .ok (.aload_n 1, 1) := by decide +kernel
theorem dX5_copyFrom_32 : decode cX5_copyFrom 32 = .ok (.getfield 17, 3) := by decide +kernel
theorem dX5_copyFrom_35 : decode cX5_copyFrom 35 = .ok (.iload_n 2, 1) := by decide +kernel
theorem dX5_copyFrom_36 : decode cX5_copyFrom 36 = .ok (.aaload, 1) := by decide +kernel
theorem dX5_copyFrom_37 : decode cX5_copyFrom 37 = .ok (.invokevirtual 41, 3) := by decide +kernel
theorem dX5_copyFrom_40 : decode cX5_copyFrom 40 = .ok (.iinc 2 1, 3) := by decide +kernel
theorem dX5_copyFrom_43 : decode cX5_copyFrom 43 = .ok (.goto (-26), 3) := by decide +kernel
theorem dX5_copyFrom_46 : decode cX5_copyFrom 46 = .ok (.aload_n 0, 1) := by decide +kernel
theorem dX5_copyFrom_47 : decode cX5_copyFrom 47 = .ok (.aload_n 1, 1) := by decide +kernel
theorem dX5_copyFrom_48 : decode cX5_copyFrom 48 = .ok (.getfield 21, 3) := by decide +kernel
theorem dX5_copyFrom_51 : decode cX5_copyFrom 51 = .ok (.putfield 21, 3) := by decide +kernel
theorem dX5_copyFrom_54 : decode cX5_copyFrom 54 = .ok (.aload_n 0, 1) := by decide +kernel
theorem dX5_copyFrom_55 : decode cX5_copyFrom 55 = .ok (.aload_n 1, 1) := by decide +kernel
theorem dX5_copyFrom_56 : decode cX5_copyFrom 56 = .ok (.getfield 25, 3) := by decide +kernel
theorem dX5_copyFrom_59 : decode cX5_copyFrom 59 = .ok (.putfield 25, 3) := by decide +kernel
theorem dX5_copyFrom_62 : decode cX5_copyFrom 62 = .ok (.aload_n 0, 1) := by decide +kernel
theorem dX5_copyFrom_63 : decode cX5_copyFrom 63 = .ok (.aload_n 1, 1) := by decide +kernel
theorem dX5_copyFrom_64 : decode cX5_copyFrom 64 = .ok (.getfield 28, 3) := by decide +kernel
theorem dX5_copyFrom_67 : decode cX5_copyFrom 67 = .ok (.putfield 28, 3) := by decide +kernel
theorem dX5_copyFrom_70 : decode cX5_copyFrom 70 = .ok (.aload_n 0, 1) := by decide +kernel
theorem dX5_copyFrom_71 : decode cX5_copyFrom 71 = .ok (.aload_n 1, 1) := by decide +kernel
theorem dX5_copyFrom_72 : decode cX5_copyFrom 72 = .ok (.getfield 31, 3) := by decide +kernel
theorem dX5_copyFrom_75 : decode cX5_copyFrom 75 = .ok (.putfield 31, 3) := by decide +kernel
theorem dX5_copyFrom_78 : decode cX5_copyFrom 78 = .ok (.return_, 1) := by decide +kernel
theorem dX5_has_0 : decode cX5_has 0 = .ok (.iload_n 1, 1) := by decide +kernel
theorem dX5_has_1 : decode cX5_has 1 = .ok (.iconst 0, 1) := by decide +kernel
theorem dX5_has_2 : decode cX5_has 2 = .ok (.aload_n 0, 1) := by decide +kernel
theorem dX5_has_3 : decode cX5_has 3 = .ok (.getfield 21, 3) := by decide +kernel
theorem dX5_has_6 : decode cX5_has 6 = .ok (.iconst 1, 1) := by decide +kernel
theorem dX5_has_7 : decode cX5_has 7 = .ok (.isub, 1) := by decide +kernel
theorem dX5_has_8 : decode cX5_has 8 = .ok (.invokestatic 45, 3) := by decide +kernel
theorem dX5_has_11 : decode cX5_has 11 = .ok (.ireturn, 1) := by decide +kernel
theorem dX5_add_0 : decode cX5_add 0 = .ok (.aload_n 0, 1) := by decide +kernel
theorem dX5_add_1 : decode cX5_add 1 = .ok (.getfield 17, 3) := by decide +kernel
theorem dX5_add_4 : decode cX5_add 4 = .ok (.aload_n 0, 1) := by decide +kernel
theorem dX5_add_5 : decode cX5_add 5 = .ok (.getfield 21, 3) := by decide +kernel
theorem dX5_add_8 : decode cX5_add 8 = .ok (.aaload, 1) := by decide +kernel
theorem dX5_add_9 : decode cX5_add 9 = .ok (.iload_n 1, 1) := by decide +kernel
theorem dX5_add_10 : decode cX5_add 10 = .ok (.iload_n 2, 1) := by decide +kernel
theorem dX5_add_11 : decode cX5_add 11 = .ok (.iload_n 3, 1) := by decide +kernel
theorem dX5_add_12 : decode cX5_add 12 = .ok (.invokevirtual 49, 3) := by decide +kernel
theorem dX5_add_15 : decode cX5_add 15 = .ok (.aload_n 0, 1) := by decide +kernel
theorem dX5_add_16 : decode cX5_add 16 = .ok (.dup, 1) := by decide +kernel
theorem dX5_add_17 : decode cX5_add 17 = .ok (.getfield 21, 3) := by decide +kernel
theorem dX5_add_20 : decode cX5_add 20 = .ok (.iconst 1, 1) := by decide +kernel
theorem dX5_add_21 : decode cX5_add 21 = .ok (.iadd, 1) := by decide +kernel
theorem dX5_add_22 : decode cX5_add 22 = .ok (.putfield 21, 3) := by decide +kernel
theorem dX5_add_25 : decode cX5_add 25 = .ok (.return_, 1) := by decide +kernel
theorem dX5_hourNow_0 : decode cX5_hourNow 0 = .ok (.aload_n 0, 1) := by decide +kernel
theorem dX5_hourNow_1 : decode cX5_hourNow 1 = .ok (.getfield 25, 3) := by decide +kernel
theorem dX5_hourNow_4 : decode cX5_hourNow 4 = .ok (.bipush 24, 2) := by decide +kernel
theorem dX5_hourNow_6 : decode cX5_hourNow 6 = .ok (.irem, 1) := by decide +kernel
theorem dX5_hourNow_7 : decode cX5_hourNow 7 = .ok (.ireturn, 1) := by decide +kernel
theorem dX5_passHour_0 : decode cX5_passHour 0 = .ok (.aload_n 0, 1) := by decide +kernel
theorem dX5_passHour_1 : decode cX5_passHour 1 = .ok (.invokevirtual 53, 3) := by decide +kernel
theorem dX5_passHour_4 : decode cX5_passHour 4 = .ok (.istore_n 1, 1) := by decide +kernel
theorem dX5_passHour_5 : decode cX5_passHour 5 = .ok (.iconst 0, 1) := by decide +kernel
theorem dX5_passHour_6 : decode cX5_passHour 6 = .ok (.istore_n 2, 1) := by decide +kernel
theorem dX5_passHour_7 : decode cX5_passHour 7 = .ok (.iload_n 2, 1) := by decide +kernel
theorem dX5_passHour_8 : decode cX5_passHour 8 = .ok (.aload_n 0, 1) := by decide +kernel
theorem dX5_passHour_9 : decode cX5_passHour 9 = .ok (.getfield 21, 3) := by decide +kernel
theorem dX5_passHour_12 : decode cX5_passHour 12 = .ok (.if_icmp .ge 25, 3) := by decide +kernel
theorem dX5_passHour_15 : decode cX5_passHour 15 = .ok (.aload_n 0, 1) := by decide +kernel
theorem dX5_passHour_16 : decode cX5_passHour 16 = .ok (.getfield 17, 3) := by decide +kernel
theorem dX5_passHour_19 : decode cX5_passHour 19 = .ok (.iload_n 2, 1) := by decide +kernel
theorem dX5_passHour_20 : decode cX5_passHour 20 = .ok (.aaload, 1) := by decide +kernel
theorem dX5_passHour_21 : decode cX5_passHour 21 = .ok (.aload_n 0, 1) := by decide +kernel
theorem dX5_passHour_22 : decode cX5_passHour 22 = .ok (.getfield 9, 3) := by decide +kernel
theorem dX5_passHour_25 : decode cX5_passHour 25 = .ok (.iload_n 1, 1) := by decide +kernel
theorem dX5_passHour_26 : decode cX5_passHour 26 = .ok (.iaload, 1) := by decide +kernel
theorem dX5_passHour_27 : decode cX5_passHour 27 = .ok (.iload_n 1, 1) := by decide +kernel
theorem dX5_passHour_28 : decode cX5_passHour 28 = .ok (.invokevirtual 57, 3) := by decide +kernel
theorem dX5_passHour_31 : decode cX5_passHour 31 = .ok (.iinc 2 1, 3) := by decide +kernel
theorem dX5_passHour_34 : decode cX5_passHour 34 = .ok (.goto (-27), 3) := by decide +kernel
theorem dX5_passHour_37 : decode cX5_passHour 37 = .ok (.aload_n 0, 1) := by decide +kernel
theorem dX5_passHour_38 : decode cX5_passHour 38 = .ok (.dup, 1) := by decide +kernel
theorem dX5_passHour_39 : decode cX5_passHour 39 = .ok (.getfield 25, 3) := by decide +kernel
theorem dX5_passHour_42 : decode cX5_passHour 42 = .ok (.iconst 1, 1) := by decide +kernel
theorem dX5_passHour_43 : decode cX5_passHour 43 = .ok (.iadd, 1) := by decide +kernel
theorem dX5_passHour_44 : decode cX5_passHour 44 = .ok (.putfield 25, 3) := by decide +kernel
theorem dX5_passHour_47 : decode cX5_passHour 47 = .ok (.return_, 1) := by decide +kernel
theorem dX5_heightOf_0 : decode cX5_heightOf 0 = .ok (.aload_n 0, 1) := by decide +kernel
theorem dX5_heightOf_1 : decode cX5_heightOf 1 = .ok (.getfield 17, 3) := by decide +kernel
theorem dX5_heightOf_4 : decode cX5_heightOf 4 = .ok (.iload_n 1, 1) := by decide +kernel
theorem dX5_heightOf_5 : decode cX5_heightOf 5 = .ok (.aaload, 1) := by decide +kernel
theorem dX5_heightOf_6 : decode cX5_heightOf 6 = .ok (.getfield 61, 3) := by decide +kernel
theorem dX5_heightOf_9 : decode cX5_heightOf 9 = .ok (.iconst 3, 1) := by decide +kernel
theorem dX5_heightOf_10 : decode cX5_heightOf 10 = .ok (.iaload, 1) := by decide +kernel
theorem dX5_heightOf_11 : decode cX5_heightOf 11 = .ok (.ireturn, 1) := by decide +kernel
theorem dX5_shareColumn_0 : decode cX5_shareColumn 0 = .ok (.iload_n 1, 1) := by decide +kernel
theorem dX5_shareColumn_1 : decode cX5_shareColumn 1 = .ok (.iload_n 2, 1) := by decide +kernel
theorem dX5_shareColumn_2 : decode cX5_shareColumn 2 = .ok (.if_icmp .eq 32, 3) := by decide +kernel
theorem dX5_shareColumn_5 : decode cX5_shareColumn 5 = .ok (.aload_n 0, 1) := by decide +kernel
theorem dX5_shareColumn_6 : decode cX5_shareColumn 6 = .ok (.getfield 17, 3) := by decide +kernel
theorem dX5_shareColumn_9 : decode cX5_shareColumn 9 = .ok (.iload_n 1, 1) := by decide +kernel
theorem dX5_shareColumn_10 : decode cX5_shareColumn 10 = .ok (.aaload, 1) := by decide +kernel
theorem dX5_shareColumn_11 : decode cX5_shareColumn 11 = .ok (.getfield 61, 3) := by decide +kernel
theorem dX5_shareColumn_14 : decode cX5_shareColumn 14 = .ok (.iconst 2, 1) := by decide +kernel
theorem dX5_shareColumn_15 : decode cX5_shareColumn 15 = .ok (.iaload, 1) := by decide +kernel
theorem dX5_shareColumn_16 : decode cX5_shareColumn 16 = .ok (.aload_n 0, 1) := by decide +kernel
theorem dX5_shareColumn_17 : decode cX5_shareColumn 17 = .ok (.getfield 17, 3) := by decide +kernel
theorem dX5_shareColumn_20 : decode cX5_shareColumn 20 = .ok (.iload_n 2, 1) := by decide +kernel
theorem dX5_shareColumn_21 : decode cX5_shareColumn 21 = .ok (.aaload, 1) := by decide +kernel
theorem dX5_shareColumn_22 : decode cX5_shareColumn 22 = .ok (.getfield 61, 3) := by decide +kernel
theorem dX5_shareColumn_25 : decode cX5_shareColumn 25 = .ok (.iconst 2, 1) := by decide +kernel
theorem dX5_shareColumn_26 : decode cX5_shareColumn 26 = .ok (.iaload, 1) := by decide +kernel
theorem dX5_shareColumn_27 : decode cX5_shareColumn 27 = .ok (.if_icmp .ne 7, 3) := by decide +kernel
theorem dX5_shareColumn_30 : decode cX5_shareColumn 30 = .ok (.iconst 1, 1) := by decide +kernel
theorem dX5_shareColumn_31 : decode cX5_shareColumn 31 = .ok (.goto 4, 3) := by decide +kernel
theorem dX5_shareColumn_34 : decode cX5_shareColumn 34 = .ok (.iconst 0, 1) := by decide +kernel
theorem dX5_shareColumn_35 : decode cX5_shareColumn 35 = .ok (.ireturn, 1) := by decide +kernel
theorem dX5_tooNear_0 : decode cX5_tooNear 0 = .ok (.iload_n 1, 1) := by decide +kernel
theorem dX5_tooNear_1 : decode cX5_tooNear 1 = .ok (.ifCond .le 24, 3) := by decide +kernel
theorem dX5_tooNear_4 : decode cX5_tooNear 4 = .ok (.iload_n 2, 1) := by decide +kernel
theorem dX5_tooNear_5 : decode cX5_tooNear 5 = .ok (.ifCond .le 20, 3) := by decide +kernel
theorem dX5_tooNear_8 : decode cX5_tooNear 8 = .ok (.iload_n 1, 1) := by decide +kernel
theorem dX5_tooNear_9 : decode cX5_tooNear 9 = .ok (.iload_n 2, 1) := by decide +kernel
theorem dX5_tooNear_10 : decode cX5_tooNear 10 = .ok (.isub, 1) := by decide +kernel
theorem dX5_tooNear_11 : decode cX5_tooNear 11 = .ok (.invokestatic 64, 3) := by decide +kernel
theorem dX5_tooNear_14 : decode cX5_tooNear 14 = .ok (.aload_n 0, 1) := by decide +kernel
theorem dX5_tooNear_15 : decode cX5_tooNear 15 = .ok (.getfield 28, 3) := by decide +kernel
theorem dX5_tooNear_18 : decode cX5_tooNear 18 = .ok (.if_icmp .ge 7, 3) := by decide +kernel
theorem dX5_tooNear_21 : decode cX5_tooNear 21 = .ok (.iconst 1, 1) := by decide +kernel
theorem dX5_tooNear_22 : decode cX5_tooNear 22 = .ok (.goto 4, 3) := by decide +kernel
theorem dX5_tooNear_25 : decode cX5_tooNear 25 = .ok (.iconst 0, 1) := by decide +kernel
theorem dX5_tooNear_26 : decode cX5_tooNear 26 = .ok (.ireturn, 1) := by decide +kernel
theorem dX5_touchedBy_0 : decode cX5_touchedBy 0 = .ok (.iconst 0, 1) := by decide +kernel
theorem dX5_touchedBy_1 : decode cX5_touchedBy 1 = .ok (.istore_n 2, 1) := by decide +kernel
theorem dX5_touchedBy_2 : decode cX5_touchedBy 2 = .ok (.iconst 0, 1) := by decide +kernel
theorem dX5_touchedBy_3 : decode cX5_touchedBy 3 = .ok (.istore_n 3, 1) := by decide +kernel
theorem dX5_touchedBy_4 : decode cX5_touchedBy 4 = .ok (.iload_n 3, 1) := by decide +kernel
theorem dX5_touchedBy_5 : decode cX5_touchedBy 5 = .ok (.aload_n 0, 1) := by decide +kernel
theorem dX5_touchedBy_6 : decode cX5_touchedBy 6 = .ok (.getfield 21, 3) := by decide +kernel
theorem dX5_touchedBy_9 : decode cX5_touchedBy 9 = .ok (.if_icmp .ge 41, 3) := by decide +kernel
theorem dX5_touchedBy_12 : decode cX5_touchedBy 12 = .ok (.aload_n 0, 1) := by decide +kernel
theorem dX5_touchedBy_13 : decode cX5_touchedBy 13 = .ok (.iload_n 1, 1) := by decide +kernel
theorem dX5_touchedBy_14 : decode cX5_touchedBy 14 = .ok (.iload_n 3, 1) := by decide +kernel
theorem dX5_touchedBy_15 : decode cX5_touchedBy 15 = .ok (.invokevirtual 70, 3) := by decide +kernel
theorem dX5_touchedBy_18 : decode cX5_touchedBy 18 = .ok (.ifCond .eq 26, 3) := by decide +kernel
theorem dX5_touchedBy_21 : decode cX5_touchedBy 21 = .ok (.aload_n 0, 1) := by decide +kernel
theorem dX5_touchedBy_22 : decode cX5_touchedBy 22 = .ok (.aload_n 0, 1) := by decide +kernel
theorem dX5_touchedBy_23 : decode cX5_touchedBy 23 = .ok (.iload_n 1, 1) := by decide +kernel
theorem dX5_touchedBy_24 : decode cX5_touchedBy 24 = .ok (.invokevirtual 74, 3) := by decide +kernel
theorem dX5_touchedBy_27 : decode cX5_touchedBy 27 = .ok (.aload_n 0, 1) := by decide +kernel
theorem dX5_touchedBy_28 : decode cX5_touchedBy 28 = .ok (.iload_n 3, 1) := by decide +kernel
theorem dX5_touchedBy_29 : decode cX5_touchedBy 29 = .ok (.invokevirtual 74, 3) := by decide +kernel
theorem dX5_touchedBy_32 : decode cX5_touchedBy 32 = .ok (.invokevirtual 77, 3) := by decide +kernel
theorem dX5_touchedBy_35 : decode cX5_touchedBy 35 = .ok (.ifCond .eq 9, 3) := by decide +kernel
theorem dX5_touchedBy_38 : decode cX5_touchedBy 38 = .ok (.iload_n 2, 1) := by decide +kernel
theorem dX5_touchedBy_39 : decode cX5_touchedBy 39 = .ok (.iconst 1, 1) := by decide +kernel
theorem dX5_touchedBy_40 : decode cX5_touchedBy 40 = .ok (.iload_n 3, 1) := by decide +kernel
theorem dX5_touchedBy_41 : decode cX5_touchedBy 41 = .ok (.ishl, 1) := by decide +kernel
theorem dX5_touchedBy_42 : decode cX5_touchedBy 42 = .ok (.ior, 1) := by decide +kernel
theorem dX5_touchedBy_43 : decode cX5_touchedBy 43 = .ok (.istore_n 2, 1) := by decide +kernel
theorem dX5_touchedBy_44 : decode cX5_touchedBy 44 = .ok (.iinc 3 1, 3) := by decide +kernel
theorem dX5_touchedBy_47 : decode cX5_touchedBy 47 = .ok (.goto (-43), 3) := by decide +kernel
theorem dX5_touchedBy_50 : decode cX5_touchedBy 50 = .ok (.iload_n 2, 1) := by decide +kernel
theorem dX5_touchedBy_51 : decode cX5_touchedBy 51 = .ok (.ireturn, 1) := by decide +kernel
theorem dX5_touchingPairs_0 : decode cX5_touchingPairs 0 = .ok (.iconst 0, 1) := by decide +kernel
theorem dX5_touchingPairs_1 : decode cX5_touchingPairs 1 = .ok (.istore_n 1, 1) := by decide +kernel
theorem dX5_touchingPairs_2 : decode cX5_touchingPairs 2 = .ok (.iconst 0, 1) := by decide +kernel
theorem dX5_touchingPairs_3 : decode cX5_touchingPairs 3 = .ok (.istore_n 2, 1) := by decide +kernel
theorem dX5_touchingPairs_4 : decode cX5_touchingPairs 4 = .ok (.iload_n 2, 1) := by decide +kernel
theorem dX5_touchingPairs_5 : decode cX5_touchingPairs 5 = .ok (.aload_n 0, 1) := by decide +kernel
theorem dX5_touchingPairs_6 : decode cX5_touchingPairs 6 = .ok (.getfield 21, 3) := by decide +kernel
theorem dX5_touchingPairs_9 : decode cX5_touchingPairs 9 = .ok (.if_icmp .ge 20, 3) := by decide +kernel
theorem dX5_touchingPairs_12 : decode cX5_touchingPairs 12 = .ok (.iload_n 1, 1) := by decide +kernel
theorem dX5_touchingPairs_13 : decode cX5_touchingPairs 13 = .ok (.aload_n 0, 1) := by decide +kernel
theorem dX5_touchingPairs_14 : decode cX5_touchingPairs 14 = .ok (.iload_n 2, 1) := by decide +kernel
theorem dX5_touchingPairs_15 : decode cX5_touchingPairs 15 = .ok (.invokevirtual 80, 3) := by decide +kernel
theorem dX5_touchingPairs_18 : decode cX5_touchingPairs 18 = .ok (.invokestatic 83, 3) := by decide +kernel
theorem dX5_touchingPairs_21 : decode cX5_touchingPairs 21 = .ok (.iadd, 1) := by decide +kernel
theorem dX5_touchingPairs_22 : decode cX5_touchingPairs 22 = .ok (.istore_n 1, 1) := by decide +kernel
theorem dX5_touchingPairs_23 : decode cX5_touchingPairs 23 = .ok (.iinc 2 1, 3) := by decide +kernel
theorem dX5_touchingPairs_26 : decode cX5_touchingPairs 26 = .ok (.goto (-22), 3) := by decide +kernel
theorem dX5_touchingPairs_29 : decode cX5_touchingPairs 29 = .ok (.iload_n 1, 1) := by decide +kernel
theorem dX5_touchingPairs_30 : decode cX5_touchingPairs 30 = .ok (.iconst 2, 1) := by decide +kernel
theorem dX5_touchingPairs_31 : decode cX5_touchingPairs 31 = .ok (.idiv, 1) := by decide +kernel
theorem dX5_touchingPairs_32 : decode cX5_touchingPairs 32 = .ok (.ireturn, 1) := by decide +kernel
theorem dX5_hangsAbove_0 : decode cX5_hangsAbove 0 = .ok (.aload_n 0, 1) := by decide +kernel
theorem dX5_hangsAbove_1 : decode cX5_hangsAbove 1 = .ok (.iload_n 1, 1) := by decide +kernel
theorem dX5_hangsAbove_2 : decode cX5_hangsAbove 2 = .ok (.invokevirtual 74, 3) := by decide +kernel
theorem dX5_hangsAbove_5 : decode cX5_hangsAbove 5 = .ok (.aload_n 0, 1) := by decide +kernel
theorem dX5_hangsAbove_6 : decode cX5_hangsAbove 6 = .ok (.iload_n 2, 1) := by decide +kernel
theorem dX5_hangsAbove_7 : decode cX5_hangsAbove 7 = .ok (.invokevirtual 74, 3) := by decide +kernel
theorem dX5_hangsAbove_10 : decode cX5_hangsAbove 10 = .ok (.if_icmp .gt 21, 3) := by decide +kernel
theorem dX5_hangsAbove_13 : decode cX5_hangsAbove 13 = .ok (.aload_n 0, 1) := by decide +kernel
theorem dX5_hangsAbove_14 : decode cX5_hangsAbove 14 = .ok (.iload_n 1, 1) := by decide +kernel
theorem dX5_hangsAbove_15 : decode cX5_hangsAbove 15 = .ok (.invokevirtual 74, 3) := by decide +kernel
theorem dX5_hangsAbove_18 : decode cX5_hangsAbove 18 = .ok (.aload_n 0, 1) := by decide +kernel
theorem dX5_hangsAbove_19 : decode cX5_hangsAbove 19 = .ok (.iload_n 2, 1) := by decide +kernel
theorem dX5_hangsAbove_20 : decode cX5_hangsAbove 20 = .ok (.invokevirtual 74, 3) := by decide +kernel
theorem dX5_hangsAbove_23 : decode cX5_hangsAbove 23 = .ok (.if_icmp .ne 12, 3) := by decide +kernel
theorem dX5_hangsAbove_26 : decode cX5_hangsAbove 26 = .ok (.iload_n 1, 1) := by decide +kernel
theorem dX5_hangsAbove_27 : decode cX5_hangsAbove 27 = .ok (.iload_n 2, 1) := by decide +kernel
theorem dX5_hangsAbove_28 : decode cX5_hangsAbove 28 = .ok (.if_icmp .le 7, 3) := by decide +kernel
theorem dX5_hangsAbove_31 : decode cX5_hangsAbove 31 = .ok (.iconst 1, 1) := by decide +kernel
theorem dX5_hangsAbove_32 : decode cX5_hangsAbove 32 = .ok (.goto 4, 3) := by decide +kernel
theorem dX5_hangsAbove_35 : decode cX5_hangsAbove 35 = .ok (.iconst 0, 1) := by decide +kernel
theorem dX5_hangsAbove_36 : decode cX5_hangsAbove 36 = .ok (.ireturn, 1) := by decide +kernel
theorem dX5_nextAbove_0 : decode cX5_nextAbove 0 = .ok (.bipush (-3), 2) := by decide +kernel
theorem dX5_nextAbove_2 : decode cX5_nextAbove 2 = .ok (.istore_n 2, 1) := by decide +kernel
theorem dX5_nextAbove_3 : decode cX5_nextAbove 3 = .ok (.iconst 0, 1) := by decide +kernel
theorem dX5_nextAbove_4 : decode cX5_nextAbove 4 = .ok (.istore_n 3, 1) := by decide +kernel
theorem dX5_nextAbove_5 : decode cX5_nextAbove 5 = .ok (.iload_n 3, 1) := by decide +kernel
theorem dX5_nextAbove_6 : decode cX5_nextAbove 6 = .ok (.aload_n 0, 1) := by decide +kernel
theorem dX5_nextAbove_7 : decode cX5_nextAbove 7 = .ok (.getfield 21, 3) := by decide +kernel
theorem dX5_nextAbove_10 : decode cX5_nextAbove 10 = .ok (.if_icmp .ge 44, 3) := by decide +kernel
theorem dX5_nextAbove_13 : decode cX5_nextAbove 13 = .ok (.aload_n 0, 1) := by decide +kernel
theorem dX5_nextAbove_14 : decode cX5_nextAbove 14 = .ok (.iload_n 1, 1) := by decide +kernel
theorem dX5_nextAbove_15 : decode cX5_nextAbove 15 = .ok (.iload_n 3, 1) := by decide +kernel
theorem dX5_nextAbove_16 : decode cX5_nextAbove 16 = .ok (.invokevirtual 70, 3) := by decide +kernel
theorem dX5_nextAbove_19 : decode cX5_nextAbove 19 = .ok (.ifCond .eq 29, 3) := by decide +kernel
theorem dX5_nextAbove_22 : decode cX5_nextAbove 22 = .ok (.aload_n 0, 1) := by decide +kernel
theorem dX5_nextAbove_23 : decode cX5_nextAbove 23 = .ok (.iload_n 3, 1) := by decide +kernel
theorem dX5_nextAbove_24 : decode cX5_nextAbove 24 = .ok (.iload_n 1, 1) := by decide +kernel
theorem dX5_nextAbove_25 : decode cX5_nextAbove 25 = .ok (.invokevirtual 88, 3) := by decide +kernel
theorem dX5_nextAbove_28 : decode cX5_nextAbove 28 = .ok (.ifCond .eq 20, 3) := by decide +kernel
theorem dX5_nextAbove_31 : decode cX5_nextAbove 31 = .ok (.iload_n 2, 1) := by decide +kernel
theorem dX5_nextAbove_32 : decode cX5_nextAbove 32 = .ok (.bipush (-3), 2) := by decide +kernel
theorem dX5_nextAbove_34 : decode cX5_nextAbove 34 = .ok (.if_icmp .eq 12, 3) := by decide +kernel
theorem dX5_nextAbove_37 : decode cX5_nextAbove 37 = .ok (.aload_n 0, 1) := by decide +kernel
theorem dX5_nextAbove_38 : decode cX5_nextAbove 38 = .ok (.iload_n 2, 1) := by decide +kernel
theorem dX5_nextAbove_39 : decode cX5_nextAbove 39 = .ok (.iload_n 3, 1) := by decide +kernel
theorem dX5_nextAbove_40 : decode cX5_nextAbove 40 = .ok (.invokevirtual 88, 3) := by decide +kernel
theorem dX5_nextAbove_43 : decode cX5_nextAbove 43 = .ok (.ifCond .eq 5, 3) := by decide +kernel
theorem dX5_nextAbove_46 : decode cX5_nextAbove 46 = .ok (.iload_n 3, 1) := by decide +kernel
theorem dX5_nextAbove_47 : decode cX5_nextAbove 47 = .ok (.istore_n 2, 1) := by decide +kernel
theorem dX5_nextAbove_48 : decode cX5_nextAbove 48 = .ok (.iinc 3 1, 3) := by decide +kernel
theorem dX5_nextAbove_51 : decode cX5_nextAbove 51 = .ok (.goto (-46), 3) := by decide +kernel
theorem dX5_nextAbove_54 : decode cX5_nextAbove 54 = .ok (.iload_n 2, 1) := by decide +kernel
theorem dX5_nextAbove_55 : decode cX5_nextAbove 55 = .ok (.ireturn, 1) := by decide +kernel
theorem dX5_nextBelow_0 : decode cX5_nextBelow 0 = .ok (.bipush (-3), 2) := by decide +kernel
theorem dX5_nextBelow_2 : decode cX5_nextBelow 2 = .ok (.istore_n 2, 1) := by decide +kernel
theorem dX5_nextBelow_3 : decode cX5_nextBelow 3 = .ok (.iconst 0, 1) := by decide +kernel
theorem dX5_nextBelow_4 : decode cX5_nextBelow 4 = .ok (.istore_n 3, 1) := by decide +kernel
theorem dX5_nextBelow_5 : decode cX5_nextBelow 5 = .ok (.iload_n 3, 1) := by decide +kernel
theorem dX5_nextBelow_6 : decode cX5_nextBelow 6 = .ok (.aload_n 0, 1) := by decide +kernel
theorem dX5_nextBelow_7 : decode cX5_nextBelow 7 = .ok (.getfield 21, 3) := by decide +kernel
theorem dX5_nextBelow_10 : decode cX5_nextBelow 10 = .ok (.if_icmp .ge 44, 3) := by decide +kernel
theorem dX5_nextBelow_13 : decode cX5_nextBelow 13 = .ok (.aload_n 0, 1) := by decide +kernel
theorem dX5_nextBelow_14 : decode cX5_nextBelow 14 = .ok (.iload_n 1, 1) := by decide +kernel
theorem dX5_nextBelow_15 : decode cX5_nextBelow 15 = .ok (.iload_n 3, 1) := by decide +kernel
theorem dX5_nextBelow_16 : decode cX5_nextBelow 16 = .ok (.invokevirtual 70, 3) := by decide +kernel
theorem dX5_nextBelow_19 : decode cX5_nextBelow 19 = .ok (.ifCond .eq 29, 3) := by decide +kernel
theorem dX5_nextBelow_22 : decode cX5_nextBelow 22 = .ok (.aload_n 0, 1) := by decide +kernel
theorem dX5_nextBelow_23 : decode cX5_nextBelow 23 = .ok (.iload_n 1, 1) := by decide +kernel
theorem dX5_nextBelow_24 : decode cX5_nextBelow 24 = .ok (.iload_n 3, 1) := by decide +kernel
theorem dX5_nextBelow_25 : decode cX5_nextBelow 25 = .ok (.invokevirtual 88, 3) := by decide +kernel
theorem dX5_nextBelow_28 : decode cX5_nextBelow 28 = .ok (.ifCond .eq 20, 3) := by decide +kernel
theorem dX5_nextBelow_31 : decode cX5_nextBelow 31 = .ok (.iload_n 2, 1) := by decide +kernel
theorem dX5_nextBelow_32 : decode cX5_nextBelow 32 = .ok (.bipush (-3), 2) := by decide +kernel
theorem dX5_nextBelow_34 : decode cX5_nextBelow 34 = .ok (.if_icmp .eq 12, 3) := by decide +kernel
theorem dX5_nextBelow_37 : decode cX5_nextBelow 37 = .ok (.aload_n 0, 1) := by decide +kernel
theorem dX5_nextBelow_38 : decode cX5_nextBelow 38 = .ok (.iload_n 3, 1) := by decide +kernel
theorem dX5_nextBelow_39 : decode cX5_nextBelow 39 = .ok (.iload_n 2, 1) := by decide +kernel
theorem dX5_nextBelow_40 : decode cX5_nextBelow 40 = .ok (.invokevirtual 88, 3) := by decide +kernel
theorem dX5_nextBelow_43 : decode cX5_nextBelow 43 = .ok (.ifCond .eq 5, 3) := by decide +kernel
theorem dX5_nextBelow_46 : decode cX5_nextBelow 46 = .ok (.iload_n 3, 1) := by decide +kernel
theorem dX5_nextBelow_47 : decode cX5_nextBelow 47 = .ok (.istore_n 2, 1) := by decide +kernel
theorem dX5_nextBelow_48 : decode cX5_nextBelow 48 = .ok (.iinc 3 1, 3) := by decide +kernel
theorem dX5_nextBelow_51 : decode cX5_nextBelow 51 = .ok (.goto (-46), 3) := by decide +kernel
theorem dX5_nextBelow_54 : decode cX5_nextBelow 54 = .ok (.iload_n 2, 1) := by decide +kernel
theorem dX5_nextBelow_55 : decode cX5_nextBelow 55 = .ok (.ireturn, 1) := by decide +kernel
theorem dX5_reachedBy_0 : decode cX5_reachedBy 0 = .ok (.aload_n 0, 1) := by decide +kernel
theorem dX5_reachedBy_1 : decode cX5_reachedBy 1 = .ok (.iload_n 1, 1) := by decide +kernel
theorem dX5_reachedBy_2 : decode cX5_reachedBy 2 = .ok (.aload_n 0, 1) := by decide +kernel
theorem dX5_reachedBy_3 : decode cX5_reachedBy 3 = .ok (.iload_n 1, 1) := by decide +kernel
theorem dX5_reachedBy_4 : decode cX5_reachedBy 4 = .ok (.invokevirtual 91, 3) := by decide +kernel
theorem dX5_reachedBy_7 : decode cX5_reachedBy 7 = .ok (.invokevirtual 94, 3) := by decide +kernel
theorem dX5_reachedBy_10 : decode cX5_reachedBy 10 = .ok (.aload_n 0, 1) := by decide +kernel
theorem dX5_reachedBy_11 : decode cX5_reachedBy 11 = .ok (.iload_n 1, 1) := by decide +kernel
theorem dX5_reachedBy_12 : decode cX5_reachedBy 12 = .ok (.aload_n 0, 1) := by decide +kernel
theorem dX5_reachedBy_13 : decode cX5_reachedBy 13 = .ok (.iload_n 1, 1) := by decide +kernel
theorem dX5_reachedBy_14 : decode cX5_reachedBy 14 = .ok (.invokevirtual 98, 3) := by decide +kernel
theorem dX5_reachedBy_17 : decode cX5_reachedBy 17 = .ok (.invokevirtual 94, 3) := by decide +kernel
theorem dX5_reachedBy_20 : decode cX5_reachedBy 20 = .ok (.ior, 1) := by decide +kernel
theorem dX5_reachedBy_21 : decode cX5_reachedBy 21 = .ok (.ireturn, 1) := by decide +kernel
theorem dX5_inReach_0 : decode cX5_inReach 0 = .ok (.iload_n 2, 1) := by decide +kernel
theorem dX5_inReach_1 : decode cX5_inReach 1 = .ok (.bipush (-3), 2) := by decide +kernel
theorem dX5_inReach_3 : decode cX5_inReach 3 = .ok (.if_icmp .eq 22, 3) := by decide +kernel
theorem dX5_inReach_6 : decode cX5_inReach 6 = .ok (.aload_n 0, 1) := by decide +kernel
theorem dX5_inReach_7 : decode cX5_inReach 7 = .ok (.iload_n 1, 1) := by decide +kernel
theorem dX5_inReach_8 : decode cX5_inReach 8 = .ok (.invokevirtual 74, 3) := by decide +kernel
theorem dX5_inReach_11 : decode cX5_inReach 11 = .ok (.aload_n 0, 1) := by decide +kernel
theorem dX5_inReach_12 : decode cX5_inReach 12 = .ok (.iload_n 2, 1) := by decide +kernel
theorem dX5_inReach_13 : decode cX5_inReach 13 = .ok (.invokevirtual 74, 3) := by decide +kernel
theorem dX5_inReach_16 : decode cX5_inReach 16 = .ok (.isub, 1) := by decide +kernel
theorem dX5_inReach_17 : decode cX5_inReach 17 = .ok (.invokestatic 64, 3) := by decide +kernel
theorem dX5_inReach_20 : decode cX5_inReach 20 = .ok (.bipush 20, 2) := by decide +kernel
theorem dX5_inReach_22 : decode cX5_inReach 22 = .ok (.if_icmp .le 5, 3) := by decide +kernel
theorem dX5_inReach_25 : decode cX5_inReach 25 = .ok (.iconst 0, 1) := by decide +kernel
theorem dX5_inReach_26 : decode cX5_inReach 26 = .ok (.ireturn, 1) := by decide +kernel
theorem dX5_inReach_27 : decode cX5_inReach 27 = .ok (.iconst 1, 1) := by decide +kernel
theorem dX5_inReach_28 : decode cX5_inReach 28 = .ok (.iload_n 2, 1) := by decide +kernel
theorem dX5_inReach_29 : decode cX5_inReach 29 = .ok (.ishl, 1) := by decide +kernel
theorem dX5_inReach_30 : decode cX5_inReach 30 = .ok (.ireturn, 1) := by decide +kernel
theorem dX5_canGive_0 : decode cX5_canGive 0 = .ok (.aload_n 0, 1) := by decide +kernel
theorem dX5_canGive_1 : decode cX5_canGive 1 = .ok (.iload_n 1, 1) := by decide +kernel
theorem dX5_canGive_2 : decode cX5_canGive 2 = .ok (.invokevirtual 101, 3) := by decide +kernel
theorem dX5_canGive_5 : decode cX5_canGive 5 = .ok (.iload_n 2, 1) := by decide +kernel
theorem dX5_canGive_6 : decode cX5_canGive 6 = .ok (.ishr, 1) := by decide +kernel
theorem dX5_canGive_7 : decode cX5_canGive 7 = .ok (.iconst 1, 1) := by decide +kernel
theorem dX5_canGive_8 : decode cX5_canGive 8 = .ok (.iand, 1) := by decide +kernel
theorem dX5_canGive_9 : decode cX5_canGive 9 = .ok (.iconst 1, 1) := by decide +kernel
theorem dX5_canGive_10 : decode cX5_canGive 10 = .ok (.if_icmp .ne 45, 3) := by decide +kernel
theorem dX5_canGive_13 : decode cX5_canGive 13 = .ok (.aload_n 0, 1) := by decide +kernel
theorem dX5_canGive_14 : decode cX5_canGive 14 = .ok (.getfield 17, 3) := by decide +kernel
theorem dX5_canGive_17 : decode cX5_canGive 17 = .ok (.iload_n 1, 1) := by decide +kernel
theorem dX5_canGive_18 : decode cX5_canGive 18 = .ok (.aaload, 1) := by decide +kernel
theorem dX5_canGive_19 : decode cX5_canGive 19 = .ok (.getfield 61, 3) := by decide +kernel
theorem dX5_canGive_22 : decode cX5_canGive 22 = .ok (.iload_n 3, 1) := by decide +kernel
theorem dX5_canGive_23 : decode cX5_canGive 23 = .ok (.iaload, 1) := by decide +kernel
theorem dX5_canGive_24 : decode cX5_canGive 24 = .ok (.iload 4, 2) := by decide +kernel
theorem dX5_canGive_26 : decode cX5_canGive 26 = .ok (.if_icmp .lt 29, 3) := by decide +kernel
theorem dX5_canGive_29 : decode cX5_canGive 29 = .ok (.aload_n 0, 1) := by decide +kernel
theorem dX5_canGive_30 : decode cX5_canGive 30 = .ok (.getfield 17, 3) := by decide +kernel
theorem dX5_canGive_33 : decode cX5_canGive 33 = .ok (.iload_n 2, 1) := by decide +kernel
theorem dX5_canGive_34 : decode cX5_canGive 34 = .ok (.aaload, 1) := by decide +kernel
theorem dX5_canGive_35 : decode cX5_canGive 35 = .ok (.getfield 61, 3) := by decide +kernel
theorem dX5_canGive_38 : decode cX5_canGive 38 = .ok (.iload_n 3, 1) := by decide +kernel
theorem dX5_canGive_39 : decode cX5_canGive 39 = .ok (.iaload, 1) := by decide +kernel
theorem dX5_canGive_40 : decode cX5_canGive 40 = .ok (.iload 4, 2) := by decide +kernel
theorem dX5_canGive_42 : decode cX5_canGive 42 = .ok (.iadd, 1) := by decide +kernel
theorem dX5_canGive_43 : decode cX5_canGive 43 = .ok (.getstatic 104, 3) := by decide +kernel
theorem dX5_canGive_46 : decode cX5_canGive 46 = .ok (.iload_n 3, 1) := by decide +kernel
theorem dX5_canGive_47 : decode cX5_canGive 47 = .ok (.iaload, 1) := by decide +kernel
theorem dX5_canGive_48 : decode cX5_canGive 48 = .ok (.if_icmp .gt 7, 3) := by decide +kernel
theorem dX5_canGive_51 : decode cX5_canGive 51 = .ok (.iconst 1, 1) := by decide +kernel
theorem dX5_canGive_52 : decode cX5_canGive 52 = .ok (.goto 4, 3) := by decide +kernel
theorem dX5_canGive_55 : decode cX5_canGive 55 = .ok (.iconst 0, 1) := by decide +kernel
theorem dX5_canGive_56 : decode cX5_canGive 56 = .ok (.ireturn, 1) := by decide +kernel
theorem dX6_init_0 : decode cX6_init 0 = .ok (.aload_n 0, 1) := by decide +kernel
theorem dX6_init_1 : decode cX6_init 1 = .ok (.invokespecial 3, 3) := by decide +kernel
theorem dX6_init_4 : decode cX6_init 4 = .ok (.aload_n 0, 1) := by decide +kernel
theorem dX6_init_5 : decode cX6_init 5 = .ok (.new 9, 3) := by decide +kernel
theorem dX6_init_8 : decode cX6_init 8 = .ok (.dup, 1) := by decide +kernel
theorem dX6_init_9 : decode cX6_init 9 = .ok (.invokespecial 11, 3) := by decide +kernel
theorem dX6_init_12 : decode cX6_init 12 = .ok (.putfield 12, 3) := by decide +kernel
theorem dX6_init_15 : decode cX6_init 15 = .ok (.aload_n 0, 1) := by decide +kernel
theorem dX6_init_16 : decode cX6_init 16 = .ok (.bipush 6, 2) := by decide +kernel
theorem dX6_init_18 : decode cX6_init 18 = .ok (.bipush 49, 2) := by decide +kernel
theorem dX6_init_20 : decode cX6_init 20 = .ok (.multianewarray 18 2, 4) := by decide +kernel
theorem dX6_init_24 : decode cX6_init 24 = .ok (.putfield 20, 3) := by decide +kernel
theorem dX6_init_27 : decode cX6_init 27 = .ok (.aload_n 0, 1) := by decide +kernel
theorem dX6_init_28 : decode cX6_init 28 = .ok (.bipush 6, 2) := by decide +kernel
theorem dX6_init_30 : decode cX6_init 30 = .ok (.bipush 49, 2) := by decide +kernel
theorem dX6_init_32 : decode cX6_init 32 = .ok (.multianewarray 18 2, 4) := by decide +kernel
theorem dX6_init_36 : decode cX6_init 36 = .ok (.putfield 23, 3) := by decide +kernel
theorem dX6_init_39 : decode cX6_init 39 = .ok (.aload_n 0, 1) := by decide +kernel
theorem dX6_init_40 : decode cX6_init 40 = .ok (.iconst 0, 1) := by decide +kernel
theorem dX6_init_41 : decode cX6_init 41 = .ok (.putfield 26, 3) := by decide +kernel
theorem dX6_init_44 : decode cX6_init 44 = .ok (.aload_n 0, 1) := by decide +kernel
theorem dX6_init_45 : decode cX6_init 45 = .ok (.iconst 0, 1) := by decide +kernel
theorem dX6_init_46 : decode cX6_init 46 = .ok (.putfield 30, 3) := by decide +kernel
theorem dX6_init_49 : decode cX6_init 49 = .ok (.aload_n 0, 1) := by decide +kernel
theorem dX6_init_50 : decode cX6_init 50 = .ok (.aload_n 1, 1) := by decide +kernel
theorem dX6_init_51 : decode cX6_init 51 = .ok (.putfield 33, 3) := by decide +kernel
theorem dX6_init_54 : decode cX6_init 54 = .ok (.return_, 1) := by decide +kernel
theorem dX6_run_0 : decode cX6_run 0 = .ok (.aload_n 0, 1) := by decide +kernel
theorem dX6_run_1 : decode cX6_run 1 = .ok (.iload_n 1, 1) := by decide +kernel
theorem dX6_run_2 : decode cX6_run 2 = .ok (.bipush 96, 2) := by decide +kernel
theorem dX6_run_4 : decode cX6_run 4 = .ok (.aload_n 0, 1) := by decide +kernel
theorem dX6_run_5 : decode cX6_run 5 = .ok (.getfield 33, 3) := by decide +kernel
theorem dX6_run_8 : decode cX6_run 8 = .ok (.getfield 37, 3) := by decide +kernel
theorem dX6_run_11 : decode cX6_run 11 = .ok (.isub, 1) := by decide +kernel
theorem dX6_run_12 : decode cX6_run 12 = .ok (.invokestatic 42, 3) := by decide +kernel
theorem dX6_run_15 : decode cX6_run 15 = .ok (.putfield 30, 3) := by decide +kernel
theorem dX6_run_18 : decode cX6_run 18 = .ok (.aload_n 0, 1) := by decide +kernel
theorem dX6_run_19 : decode cX6_run 19 = .ok (.iload_n 2, 1) := by decide +kernel
theorem dX6_run_20 : decode cX6_run 20 = .ok (.putfield 26, 3) := by decide +kernel
theorem dX6_run_23 : decode cX6_run 23 = .ok (.iconst 0, 1) := by decide +kernel
theorem dX6_run_24 : decode cX6_run 24 = .ok (.istore_n 3, 1) := by decide +kernel
theorem dX6_run_25 : decode cX6_run 25 = .ok (.iload_n 3, 1) := by decide +kernel
theorem dX6_run_26 : decode cX6_run 26 = .ok (.aload_n 0, 1) := by decide +kernel
theorem dX6_run_27 : decode cX6_run 27 = .ok (.getfield 33, 3) := by decide +kernel
theorem dX6_run_30 : decode cX6_run 30 = .ok (.getfield 48, 3) := by decide +kernel
theorem dX6_run_33 : decode cX6_run 33 = .ok (.if_icmp .ge 31, 3) := by decide +kernel
theorem dX6_run_36 : decode cX6_run 36 = .ok (.aload_n 0, 1) := by decide +kernel
theorem dX6_run_37 : decode cX6_run 37 = .ok (.iload_n 3, 1) := by decide +kernel
theorem dX6_run_38 : decode cX6_run 38 = .ok (.bipush 6, 2) := by decide +kernel
theorem dX6_run_40 : decode cX6_run 40 = .ok (.aload_n 0, 1) := by decide +kernel
theorem dX6_run_41 : decode cX6_run 41 = .ok (.getfield 33, 3) := by decide +kernel
theorem dX6_run_44 : decode cX6_run 44 = .ok (.getfield 51, 3) := by decide +kernel
theorem dX6_run_47 : decode cX6_run 47 = .ok (.iload_n 3, 1) := by decide +kernel
theorem dX6_run_48 : decode cX6_run 48 = .ok (.aaload, 1) := by decide +kernel
theorem dX6_run_49 : decode cX6_run 49 = .ok (.getfield 55, 3) := by decide +kernel
theorem dX6_run_52 : decode cX6_run 52 = .ok (.bipush 6, 2) := by decide +kernel
theorem dX6_run_54 : decode cX6_run 54 = .ok (.iaload, 1) := by decide +kernel
theorem dX6_run_55 : decode cX6_run 55 = .ok (.invokevirtual 59, 3) := by decide +kernel
theorem dX6_run_58 : decode cX6_run 58 = .ok (.iinc 3 1, 3) := by decide +kernel
theorem dX6_run_61 : decode cX6_run 61 = .ok (.goto (-36), 3) := by decide +kernel
theorem dX6_run_64 : decode cX6_run 64 = .ok (.return_, 1) := by decide +kernel
theorem dX6_followWith_0 : decode cX6_followWith 0 = .ok (.aload_n 0, 1) := by decide +kernel
theorem dX6_followWith_1 : decode cX6_followWith 1 = .ok (.getfield 12, 3) := by decide +kernel
theorem dX6_followWith_4 : decode cX6_followWith 4 = .ok (.aload_n 0, 1) := by decide +kernel
theorem dX6_followWith_5 : decode cX6_followWith 5 = .ok (.getfield 33, 3) := by decide +kernel
theorem dX6_followWith_8 : decode cX6_followWith 8 = .ok (.getfield 51, 3) := by decide +kernel
theorem dX6_followWith_11 : decode cX6_followWith 11 = .ok (.iload_n 1, 1) := by decide +kernel
theorem dX6_followWith_12 : decode cX6_followWith 12 = .ok (.aaload, 1) := by decide +kernel
theorem dX6_followWith_13 : decode cX6_followWith 13 = .ok (.invokevirtual 63, 3) := by decide +kernel
theorem dX6_followWith_16 : decode cX6_followWith 16 = .ok (.aload_n 0, 1) := by decide +kernel
theorem dX6_followWith_17 : decode cX6_followWith 17 = .ok (.getfield 12, 3) := by decide +kernel
theorem dX6_followWith_20 : decode cX6_followWith 20 = .ok (.getfield 55, 3) := by decide +kernel
theorem dX6_followWith_23 : decode cX6_followWith 23 = .ok (.iload_n 2, 1) := by decide +kernel
theorem dX6_followWith_24 : decode cX6_followWith 24 = .ok (.iload_n 3, 1) := by decide +kernel
theorem dX6_followWith_25 : decode cX6_followWith 25 = .ok (.iastore, 1) := by decide +kernel
theorem dX6_followWith_26 : decode cX6_followWith 26 = .ok (.aload_n 0, 1) := by decide +kernel
theorem dX6_followWith_27 : decode cX6_followWith 27 = .ok (.iload_n 1, 1) := by decide +kernel
theorem dX6_followWith_28 : decode cX6_followWith 28 = .ok (.iconst 0, 1) := by decide +kernel
theorem dX6_followWith_29 : decode cX6_followWith 29 = .ok (.invokevirtual 67, 3) := by decide +kernel
theorem dX6_followWith_32 : decode cX6_followWith 32 = .ok (.iconst 1, 1) := by decide +kernel
theorem dX6_followWith_33 : decode cX6_followWith 33 = .ok (.istore 4, 2) := by decide +kernel
theorem dX6_followWith_35 : decode cX6_followWith 35 = .ok (.iload 4, 2) := by decide +kernel
theorem dX6_followWith_37 : decode cX6_followWith 37 = .ok (.aload_n 0, 1) := by decide +kernel
theorem dX6_followWith_38 : decode cX6_followWith 38 = .ok (.getfield 30, 3) := by decide +kernel
theorem dX6_followWith_41 : decode cX6_followWith 41 = .ok (.if_icmp .gt 22, 3) := by decide +kernel
theorem dX6_followWith_44 : decode cX6_followWith 44 = .ok (.aload_n 0, 1) := by decide +kernel
theorem dX6_followWith_45 : decode cX6_followWith 45 = .ok (.iload 4, 2) := by decide +kernel
theorem dX6_followWith_47 : decode cX6_followWith 47 = .ok (.invokevirtual 71, 3) := by decide +kernel
theorem dX6_followWith_50 : decode cX6_followWith 50 = .ok (.aload_n 0, 1) := by decide +kernel
theorem dX6_followWith_51 : decode cX6_followWith 51 = .ok (.iload_n 1, 1) := by decide +kernel
theorem dX6_followWith_52 : decode cX6_followWith 52 = .ok (.iload 4, 2) := by decide +kernel
theorem dX6_followWith_54 : decode cX6_followWith 54 = .ok (.invokevirtual 67, 3) := by decide +kernel
theorem dX6_followWith_57 : decode cX6_followWith 57 = .ok (.iinc 4 1, 3) := by decide +kernel
theorem dX6_followWith_60 : decode cX6_followWith 60 = .ok (.goto (-25), 3) := by decide +kernel
theorem dX6_followWith_63 : decode cX6_followWith 63 = .ok (.return_, 1) := by decide +kernel
theorem dX6_step_0 : decode cX6_step 0 = .ok (.aload_n 0, 1) := by decide +kernel
theorem dX6_step_1 : decode cX6_step 1 = .ok (.getfield 33, 3) := by decide +kernel
theorem dX6_step_4 : decode cX6_step 4 = .ok (.getfield 37, 3) := by decide +kernel
theorem dX6_step_7 : decode cX6_step 7 = .ok (.iload_n 1, 1) := by decide +kernel
theorem dX6_step_8 : decode cX6_step 8 = .ok (.iadd, 1) := by decide +kernel
theorem dX6_step_9 : decode cX6_step 9 = .ok (.iconst 1, 1) := by decide +kernel
theorem dX6_step_10 : decode cX6_step 10 = .ok (.isub, 1) := by decide +kernel
theorem dX6_step_11 : decode cX6_step 11 = .ok (.bipush 24, 2) := by decide +kernel
theorem dX6_step_13 : decode cX6_step 13 = .ok (.irem, 1) := by decide +kernel
theorem dX6_step_14 : decode cX6_step 14 = .ok (.istore_n 2, 1) := by decide +kernel
theorem dX6_step_15 : decode cX6_step 15 = .ok (.aload_n 0, 1) := by decide +kernel
theorem dX6_step_16 : decode cX6_step 16 = .ok (.getfield 12, 3) := by decide +kernel
theorem dX6_step_19 : decode cX6_step 19 = .ok (.aload_n 0, 1) := by decide +kernel
theorem dX6_step_20 : decode cX6_step 20 = .ok (.getfield 33, 3) := by decide +kernel
theorem dX6_step_23 : decode cX6_step 23 = .ok (.getfield 75, 3) := by decide +kernel
theorem dX6_step_26 : decode cX6_step 26 = .ok (.iload_n 2, 1) := by decide +kernel
theorem dX6_step_27 : decode cX6_step 27 = .ok (.iaload, 1) := by decide +kernel
theorem dX6_step_28 : decode cX6_step 28 = .ok (.aload_n 0, 1) := by decide +kernel
theorem dX6_step_29 : decode cX6_step 29 = .ok (.getfield 26, 3) := by decide +kernel
theorem dX6_step_32 : decode cX6_step 32 = .ok (.isub, 1) := by decide +kernel
theorem dX6_step_33 : decode cX6_step 33 = .ok (.iload_n 2, 1) := by decide +kernel
theorem dX6_step_34 : decode cX6_step 34 = .ok (.invokevirtual 78, 3) := by decide +kernel
theorem dX6_step_37 : decode cX6_step 37 = .ok (.return_, 1) := by decide +kernel
theorem dX6_note_0 : decode cX6_note 0 = .ok (.aload_n 0, 1) := by decide +kernel
theorem dX6_note_1 : decode cX6_note 1 = .ok (.getfield 20, 3) := by decide +kernel
theorem dX6_note_4 : decode cX6_note 4 = .ok (.iload_n 1, 1) := by decide +kernel
theorem dX6_note_5 : decode cX6_note 5 = .ok (.aaload, 1) := by decide +kernel
theorem dX6_note_6 : decode cX6_note 6 = .ok (.iload_n 2, 1) := by decide +kernel
theorem dX6_note_7 : decode cX6_note 7 = .ok (.aload_n 0, 1) := by decide +kernel
theorem dX6_note_8 : decode cX6_note 8 = .ok (.getfield 12, 3) := by decide +kernel
theorem dX6_note_11 : decode cX6_note 11 = .ok (.getfield 55, 3) := by decide +kernel
theorem dX6_note_14 : decode cX6_note 14 = .ok (.iconst 3, 1) := by decide +kernel
theorem dX6_note_15 : decode cX6_note 15 = .ok (.iaload, 1) := by decide +kernel
theorem dX6_note_16 : decode cX6_note 16 = .ok (.iastore, 1) := by decide +kernel
theorem dX6_note_17 : decode cX6_note 17 = .ok (.aload_n 0, 1) := by decide +kernel
theorem dX6_note_18 : decode cX6_note 18 = .ok (.getfield 23, 3) := by decide +kernel
theorem dX6_note_21 : decode cX6_note 21 = .ok (.iload_n 1, 1) := by decide +kernel
theorem dX6_note_22 : decode cX6_note 22 = .ok (.aaload, 1) := by decide +kernel
theorem dX6_note_23 : decode cX6_note 23 = .ok (.iload_n 2, 1) := by decide +kernel
theorem dX6_note_24 : decode cX6_note 24 = .ok (.aload_n 0, 1) := by decide +kernel
theorem dX6_note_25 : decode cX6_note 25 = .ok (.getfield 12, 3) := by decide +kernel
theorem dX6_note_28 : decode cX6_note 28 = .ok (.getfield 55, 3) := by decide +kernel
theorem dX6_note_31 : decode cX6_note 31 = .ok (.iconst 5, 1) := by decide +kernel
theorem dX6_note_32 : decode cX6_note 32 = .ok (.iaload, 1) := by decide +kernel
theorem dX6_note_33 : decode cX6_note 33 = .ok (.iastore, 1) := by decide +kernel
theorem dX6_note_34 : decode cX6_note 34 = .ok (.return_, 1) := by decide +kernel
theorem dX6_near_0 : decode cX6_near 0 = .ok (.aload_n 0, 1) := by decide +kernel
theorem dX6_near_1 : decode cX6_near 1 = .ok (.getfield 33, 3) := by decide +kernel
theorem dX6_near_4 : decode cX6_near 4 = .ok (.aload_n 0, 1) := by decide +kernel
theorem dX6_near_5 : decode cX6_near 5 = .ok (.getfield 20, 3) := by decide +kernel
theorem dX6_near_8 : decode cX6_near 8 = .ok (.iload_n 1, 1) := by decide +kernel
theorem dX6_near_9 : decode cX6_near 9 = .ok (.aaload, 1) := by decide +kernel
theorem dX6_near_10 : decode cX6_near 10 = .ok (.iload_n 3, 1) := by decide +kernel
theorem dX6_near_11 : decode cX6_near 11 = .ok (.iaload, 1) := by decide +kernel
theorem dX6_near_12 : decode cX6_near 12 = .ok (.aload_n 0, 1) := by decide +kernel
theorem dX6_near_13 : decode cX6_near 13 = .ok (.getfield 20, 3) := by decide +kernel
theorem dX6_near_16 : decode cX6_near 16 = .ok (.iload_n 2, 1) := by decide +kernel
theorem dX6_near_17 : decode cX6_near 17 = .ok (.aaload, 1) := by decide +kernel
theorem dX6_near_18 : decode cX6_near 18 = .ok (.iload_n 3, 1) := by decide +kernel
theorem dX6_near_19 : decode cX6_near 19 = .ok (.iaload, 1) := by decide +kernel
theorem dX6_near_20 : decode cX6_near 20 = .ok (.invokevirtual 81, 3) := by decide +kernel
theorem dX6_near_23 : decode cX6_near 23 = .ok (.ireturn, 1) := by decide +kernel
theorem dX6_touchedIn_0 : decode cX6_touchedIn 0 = .ok (.iconst 0, 1) := by decide +kernel
theorem dX6_touchedIn_1 : decode cX6_touchedIn 1 = .ok (.istore 4, 2) := by decide +kernel
theorem dX6_touchedIn_3 : decode cX6_touchedIn 3 = .ok (.iconst 0, 1) := by decide +kernel
theorem dX6_touchedIn_4 : decode cX6_touchedIn 4 = .ok (.istore 5, 2) := by decide +kernel
theorem dX6_touchedIn_6 : decode cX6_touchedIn 6 = .ok (.iload 5, 2) := by decide +kernel
theorem dX6_touchedIn_8 : decode cX6_touchedIn 8 = .ok (.aload_n 0, 1) := by decide +kernel
theorem dX6_touchedIn_9 : decode cX6_touchedIn 9 = .ok (.getfield 33, 3) := by decide +kernel
theorem dX6_touchedIn_12 : decode cX6_touchedIn 12 = .ok (.getfield 48, 3) := by decide +kernel
theorem dX6_touchedIn_15 : decode cX6_touchedIn 15 = .ok (.if_icmp .ge 48, 3) := by decide +kernel
theorem dX6_touchedIn_18 : decode cX6_touchedIn 18 = .ok (.iload 5, 2) := by decide +kernel
theorem dX6_touchedIn_20 : decode cX6_touchedIn 20 = .ok (.iload_n 1, 1) := by decide +kernel
theorem dX6_touchedIn_21 : decode cX6_touchedIn 21 = .ok (.if_icmp .eq 36, 3) := by decide +kernel
theorem dX6_touchedIn_24 : decode cX6_touchedIn 24 = .ok (.aload_n 0, 1) := by decide +kernel
theorem dX6_touchedIn_25 : decode cX6_touchedIn 25 = .ok (.getfield 33, 3) := by decide +kernel
theorem dX6_touchedIn_28 : decode cX6_touchedIn 28 = .ok (.getfield 51, 3) := by decide +kernel
theorem dX6_touchedIn_31 : decode cX6_touchedIn 31 = .ok (.iload 5, 2) := by decide +kernel
theorem dX6_touchedIn_33 : decode cX6_touchedIn 33 = .ok (.aaload, 1) := by decide +kernel
theorem dX6_touchedIn_34 : decode cX6_touchedIn 34 = .ok (.getfield 55, 3) := by decide +kernel
theorem dX6_touchedIn_37 : decode cX6_touchedIn 37 = .ok (.iconst 2, 1) := by decide +kernel
theorem dX6_touchedIn_38 : decode cX6_touchedIn 38 = .ok (.iaload, 1) := by decide +kernel
theorem dX6_touchedIn_39 : decode cX6_touchedIn 39 = .ok (.iload_n 2, 1) := by decide +kernel
theorem dX6_touchedIn_40 : decode cX6_touchedIn 40 = .ok (.if_icmp .ne 17, 3) := by decide +kernel
theorem dX6_touchedIn_43 : decode cX6_touchedIn 43 = .ok (.aload_n 0, 1) := by decide +kernel
theorem dX6_touchedIn_44 : decode cX6_touchedIn 44 = .ok (.iload_n 1, 1) := by decide +kernel
theorem dX6_touchedIn_45 : decode cX6_touchedIn 45 = .ok (.iload 5, 2) := by decide +kernel
theorem dX6_touchedIn_47 : decode cX6_touchedIn 47 = .ok (.iload_n 3, 1) := by decide +kernel
theorem dX6_touchedIn_48 : decode cX6_touchedIn 48 = .ok (.invokevirtual 85, 3) := by decide +kernel
theorem dX6_touchedIn_51 : decode cX6_touchedIn 51 = .ok (.ifCond .eq 6, 3) := by decide +kernel
theorem dX6_touchedIn_54 : decode cX6_touchedIn 54 = .ok (.iinc 4 1, 3) := by decide +kernel
theorem dX6_touchedIn_57 : decode cX6_touchedIn 57 = .ok (.iinc 5 1, 3) := by decide +kernel
theorem dX6_touchedIn_60 : decode cX6_touchedIn 60 = .ok (.goto (-54), 3) := by decide +kernel
theorem dX6_touchedIn_63 : decode cX6_touchedIn 63 = .ok (.iload 4, 2) := by decide +kernel
theorem dX6_touchedIn_65 : decode cX6_touchedIn 65 = .ok (.ireturn, 1) := by decide +kernel
theorem dX6_isClearIn_0 : decode cX6_isClearIn 0 = .ok (.iconst 0, 1) := by decide +kernel
theorem dX6_isClearIn_1 : decode cX6_isClearIn 1 = .ok (.istore_n 3, 1) := by decide +kernel
theorem dX6_isClearIn_2 : decode cX6_isClearIn 2 = .ok (.iload_n 3, 1) := by decide +kernel
theorem dX6_isClearIn_3 : decode cX6_isClearIn 3 = .ok (.aload_n 0, 1) := by decide +kernel
theorem dX6_isClearIn_4 : decode cX6_isClearIn 4 = .ok (.getfield 30, 3) := by decide +kernel
theorem dX6_isClearIn_7 : decode cX6_isClearIn 7 = .ok (.if_icmp .gt 21, 3) := by decide +kernel
theorem dX6_isClearIn_10 : decode cX6_isClearIn 10 = .ok (.aload_n 0, 1) := by decide +kernel
theorem dX6_isClearIn_11 : decode cX6_isClearIn 11 = .ok (.iload_n 1, 1) := by decide +kernel
theorem dX6_isClearIn_12 : decode cX6_isClearIn 12 = .ok (.iload_n 2, 1) := by decide +kernel
theorem dX6_isClearIn_13 : decode cX6_isClearIn 13 = .ok (.iload_n 3, 1) := by decide +kernel
theorem dX6_isClearIn_14 : decode cX6_isClearIn 14 = .ok (.invokevirtual 89, 3) := by decide +kernel
theorem dX6_isClearIn_17 : decode cX6_isClearIn 17 = .ok (.ifCond .le 5, 3) := by decide +kernel
theorem dX6_isClearIn_20 : decode cX6_isClearIn 20 = .ok (.iconst 0, 1) := by decide +kernel
theorem dX6_isClearIn_21 : decode cX6_isClearIn 21 = .ok (.ireturn, 1) := by decide +kernel
theorem dX6_isClearIn_22 : decode cX6_isClearIn 22 = .ok (.iinc 3 1, 3) := by decide +kernel
theorem dX6_isClearIn_25 : decode cX6_isClearIn 25 = .ok (.goto (-23), 3) := by decide +kernel
theorem dX6_isClearIn_28 : decode cX6_isClearIn 28 = .ok (.iconst 1, 1) := by decide +kernel
theorem dX6_isClearIn_29 : decode cX6_isClearIn 29 = .ok (.ireturn, 1) := by decide +kernel
theorem dX6_isClearWith_0 : decode cX6_isClearWith 0 = .ok (.aload_n 0, 1) := by decide +kernel
theorem dX6_isClearWith_1 : decode cX6_isClearWith 1 = .ok (.getfield 33, 3) := by decide +kernel
theorem dX6_isClearWith_4 : decode cX6_isClearWith 4 = .ok (.getfield 51, 3) := by decide +kernel
theorem dX6_isClearWith_7 : decode cX6_isClearWith 7 = .ok (.iload_n 1, 1) := by decide +kernel
theorem dX6_isClearWith_8 : decode cX6_isClearWith 8 = .ok (.aaload, 1) := by decide +kernel
theorem dX6_isClearWith_9 : decode cX6_isClearWith 9 = .ok (.getfield 55, 3) := by decide +kernel
theorem dX6_isClearWith_12 : decode cX6_isClearWith 12 = .ok (.iconst 2, 1) := by decide +kernel
theorem dX6_isClearWith_13 : decode cX6_isClearWith 13 = .ok (.iaload, 1) := by decide +kernel
theorem dX6_isClearWith_14 : decode cX6_isClearWith 14 = .ok (.istore 4, 2) := by decide +kernel
theorem dX6_isClearWith_16 : decode cX6_isClearWith 16 = .ok (.aload_n 0, 1) := by decide +kernel
theorem dX6_isClearWith_17 : decode cX6_isClearWith 17 = .ok (.getfield 12, 3) := by decide +kernel
theorem dX6_isClearWith_20 : decode cX6_isClearWith 20 = .ok (.aload_n 0, 1) := by decide +kernel
theorem dX6_isClearWith_21 : decode cX6_isClearWith 21 = .ok (.getfield 33, 3) := by decide +kernel
theorem dX6_isClearWith_24 : decode cX6_isClearWith 24 = .ok (.getfield 51, 3) := by decide +kernel
theorem dX6_isClearWith_27 : decode cX6_isClearWith 27 = .ok (.iload_n 1, 1) := by decide +kernel
theorem dX6_isClearWith_28 : decode cX6_isClearWith 28 = .ok (.aaload, 1) := by decide +kernel
theorem dX6_isClearWith_29 : decode cX6_isClearWith 29 = .ok (.invokevirtual 63, 3) := by decide +kernel
theorem dX6_isClearWith_32 : decode cX6_isClearWith 32 = .ok (.aload_n 0, 1) := by decide +kernel
theorem dX6_isClearWith_33 : decode cX6_isClearWith 33 = .ok (.getfield 12, 3) := by decide +kernel
theorem dX6_isClearWith_36 : decode cX6_isClearWith 36 = .ok (.getfield 55, 3) := by decide +kernel
theorem dX6_isClearWith_39 : decode cX6_isClearWith 39 = .ok (.iload_n 2, 1) := by decide +kernel
theorem dX6_isClearWith_40 : decode cX6_isClearWith 40 = .ok (.iload_n 3, 1) := by decide +kernel
theorem dX6_isClearWith_41 : decode cX6_isClearWith 41 = .ok (.iastore, 1) := by decide +kernel
theorem dX6_isClearWith_42 : decode cX6_isClearWith 42 = .ok (.iconst 0, 1) := by decide +kernel
theorem dX6_isClearWith_43 : decode cX6_isClearWith 43 = .ok (.istore 5, 2) := by decide +kernel
theorem dX6_isClearWith_45 : decode cX6_isClearWith 45 = .ok (.iload 5, 2) := by decide +kernel
theorem dX6_isClearWith_47 : decode cX6_isClearWith 47 = .ok (.aload_n 0, 1) := by decide +kernel
theorem dX6_isClearWith_48 : decode cX6_isClearWith 48 = .ok (.getfield 30, 3) := by decide +kernel
theorem dX6_isClearWith_51 : decode cX6_isClearWith 51 = .ok (.if_icmp .gt 41, 3) := by decide +kernel
theorem dX6_isClearWith_54 : decode cX6_isClearWith 54 = .ok (.iload 5, 2) := by decide +kernel
theorem dX6_isClearWith_56 : decode cX6_isClearWith 56 = .ok (.ifCond .le 9, 3) := by decide +kernel
theorem dX6_isClearWith_59 : decode cX6_isClearWith 59 = .ok (.aload_n 0, 1) := by decide +kernel
theorem dX6_isClearWith_60 : decode cX6_isClearWith 60 = .ok (.iload 5, 2) := by decide +kernel
theorem dX6_isClearWith_62 : decode cX6_isClearWith 62 = .ok (.invokevirtual 71, 3) := by decide +kernel
theorem dX6_isClearWith_65 : decode cX6_isClearWith 65 = .ok (.aload_n 0, 1) := by decide +kernel
theorem dX6_isClearWith_66 : decode cX6_isClearWith 66 = .ok (.iload_n 1, 1) := by decide +kernel
theorem dX6_isClearWith_67 : decode cX6_isClearWith 67 = .ok (.iload 5, 2) := by decide +kernel
theorem dX6_isClearWith_69 : decode cX6_isClearWith 69 = .ok (.invokevirtual 67, 3) := by decide +kernel
theorem dX6_isClearWith_72 : decode cX6_isClearWith 72 = .ok (.aload_n 0, 1) := by decide +kernel
theorem dX6_isClearWith_73 : decode cX6_isClearWith 73 = .ok (.iload_n 1, 1) := by decide +kernel
theorem dX6_isClearWith_74 : decode cX6_isClearWith 74 = .ok (.iload 4, 2) := by decide +kernel
theorem dX6_isClearWith_76 : decode cX6_isClearWith 76 = .ok (.iload 5, 2) := by decide +kernel
theorem dX6_isClearWith_78 : decode cX6_isClearWith 78 = .ok (.invokevirtual 89, 3) := by decide +kernel
theorem dX6_isClearWith_81 : decode cX6_isClearWith 81 = .ok (.ifCond .le 5, 3) := by decide +kernel
theorem dX6_isClearWith_84 : decode cX6_isClearWith 84 = .ok (.iconst 0, 1) := by decide +kernel
theorem dX6_isClearWith_85 : decode cX6_isClearWith 85 = .ok (.ireturn, 1) := by decide +kernel
theorem dX6_isClearWith_86 : decode cX6_isClearWith 86 = .ok (.iinc 5 1, 3) := by decide +kernel
theorem dX6_isClearWith_89 : decode cX6_isClearWith 89 = .ok (.goto (-44), 3) := by decide +kernel
theorem dX6_isClearWith_92 : decode cX6_isClearWith 92 = .ok (.iconst 1, 1) := by decide +kernel
theorem dX6_isClearWith_93 : decode cX6_isClearWith 93 = .ok (.ireturn, 1) := by decide +kernel
theorem dX6_leastPair_0 : decode cX6_leastPair 0 = .ok (.iconst 0, 1) := by decide +kernel
theorem dX6_leastPair_1 : decode cX6_leastPair 1 = .ok (.istore_n 2, 1) := by decide +kernel
theorem dX6_leastPair_2 : decode cX6_leastPair 2 = .ok (.iload_n 2, 1) := by decide +kernel
theorem dX6_leastPair_3 : decode cX6_leastPair 3 = .ok (.aload_n 0, 1) := by decide +kernel
theorem dX6_leastPair_4 : decode cX6_leastPair 4 = .ok (.getfield 33, 3) := by decide +kernel
theorem dX6_leastPair_7 : decode cX6_leastPair 7 = .ok (.getfield 48, 3) := by decide +kernel
theorem dX6_leastPair_10 : decode cX6_leastPair 10 = .ok (.if_icmp .ge 59, 3) := by decide +kernel
theorem dX6_leastPair_13 : decode cX6_leastPair 13 = .ok (.iload_n 2, 1) := by decide +kernel
theorem dX6_leastPair_14 : decode cX6_leastPair 14 = .ok (.iconst 1, 1) := by decide +kernel
theorem dX6_leastPair_15 : decode cX6_leastPair 15 = .ok (.iadd, 1) := by decide +kernel
theorem dX6_leastPair_16 : decode cX6_leastPair 16 = .ok (.istore_n 3, 1) := by decide +kernel
theorem dX6_leastPair_17 : decode cX6_leastPair 17 = .ok (.iload_n 3, 1) := by decide +kernel
theorem dX6_leastPair_18 : decode cX6_leastPair 18 = .ok (.aload_n 0, 1) := by decide +kernel
theorem dX6_leastPair_19 : decode cX6_leastPair 19 = .ok (.getfield 33, 3) := by decide +kernel
theorem dX6_leastPair_22 : decode cX6_leastPair 22 = .ok (.getfield 48, 3) := by decide +kernel
theorem dX6_leastPair_25 : decode cX6_leastPair 25 = .ok (.if_icmp .ge 38, 3) := by decide +kernel
theorem dX6_leastPair_28 : decode cX6_leastPair 28 = .ok (.aload_n 0, 1) := by decide +kernel
theorem dX6_leastPair_29 : decode cX6_leastPair 29 = .ok (.getfield 33, 3) := by decide +kernel
theorem dX6_leastPair_32 : decode cX6_leastPair 32 = .ok (.iload_n 2, 1) := by decide +kernel
theorem dX6_leastPair_33 : decode cX6_leastPair 33 = .ok (.iload_n 3, 1) := by decide +kernel
theorem dX6_leastPair_34 : decode cX6_leastPair 34 = .ok (.invokevirtual 93, 3) := by decide +kernel
theorem dX6_leastPair_37 : decode cX6_leastPair 37 = .ok (.ifCond .eq 20, 3) := by decide +kernel
theorem dX6_leastPair_40 : decode cX6_leastPair 40 = .ok (.aload_n 0, 1) := by decide +kernel
theorem dX6_leastPair_41 : decode cX6_leastPair 41 = .ok (.iload_n 2, 1) := by decide +kernel
theorem dX6_leastPair_42 : decode cX6_leastPair 42 = .ok (.iload_n 3, 1) := by decide +kernel
theorem dX6_leastPair_43 : decode cX6_leastPair 43 = .ok (.iload_n 1, 1) := by decide +kernel
theorem dX6_leastPair_44 : decode cX6_leastPair 44 = .ok (.invokevirtual 85, 3) := by decide +kernel
theorem dX6_leastPair_47 : decode cX6_leastPair 47 = .ok (.ifCond .eq 10, 3) := by decide +kernel
theorem dX6_leastPair_50 : decode cX6_leastPair 50 = .ok (.bipush 10, 2) := by decide +kernel
theorem dX6_leastPair_52 : decode cX6_leastPair 52 = .ok (.iload_n 2, 1) := by decide +kernel
theorem dX6_leastPair_53 : decode cX6_leastPair 53 = .ok (.imul, 1) := by decide +kernel
theorem dX6_leastPair_54 : decode cX6_leastPair 54 = .ok (.iload_n 3, 1) := by decide +kernel
theorem dX6_leastPair_55 : decode cX6_leastPair 55 = .ok (.iadd, 1) := by decide +kernel
theorem dX6_leastPair_56 : decode cX6_leastPair 56 = .ok (.ireturn, 1) := by decide +kernel
theorem dX6_leastPair_57 : decode cX6_leastPair 57 = .ok (.iinc 3 1, 3) := by decide +kernel
theorem dX6_leastPair_60 : decode cX6_leastPair 60 = .ok (.goto (-43), 3) := by decide +kernel
theorem dX6_leastPair_63 : decode cX6_leastPair 63 = .ok (.iinc 2 1, 3) := by decide +kernel
theorem dX6_leastPair_66 : decode cX6_leastPair 66 = .ok (.goto (-64), 3) := by decide +kernel
theorem dX6_leastPair_69 : decode cX6_leastPair 69 = .ok (.bipush (-3), 2) := by decide +kernel
theorem dX6_leastPair_71 : decode cX6_leastPair 71 = .ok (.ireturn, 1) := by decide +kernel
theorem dX6_isClearForAll_0 : decode cX6_isClearForAll 0 = .ok (.iconst 1, 1) := by decide +kernel
theorem dX6_isClearForAll_1 : decode cX6_isClearForAll 1 = .ok (.istore_n 1, 1) := by decide +kernel
theorem dX6_isClearForAll_2 : decode cX6_isClearForAll 2 = .ok (.iload_n 1, 1) := by decide +kernel
theorem dX6_isClearForAll_3 : decode cX6_isClearForAll 3 = .ok (.aload_n 0, 1) := by decide +kernel
theorem dX6_isClearForAll_4 : decode cX6_isClearForAll 4 = .ok (.getfield 30, 3) := by decide +kernel
theorem dX6_isClearForAll_7 : decode cX6_isClearForAll 7 = .ok (.if_icmp .gt 21, 3) := by decide +kernel
theorem dX6_isClearForAll_10 : decode cX6_isClearForAll 10 = .ok (.aload_n 0, 1) := by decide +kernel
theorem dX6_isClearForAll_11 : decode cX6_isClearForAll 11 = .ok (.iload_n 1, 1) := by decide +kernel
theorem dX6_isClearForAll_12 : decode cX6_isClearForAll 12 = .ok (.invokevirtual 96, 3) := by decide +kernel
theorem dX6_isClearForAll_15 : decode cX6_isClearForAll 15 = .ok (.bipush (-3), 2) := by decide +kernel
theorem dX6_isClearForAll_17 : decode cX6_isClearForAll 17 = .ok (.if_icmp .eq 5, 3) := by decide +kernel
theorem dX6_isClearForAll_20 : decode cX6_isClearForAll 20 = .ok (.iconst 0, 1) := by decide +kernel
theorem dX6_isClearForAll_21 : decode cX6_isClearForAll 21 = .ok (.ireturn, 1) := by decide +kernel
theorem dX6_isClearForAll_22 : decode cX6_isClearForAll 22 = .ok (.iinc 1 1, 3) := by decide +kernel
theorem dX6_isClearForAll_25 : decode cX6_isClearForAll 25 = .ok (.goto (-23), 3) := by decide +kernel
theorem dX6_isClearForAll_28 : decode cX6_isClearForAll 28 = .ok (.iconst 1, 1) := by decide +kernel
theorem dX6_isClearForAll_29 : decode cX6_isClearForAll 29 = .ok (.ireturn, 1) := by decide +kernel
theorem dX6_pairsToCome_0 : decode cX6_pairsToCome 0 = .ok (.iconst 0, 1) := by decide +kernel
theorem dX6_pairsToCome_1 : decode cX6_pairsToCome 1 = .ok (.istore_n 1, 1) := by decide +kernel
theorem dX6_pairsToCome_2 : decode cX6_pairsToCome 2 = .ok (.iconst 1, 1) := by decide +kernel
theorem dX6_pairsToCome_3 : decode cX6_pairsToCome 3 = .ok (.istore_n 2, 1) := by decide +kernel
theorem dX6_pairsToCome_4 : decode cX6_pairsToCome 4 = .ok (.iload_n 2, 1) := by decide +kernel
theorem dX6_pairsToCome_5 : decode cX6_pairsToCome 5 = .ok (.aload_n 0, 1) := by decide +kernel
theorem dX6_pairsToCome_6 : decode cX6_pairsToCome 6 = .ok (.getfield 30, 3) := by decide +kernel
theorem dX6_pairsToCome_9 : decode cX6_pairsToCome 9 = .ok (.if_icmp .gt 51, 3) := by decide +kernel
theorem dX6_pairsToCome_12 : decode cX6_pairsToCome 12 = .ok (.iconst 0, 1) := by decide +kernel
theorem dX6_pairsToCome_13 : decode cX6_pairsToCome 13 = .ok (.istore_n 3, 1) := by decide +kernel
theorem dX6_pairsToCome_14 : decode cX6_pairsToCome 14 = .ok (.iload_n 3, 1) := by decide +kernel
theorem dX6_pairsToCome_15 : decode cX6_pairsToCome 15 = .ok (.aload_n 0, 1) := by decide +kernel
theorem dX6_pairsToCome_16 : decode cX6_pairsToCome 16 = .ok (.getfield 33, 3) := by decide +kernel
theorem dX6_pairsToCome_19 : decode cX6_pairsToCome 19 = .ok (.getfield 48, 3) := by decide +kernel
theorem dX6_pairsToCome_22 : decode cX6_pairsToCome 22 = .ok (.if_icmp .ge 32, 3) := by decide +kernel
theorem dX6_pairsToCome_25 : decode cX6_pairsToCome 25 = .ok (.iload_n 1, 1) := by decide +kernel
theorem dX6_pairsToCome_26 : decode cX6_pairsToCome 26 = .ok (.aload_n 0, 1) := by decide +kernel
theorem dX6_pairsToCome_27 : decode cX6_pairsToCome 27 = .ok (.iload_n 3, 1) := by decide +kernel
theorem dX6_pairsToCome_28 : decode cX6_pairsToCome 28 = .ok (.aload_n 0, 1) := by decide +kernel
theorem dX6_pairsToCome_29 : decode cX6_pairsToCome 29 = .ok (.getfield 33, 3) := by decide +kernel
theorem dX6_pairsToCome_32 : decode cX6_pairsToCome 32 = .ok (.getfield 51, 3) := by decide +kernel
theorem dX6_pairsToCome_35 : decode cX6_pairsToCome 35 = .ok (.iload_n 3, 1) := by decide +kernel
theorem dX6_pairsToCome_36 : decode cX6_pairsToCome 36 = .ok (.aaload, 1) := by decide +kernel
theorem dX6_pairsToCome_37 : decode cX6_pairsToCome 37 = .ok (.getfield 55, 3) := by decide +kernel
theorem dX6_pairsToCome_40 : decode cX6_pairsToCome 40 = .ok (.iconst 2, 1) := by decide +kernel
theorem dX6_pairsToCome_41 : decode cX6_pairsToCome 41 = .ok (.iaload, 1) := by decide +kernel
theorem dX6_pairsToCome_42 : decode cX6_pairsToCome 42 = .ok (.iload_n 2, 1) := by decide +kernel
theorem dX6_pairsToCome_43 : decode cX6_pairsToCome 43 = .ok (.invokevirtual 89, 3) := by decide +kernel
theorem dX6_pairsToCome_46 : decode cX6_pairsToCome 46 = .ok (.iadd, 1) := by decide +kernel
theorem dX6_pairsToCome_47 : decode cX6_pairsToCome 47 = .ok (.istore_n 1, 1) := by decide +kernel
theorem dX6_pairsToCome_48 : decode cX6_pairsToCome 48 = .ok (.iinc 3 1, 3) := by decide +kernel
theorem dX6_pairsToCome_51 : decode cX6_pairsToCome 51 = .ok (.goto (-37), 3) := by decide +kernel
theorem dX6_pairsToCome_54 : decode cX6_pairsToCome 54 = .ok (.iinc 2 1, 3) := by decide +kernel
theorem dX6_pairsToCome_57 : decode cX6_pairsToCome 57 = .ok (.goto (-53), 3) := by decide +kernel
theorem dX6_pairsToCome_60 : decode cX6_pairsToCome 60 = .ok (.iload_n 1, 1) := by decide +kernel
theorem dX6_pairsToCome_61 : decode cX6_pairsToCome 61 = .ok (.iconst 2, 1) := by decide +kernel
theorem dX6_pairsToCome_62 : decode cX6_pairsToCome 62 = .ok (.idiv, 1) := by decide +kernel
theorem dX6_pairsToCome_63 : decode cX6_pairsToCome 63 = .ok (.ireturn, 1) := by decide +kernel
theorem dX6_pairsWithGift_0 : decode cX6_pairsWithGift 0 = .ok (.aload_n 0, 1) := by decide +kernel
theorem dX6_pairsWithGift_1 : decode cX6_pairsWithGift 1 = .ok (.getfield 33, 3) := by decide +kernel
theorem dX6_pairsWithGift_4 : decode cX6_pairsWithGift 4 = .ok (.getfield 51, 3) := by decide +kernel
theorem dX6_pairsWithGift_7 : decode cX6_pairsWithGift 7 = .ok (.iload_n 1, 1) := by decide +kernel
theorem dX6_pairsWithGift_8 : decode cX6_pairsWithGift 8 = .ok (.aaload, 1) := by decide +kernel
theorem dX6_pairsWithGift_9 : decode cX6_pairsWithGift 9 = .ok (.getfield 55, 3) := by decide +kernel
theorem dX6_pairsWithGift_12 : decode cX6_pairsWithGift 12 = .ok (.bipush 6, 2) := by decide +kernel
theorem dX6_pairsWithGift_14 : decode cX6_pairsWithGift 14 = .ok (.iaload, 1) := by decide +kernel
theorem dX6_pairsWithGift_15 : decode cX6_pairsWithGift 15 = .ok (.istore 4, 2) := by decide +kernel
theorem dX6_pairsWithGift_17 : decode cX6_pairsWithGift 17 = .ok (.aload_n 0, 1) := by decide +kernel
theorem dX6_pairsWithGift_18 : decode cX6_pairsWithGift 18 = .ok (.getfield 33, 3) := by decide +kernel
theorem dX6_pairsWithGift_21 : decode cX6_pairsWithGift 21 = .ok (.getfield 51, 3) := by decide +kernel
theorem dX6_pairsWithGift_24 : decode cX6_pairsWithGift 24 = .ok (.iload_n 2, 1) := by decide +kernel
theorem dX6_pairsWithGift_25 : decode cX6_pairsWithGift 25 = .ok (.aaload, 1) := by decide +kernel
theorem dX6_pairsWithGift_26 : decode cX6_pairsWithGift 26 = .ok (.getfield 55, 3) := by decide +kernel
theorem dX6_pairsWithGift_29 : decode cX6_pairsWithGift 29 = .ok (.bipush 6, 2) := by decide +kernel
theorem dX6_pairsWithGift_31 : decode cX6_pairsWithGift 31 = .ok (.iaload, 1) := by decide +kernel
theorem dX6_pairsWithGift_32 : decode cX6_pairsWithGift 32 = .ok (.istore 5, 2) := by decide +kernel
theorem dX6_pairsWithGift_34 : decode cX6_pairsWithGift 34 = .ok (.aload_n 0, 1) := by decide +kernel
theorem dX6_pairsWithGift_35 : decode cX6_pairsWithGift 35 = .ok (.iload_n 1, 1) := by decide +kernel
theorem dX6_pairsWithGift_36 : decode cX6_pairsWithGift 36 = .ok (.bipush 6, 2) := by decide +kernel
theorem dX6_pairsWithGift_38 : decode cX6_pairsWithGift 38 = .ok (.iload 4, 2) := by decide +kernel
theorem dX6_pairsWithGift_40 : decode cX6_pairsWithGift 40 = .ok (.iload_n 3, 1) := by decide +kernel
theorem dX6_pairsWithGift_41 : decode cX6_pairsWithGift 41 = .ok (.isub, 1) := by decide +kernel
theorem dX6_pairsWithGift_42 : decode cX6_pairsWithGift 42 = .ok (.invokevirtual 59, 3) := by decide +kernel
theorem dX6_pairsWithGift_45 : decode cX6_pairsWithGift 45 = .ok (.aload_n 0, 1) := by decide +kernel
theorem dX6_pairsWithGift_46 : decode cX6_pairsWithGift 46 = .ok (.iload_n 2, 1) := by decide +kernel
theorem dX6_pairsWithGift_47 : decode cX6_pairsWithGift 47 = .ok (.bipush 6, 2) := by decide +kernel
theorem dX6_pairsWithGift_49 : decode cX6_pairsWithGift 49 = .ok (.iload 5, 2) := by decide +kernel
theorem dX6_pairsWithGift_51 : decode cX6_pairsWithGift 51 = .ok (.iload_n 3, 1) := by decide +kernel
theorem dX6_pairsWithGift_52 : decode cX6_pairsWithGift 52 = .ok (.iadd, 1) := by decide +kernel
theorem dX6_pairsWithGift_53 : decode cX6_pairsWithGift 53 = .ok (.invokevirtual 59, 3) := by decide +kernel
theorem dX6_pairsWithGift_56 : decode cX6_pairsWithGift 56 = .ok (.aload_n 0, 1) := by decide +kernel
theorem dX6_pairsWithGift_57 : decode cX6_pairsWithGift 57 = .ok (.invokevirtual 100, 3) := by decide +kernel
theorem dX6_pairsWithGift_60 : decode cX6_pairsWithGift 60 = .ok (.istore 6, 2) := by decide +kernel
theorem dX6_pairsWithGift_62 : decode cX6_pairsWithGift 62 = .ok (.aload_n 0, 1) := by decide +kernel
theorem dX6_pairsWithGift_63 : decode cX6_pairsWithGift 63 = .ok (.iload_n 1, 1) := by decide +kernel
theorem dX6_pairsWithGift_64 : decode cX6_pairsWithGift 64 = .ok (.bipush 6, 2) := by decide +kernel
theorem dX6_pairsWithGift_66 : decode cX6_pairsWithGift 66 = .ok (.iload 4, 2) := by decide +kernel
theorem dX6_pairsWithGift_68 : decode cX6_pairsWithGift 68 = .ok (.invokevirtual 59, 3) := by decide +kernel
theorem dX6_pairsWithGift_71 : decode cX6_pairsWithGift 71 = .ok (.aload_n 0, 1) := by decide +kernel
theorem dX6_pairsWithGift_72 : decode cX6_pairsWithGift 72 = .ok (.iload_n 2, 1) := by decide +kernel
theorem dX6_pairsWithGift_73 : decode cX6_pairsWithGift 73 = .ok (.bipush 6, 2) := by decide +kernel
theorem dX6_pairsWithGift_75 : decode cX6_pairsWithGift 75 = .ok (.iload 5, 2) := by decide +kernel
theorem dX6_pairsWithGift_77 : decode cX6_pairsWithGift 77 = .ok (.invokevirtual 59, 3) := by decide +kernel
theorem dX6_pairsWithGift_80 : decode cX6_pairsWithGift 80 = .ok (.iload 6, 2) := by decide +kernel
theorem dX6_pairsWithGift_82 : decode cX6_pairsWithGift 82 = .ok (.ireturn, 1) := by decide +kernel
theorem dX6_rowPart_0 : decode cX6_rowPart 0 = .ok (.iload_n 3, 1) := by decide +kernel
theorem dX6_rowPart_1 : decode cX6_rowPart 1 = .ok (.lookupswitch 45 #[(0, 27), (1, 36)], 27) := by decide +kernel
theorem dX6_rowPart_28 : decode cX6_rowPart 28 = .ok (.aload_n 0, 1) := by decide +kernel
theorem dX6_rowPart_29 : decode cX6_rowPart 29 = .ok (.getfield 20, 3) := by decide +kernel
theorem dX6_rowPart_32 : decode cX6_rowPart 32 = .ok (.iload_n 1, 1) := by decide +kernel
theorem dX6_rowPart_33 : decode cX6_rowPart 33 = .ok (.aaload, 1) := by decide +kernel
theorem dX6_rowPart_34 : decode cX6_rowPart 34 = .ok (.iload_n 2, 1) := by decide +kernel
theorem dX6_rowPart_35 : decode cX6_rowPart 35 = .ok (.iaload, 1) := by decide +kernel
theorem dX6_rowPart_36 : decode cX6_rowPart 36 = .ok (.ireturn, 1) := by decide +kernel
theorem dX6_rowPart_37 : decode cX6_rowPart 37 = .ok (.aload_n 0, 1) := by decide +kernel
theorem dX6_rowPart_38 : decode cX6_rowPart 38 = .ok (.getfield 23, 3) := by decide +kernel
theorem dX6_rowPart_41 : decode cX6_rowPart 41 = .ok (.iload_n 1, 1) := by decide +kernel
theorem dX6_rowPart_42 : decode cX6_rowPart 42 = .ok (.aaload, 1) := by decide +kernel
theorem dX6_rowPart_43 : decode cX6_rowPart 43 = .ok (.iload_n 2, 1) := by decide +kernel
theorem dX6_rowPart_44 : decode cX6_rowPart 44 = .ok (.iaload, 1) := by decide +kernel
theorem dX6_rowPart_45 : decode cX6_rowPart 45 = .ok (.ireturn, 1) := by decide +kernel
theorem dX6_rowPart_46 : decode cX6_rowPart 46 = .ok (.aload_n 0, 1) := by decide +kernel
theorem dX6_rowPart_47 : decode cX6_rowPart 47 = .ok (.iload_n 1, 1) := by decide +kernel
theorem dX6_rowPart_48 : decode cX6_rowPart 48 = .ok (.aload_n 0, 1) := by decide +kernel
theorem dX6_rowPart_49 : decode cX6_rowPart 49 = .ok (.getfield 33, 3) := by decide +kernel
theorem dX6_rowPart_52 : decode cX6_rowPart 52 = .ok (.getfield 51, 3) := by decide +kernel
theorem dX6_rowPart_55 : decode cX6_rowPart 55 = .ok (.iload_n 1, 1) := by decide +kernel
theorem dX6_rowPart_56 : decode cX6_rowPart 56 = .ok (.aaload, 1) := by decide +kernel
theorem dX6_rowPart_57 : decode cX6_rowPart 57 = .ok (.getfield 55, 3) := by decide +kernel
theorem dX6_rowPart_60 : decode cX6_rowPart 60 = .ok (.iconst 2, 1) := by decide +kernel
theorem dX6_rowPart_61 : decode cX6_rowPart 61 = .ok (.iaload, 1) := by decide +kernel
theorem dX6_rowPart_62 : decode cX6_rowPart 62 = .ok (.iload_n 2, 1) := by decide +kernel
theorem dX6_rowPart_63 : decode cX6_rowPart 63 = .ok (.invokevirtual 89, 3) := by decide +kernel
theorem dX6_rowPart_66 : decode cX6_rowPart 66 = .ok (.ireturn, 1) := by decide +kernel
theorem dX7_init_0 : decode cX7_init 0 = .ok (.aload_n 0, 1) := by decide +kernel
theorem dX7_init_1 : decode cX7_init 1 = .ok (.invokespecial 1, 3) := by decide +kernel
theorem dX7_init_4 : decode cX7_init 4 = .ok (.aload_n 0, 1) := by decide +kernel
theorem dX7_init_5 : decode cX7_init 5 = .ok (.new 7, 3) := by decide +kernel
theorem dX7_init_8 : decode cX7_init 8 = .ok (.dup, 1) := by decide +kernel
theorem dX7_init_9 : decode cX7_init 9 = .ok (.invokespecial 9, 3) := by decide +kernel
theorem dX7_init_12 : decode cX7_init 12 = .ok (.putfield 10, 3) := by decide +kernel
theorem dX7_init_15 : decode cX7_init 15 = .ok (.aload_n 0, 1) := by decide +kernel
theorem dX7_init_16 : decode cX7_init 16 = .ok (.new 7, 3) := by decide +kernel
theorem dX7_init_19 : decode cX7_init 19 = .ok (.dup, 1) := by decide +kernel
theorem dX7_init_20 : decode cX7_init 20 = .ok (.invokespecial 9, 3) := by decide +kernel
theorem dX7_init_23 : decode cX7_init 23 = .ok (.putfield 16, 3) := by decide +kernel
theorem dX7_init_26 : decode cX7_init 26 = .ok (.aload_n 0, 1) := by decide +kernel
theorem dX7_init_27 : decode cX7_init 27 = .ok (.iconst 0, 1) := by decide +kernel
theorem dX7_init_28 : decode cX7_init 28 = .ok (.putfield 19, 3) := by decide +kernel
theorem dX7_init_31 : decode cX7_init 31 = .ok (.aload_n 0, 1) := by decide +kernel
theorem dX7_init_32 : decode cX7_init 32 = .ok (.new 7, 3) := by decide +kernel
theorem dX7_init_35 : decode cX7_init 35 = .ok (.dup, 1) := by decide +kernel
theorem dX7_init_36 : decode cX7_init 36 = .ok (.invokespecial 9, 3) := by decide +kernel
theorem dX7_init_39 : decode cX7_init 39 = .ok (.putfield 23, 3) := by decide +kernel
theorem dX7_init_42 : decode cX7_init 42 = .ok (.aload_n 0, 1) := by decide +kernel
theorem dX7_init_43 : decode cX7_init 43 = .ok (.new 26, 3) := by decide +kernel
theorem dX7_init_46 : decode cX7_init 46 = .ok (.dup, 1) := by decide +kernel
theorem dX7_init_47 : decode cX7_init 47 = .ok (.invokespecial 28, 3) := by decide +kernel
theorem dX7_init_50 : decode cX7_init 50 = .ok (.putfield 29, 3) := by decide +kernel
theorem dX7_init_53 : decode cX7_init 53 = .ok (.aload_n 0, 1) := by decide +kernel
theorem dX7_init_54 : decode cX7_init 54 = .ok (.new 33, 3) := by decide +kernel
theorem dX7_init_57 : decode cX7_init 57 = .ok (.dup, 1) := by decide +kernel
theorem dX7_init_58 : decode cX7_init 58 = .ok (.aload_n 0, 1) := by decide +kernel
theorem dX7_init_59 : decode cX7_init 59 = .ok (.getfield 10, 3) := by decide +kernel
theorem dX7_init_62 : decode cX7_init 62 = .ok (.invokespecial 35, 3) := by decide +kernel
theorem dX7_init_65 : decode cX7_init 65 = .ok (.putfield 38, 3) := by decide +kernel
theorem dX7_init_68 : decode cX7_init 68 = .ok (.aload_n 0, 1) := by decide +kernel
theorem dX7_init_69 : decode cX7_init 69 = .ok (.bipush 20, 2) := by decide +kernel
theorem dX7_init_71 : decode cX7_init 71 = .ok (.iconst 3, 1) := by decide +kernel
theorem dX7_init_72 : decode cX7_init 72 = .ok (.multianewarray 42 2, 4) := by decide +kernel
theorem dX7_init_76 : decode cX7_init 76 = .ok (.putfield 44, 3) := by decide +kernel
theorem dX7_init_79 : decode cX7_init 79 = .ok (.aload_n 0, 1) := by decide +kernel
theorem dX7_init_80 : decode cX7_init 80 = .ok (.iconst 0, 1) := by decide +kernel
theorem dX7_init_81 : decode cX7_init 81 = .ok (.putfield 47, 3) := by decide +kernel
theorem dX7_init_84 : decode cX7_init 84 = .ok (.aload_n 0, 1) := by decide +kernel
theorem dX7_init_85 : decode cX7_init 85 = .ok (.iconst 4, 1) := by decide +kernel
theorem dX7_init_86 : decode cX7_init 86 = .ok (.anewarray 51, 3) := by decide +kernel
theorem dX7_init_89 : decode cX7_init 89 = .ok (.putfield 53, 3) := by decide +kernel
theorem dX7_init_92 : decode cX7_init 92 = .ok (.aload_n 0, 1) := by decide +kernel
theorem dX7_init_93 : decode cX7_init 93 = .ok (.iconst 4, 1) := by decide +kernel
theorem dX7_init_94 : decode cX7_init 94 = .ok (.anewarray 57, 3) := by decide +kernel
theorem dX7_init_97 : decode cX7_init 97 = .ok (.putfield 59, 3) := by decide +kernel
theorem dX7_init_100 : decode cX7_init 100 = .ok (.aload_n 0, 1) := by decide +kernel
theorem dX7_init_101 : decode cX7_init 101 = .ok (.new 63, 3) := by decide +kernel
theorem dX7_init_104 : decode cX7_init 104 = .ok (.dup, 1) := by decide +kernel
theorem dX7_init_105 : decode cX7_init 105 = .ok (.invokespecial 65, 3) := by decide +kernel
theorem dX7_init_108 : decode cX7_init 108 = .ok (.putfield 66, 3) := by decide +kernel
theorem dX7_init_111 : decode cX7_init 111 = .ok (.iconst 0, 1) := by decide +kernel
theorem dX7_init_112 : decode cX7_init 112 = .ok (.istore_n 1, 1) := by decide +kernel
theorem dX7_init_113 : decode cX7_init 113 = .ok (.iload_n 1, 1) := by decide +kernel
theorem dX7_init_114 : decode cX7_init 114 = .ok (.iconst 4, 1) := by decide +kernel
theorem dX7_init_115 : decode cX7_init 115 = .ok (.if_icmp .ge 22, 3) := by decide +kernel
theorem dX7_init_118 : decode cX7_init 118 = .ok (.aload_n 0, 1) := by decide +kernel
theorem dX7_init_119 : decode cX7_init 119 = .ok (.getfield 53, 3) := by decide +kernel
theorem dX7_init_122 : decode cX7_init 122 = .ok (.iload_n 1, 1) := by decide +kernel
theorem dX7_init_123 : decode cX7_init 123 = .ok (.new 51, 3) := by decide +kernel
theorem dX7_init_126 : decode cX7_init 126 = .ok (.dup, 1) := by decide +kernel
theorem dX7_init_127 : decode cX7_init 127 = .ok (.invokespecial 70, 3) := by decide +kernel
theorem dX7_init_130 : decode cX7_init 130 = .ok (.aastore, 1) := by decide +kernel
theorem dX7_init_131 : decode cX7_init 131 = .ok (.iinc 1 1, 3) := by decide +kernel
theorem dX7_init_134 : decode cX7_init 134 = .ok (.goto (-21), 3) := by decide +kernel
theorem dX7_init_137 : decode cX7_init 137 = .ok (.iconst 0, 1) := by decide +kernel
theorem dX7_init_138 : decode cX7_init 138 = .ok (.istore_n 1, 1) := by decide +kernel
theorem dX7_init_139 : decode cX7_init 139 = .ok (.iload_n 1, 1) := by decide +kernel
theorem dX7_init_140 : decode cX7_init 140 = .ok (.iconst 4, 1) := by decide +kernel
theorem dX7_init_141 : decode cX7_init 141 = .ok (.if_icmp .ge 22, 3) := by decide +kernel
theorem dX7_init_144 : decode cX7_init 144 = .ok (.aload_n 0, 1) := by decide +kernel
theorem dX7_init_145 : decode cX7_init 145 = .ok (.getfield 59, 3) := by decide +kernel
theorem dX7_init_148 : decode cX7_init 148 = .ok (.iload_n 1, 1) := by decide +kernel
theorem dX7_init_149 : decode cX7_init 149 = .ok (.new 57, 3) := by decide +kernel
theorem dX7_init_152 : decode cX7_init 152 = .ok (.dup, 1) := by decide +kernel
theorem dX7_init_153 : decode cX7_init 153 = .ok (.invokespecial 71, 3) := by decide +kernel
theorem dX7_init_156 : decode cX7_init 156 = .ok (.aastore, 1) := by decide +kernel
theorem dX7_init_157 : decode cX7_init 157 = .ok (.iinc 1 1, 3) := by decide +kernel
theorem dX7_init_160 : decode cX7_init 160 = .ok (.goto (-21), 3) := by decide +kernel
theorem dX7_init_163 : decode cX7_init 163 = .ok (.return_, 1) := by decide +kernel
theorem dX7_feed_0 : decode cX7_feed 0 = .ok (.iload_n 3, 1) := by decide +kernel
theorem dX7_feed_1 : decode cX7_feed 1 = .ok (.iconst 1, 1) := by decide +kernel
theorem dX7_feed_2 : decode cX7_feed 2 = .ok (.bipush 8, 2) := by decide +kernel
theorem dX7_feed_4 : decode cX7_feed 4 = .ok (.invokestatic 72, 3) := by decide +kernel
theorem dX7_feed_7 : decode cX7_feed 7 = .ok (.ifCond .ne 5, 3) := by decide +kernel
theorem dX7_feed_10 : decode cX7_feed 10 = .ok (.iconst (-1), 1) := by decide +kernel
theorem dX7_feed_11 : decode cX7_feed 11 = .ok (.ireturn, 1) := by decide +kernel
theorem dX7_feed_12 : decode cX7_feed 12 = .ok (.iload_n 3, 1) := by decide +kernel
theorem dX7_feed_13 : decode cX7_feed 13 = .ok (.sipush 240, 3) := by decide +kernel
theorem dX7_feed_16 : decode cX7_feed 16 = .ok (.aload_n 0, 1) := by decide +kernel
theorem dX7_feed_17 : decode cX7_feed 17 = .ok (.getfield 29, 3) := by decide +kernel
theorem dX7_feed_20 : decode cX7_feed 20 = .ok (.getfield 76, 3) := by decide +kernel
theorem dX7_feed_23 : decode cX7_feed 23 = .ok (.isub, 1) := by decide +kernel
theorem dX7_feed_24 : decode cX7_feed 24 = .ok (.if_icmp .le 6, 3) := by decide +kernel
theorem dX7_feed_27 : decode cX7_feed 27 = .ok (.bipush (-2), 2) := by decide +kernel
theorem dX7_feed_29 : decode cX7_feed 29 = .ok (.ireturn, 1) := by decide +kernel
theorem dX7_feed_30 : decode cX7_feed 30 = .ok (.aload_n 0, 1) := by decide +kernel
theorem dX7_feed_31 : decode cX7_feed 31 = .ok (.getfield 29, 3) := by decide +kernel
theorem dX7_feed_34 : decode cX7_feed 34 = .ok (.lload_n 1, 1) := by decide +kernel
theorem dX7_feed_35 : decode cX7_feed 35 = .ok (.iload_n 3, 1) := by decide +kernel
theorem dX7_feed_36 : decode cX7_feed 36 = .ok (.invokevirtual 79, 3) := by decide +kernel
theorem dX7_feed_39 : decode cX7_feed 39 = .ok (.aload_n 0, 1) := by decide +kernel
theorem dX7_feed_40 : decode cX7_feed 40 = .ok (.getfield 29, 3) := by decide +kernel
theorem dX7_feed_43 : decode cX7_feed 43 = .ok (.getfield 76, 3) := by decide +kernel
theorem dX7_feed_46 : decode cX7_feed 46 = .ok (.ireturn, 1) := by decide +kernel
theorem dX7_town_0 : decode cX7_town 0 = .ok (.aload_n 0, 1) := by decide +kernel
theorem dX7_town_1 : decode cX7_town 1 = .ok (.getfield 29, 3) := by decide +kernel
theorem dX7_town_4 : decode cX7_town 4 = .ok (.aload_n 0, 1) := by decide +kernel
theorem dX7_town_5 : decode cX7_town 5 = .ok (.getfield 23, 3) := by decide +kernel
theorem dX7_town_8 : decode cX7_town 8 = .ok (.invokevirtual 83, 3) := by decide +kernel
theorem dX7_town_11 : decode cX7_town 11 = .ok (.istore_n 1, 1) := by decide +kernel
theorem dX7_town_12 : decode cX7_town 12 = .ok (.aload_n 0, 1) := by decide +kernel
theorem dX7_town_13 : decode cX7_town 13 = .ok (.getfield 29, 3) := by decide +kernel
theorem dX7_town_16 : decode cX7_town 16 = .ok (.iconst 0, 1) := by decide +kernel
theorem dX7_town_17 : decode cX7_town 17 = .ok (.putfield 76, 3) := by decide +kernel
theorem dX7_town_20 : decode cX7_town 20 = .ok (.iload_n 1, 1) := by decide +kernel
theorem dX7_town_21 : decode cX7_town 21 = .ok (.ifCond .lt 8, 3) := by decide +kernel
theorem dX7_town_24 : decode cX7_town 24 = .ok (.bipush (-100), 2) := by decide +kernel
theorem dX7_town_26 : decode cX7_town 26 = .ok (.iload_n 1, 1) := by decide +kernel
theorem dX7_town_27 : decode cX7_town 27 = .ok (.isub, 1) := by decide +kernel
theorem dX7_town_28 : decode cX7_town 28 = .ok (.ireturn, 1) := by decide +kernel
theorem dX7_town_29 : decode cX7_town 29 = .ok (.aload_n 0, 1) := by decide +kernel
theorem dX7_town_30 : decode cX7_town 30 = .ok (.getfield 23, 3) := by decide +kernel
theorem dX7_town_33 : decode cX7_town 33 = .ok (.aload_n 0, 1) := by decide +kernel
theorem dX7_town_34 : decode cX7_town 34 = .ok (.getfield 10, 3) := by decide +kernel
theorem dX7_town_37 : decode cX7_town 37 = .ok (.getfield 87, 3) := by decide +kernel
theorem dX7_town_40 : decode cX7_town 40 = .ok (.putfield 87, 3) := by decide +kernel
theorem dX7_town_43 : decode cX7_town 43 = .ok (.aload_n 0, 1) := by decide +kernel
theorem dX7_town_44 : decode cX7_town 44 = .ok (.getfield 10, 3) := by decide +kernel
theorem dX7_town_47 : decode cX7_town 47 = .ok (.aload_n 0, 1) := by decide +kernel
theorem dX7_town_48 : decode cX7_town 48 = .ok (.getfield 23, 3) := by decide +kernel
theorem dX7_town_51 : decode cX7_town 51 = .ok (.invokevirtual 90, 3) := by decide +kernel
theorem dX7_town_54 : decode cX7_town 54 = .ok (.aload_n 0, 1) := by decide +kernel
theorem dX7_town_55 : decode cX7_town 55 = .ok (.iconst 0, 1) := by decide +kernel
theorem dX7_town_56 : decode cX7_town 56 = .ok (.putfield 47, 3) := by decide +kernel
theorem dX7_town_59 : decode cX7_town 59 = .ok (.aload_n 0, 1) := by decide +kernel
theorem dX7_town_60 : decode cX7_town 60 = .ok (.getfield 10, 3) := by decide +kernel
theorem dX7_town_63 : decode cX7_town 63 = .ok (.getfield 93, 3) := by decide +kernel
theorem dX7_town_66 : decode cX7_town 66 = .ok (.ireturn, 1) := by decide +kernel
theorem dX7_warm_0 : decode cX7_warm 0 = .ok (.iload_n 1, 1) := by decide +kernel
theorem dX7_warm_1 : decode cX7_warm 1 = .ok (.invokestatic 96, 3) := by decide +kernel
theorem dX7_warm_4 : decode cX7_warm 4 = .ok (.ifCond .eq 14, 3) := by decide +kernel
theorem dX7_warm_7 : decode cX7_warm 7 = .ok (.iload_n 2, 1) := by decide +kernel
theorem dX7_warm_8 : decode cX7_warm 8 = .ok (.bipush (-20), 2) := by decide +kernel
theorem dX7_warm_10 : decode cX7_warm 10 = .ok (.bipush 40, 2) := by decide +kernel
theorem dX7_warm_12 : decode cX7_warm 12 = .ok (.invokestatic 72, 3) := by decide +kernel
theorem dX7_warm_15 : decode cX7_warm 15 = .ok (.ifCond .ne 5, 3) := by decide +kernel
theorem dX7_warm_18 : decode cX7_warm 18 = .ok (.iconst (-1), 1) := by decide +kernel
theorem dX7_warm_19 : decode cX7_warm 19 = .ok (.ireturn, 1) := by decide +kernel
theorem dX7_warm_20 : decode cX7_warm 20 = .ok (.aload_n 0, 1) := by decide +kernel
theorem dX7_warm_21 : decode cX7_warm 21 = .ok (.getfield 10, 3) := by decide +kernel
theorem dX7_warm_24 : decode cX7_warm 24 = .ok (.getfield 100, 3) := by decide +kernel
theorem dX7_warm_27 : decode cX7_warm 27 = .ok (.iload_n 1, 1) := by decide +kernel
theorem dX7_warm_28 : decode cX7_warm 28 = .ok (.iaload, 1) := by decide +kernel
theorem dX7_warm_29 : decode cX7_warm 29 = .ok (.istore_n 3, 1) := by decide +kernel
theorem dX7_warm_30 : decode cX7_warm 30 = .ok (.aload_n 0, 1) := by decide +kernel
theorem dX7_warm_31 : decode cX7_warm 31 = .ok (.getfield 10, 3) := by decide +kernel
theorem dX7_warm_34 : decode cX7_warm 34 = .ok (.getfield 100, 3) := by decide +kernel
theorem dX7_warm_37 : decode cX7_warm 37 = .ok (.iload_n 1, 1) := by decide +kernel
theorem dX7_warm_38 : decode cX7_warm 38 = .ok (.iload_n 2, 1) := by decide +kernel
theorem dX7_warm_39 : decode cX7_warm 39 = .ok (.iastore, 1) := by decide +kernel
theorem dX7_warm_40 : decode cX7_warm 40 = .ok (.iload_n 3, 1) := by decide +kernel
theorem dX7_warm_41 : decode cX7_warm 41 = .ok (.bipush 100, 2) := by decide +kernel
theorem dX7_warm_43 : decode cX7_warm 43 = .ok (.iadd, 1) := by decide +kernel
theorem dX7_warm_44 : decode cX7_warm 44 = .ok (.ireturn, 1) := by decide +kernel
theorem dX7_warmth_0 : decode cX7_warmth 0 = .ok (.iload_n 1, 1) := by decide +kernel
theorem dX7_warmth_1 : decode cX7_warmth 1 = .ok (.invokestatic 96, 3) := by decide +kernel
theorem dX7_warmth_4 : decode cX7_warmth 4 = .ok (.ifCond .eq 18, 3) := by decide +kernel
theorem dX7_warmth_7 : decode cX7_warmth 7 = .ok (.aload_n 0, 1) := by decide +kernel
theorem dX7_warmth_8 : decode cX7_warmth 8 = .ok (.getfield 10, 3) := by decide +kernel
theorem dX7_warmth_11 : decode cX7_warmth 11 = .ok (.getfield 100, 3) := by decide +kernel
theorem dX7_warmth_14 : decode cX7_warmth 14 = .ok (.iload_n 1, 1) := by decide +kernel
theorem dX7_warmth_15 : decode cX7_warmth 15 = .ok (.iaload, 1) := by decide +kernel
theorem dX7_warmth_16 : decode cX7_warmth 16 = .ok (.bipush 100, 2) := by decide +kernel
theorem dX7_warmth_18 : decode cX7_warmth 18 = .ok (.iadd, 1) := by decide +kernel
theorem dX7_warmth_19 : decode cX7_warmth 19 = .ok (.goto 4, 3) := by decide +kernel
theorem dX7_warmth_22 : decode cX7_warmth 22 = .ok (.iconst (-1), 1) := by decide +kernel
theorem dX7_warmth_23 : decode cX7_warmth 23 = .ok (.ireturn, 1) := by decide +kernel
theorem dX7_gap_0 : decode cX7_gap 0 = .ok (.iload_n 1, 1) := by decide +kernel
theorem dX7_gap_1 : decode cX7_gap 1 = .ok (.iconst 1, 1) := by decide +kernel
theorem dX7_gap_2 : decode cX7_gap 2 = .ok (.bipush 20, 2) := by decide +kernel
theorem dX7_gap_4 : decode cX7_gap 4 = .ok (.invokestatic 72, 3) := by decide +kernel
theorem dX7_gap_7 : decode cX7_gap 7 = .ok (.ifCond .ne 5, 3) := by decide +kernel
theorem dX7_gap_10 : decode cX7_gap 10 = .ok (.iconst (-1), 1) := by decide +kernel
theorem dX7_gap_11 : decode cX7_gap 11 = .ok (.ireturn, 1) := by decide +kernel
theorem dX7_gap_12 : decode cX7_gap 12 = .ok (.aload_n 0, 1) := by decide +kernel
theorem dX7_gap_13 : decode cX7_gap 13 = .ok (.getfield 10, 3) := by decide +kernel
theorem dX7_gap_16 : decode cX7_gap 16 = .ok (.getfield 104, 3) := by decide +kernel
theorem dX7_gap_19 : decode cX7_gap 19 = .ok (.istore_n 2, 1) := by decide +kernel
theorem dX7_gap_20 : decode cX7_gap 20 = .ok (.aload_n 0, 1) := by decide +kernel
theorem dX7_gap_21 : decode cX7_gap 21 = .ok (.getfield 10, 3) := by decide +kernel
theorem dX7_gap_24 : decode cX7_gap 24 = .ok (.iload_n 1, 1) := by decide +kernel
theorem dX7_gap_25 : decode cX7_gap 25 = .ok (.putfield 104, 3) := by decide +kernel
theorem dX7_gap_28 : decode cX7_gap 28 = .ok (.iload_n 2, 1) := by decide +kernel
theorem dX7_gap_29 : decode cX7_gap 29 = .ok (.ireturn, 1) := by decide +kernel
theorem dX7_balloon_0 : decode cX7_balloon 0 = .ok (.iconst 0, 1) := by decide +kernel
theorem dX7_balloon_1 : decode cX7_balloon 1 = .ok (.iload_n 1, 1) := by decide +kernel
theorem dX7_balloon_2 : decode cX7_balloon 2 = .ok (.invokestatic 107, 3) := by decide +kernel
theorem dX7_balloon_5 : decode cX7_balloon 5 = .ok (.ifCond .eq 19, 3) := by decide +kernel
theorem dX7_balloon_8 : decode cX7_balloon 8 = .ok (.iconst 1, 1) := by decide +kernel
theorem dX7_balloon_9 : decode cX7_balloon 9 = .ok (.iload_n 2, 1) := by decide +kernel
theorem dX7_balloon_10 : decode cX7_balloon 10 = .ok (.invokestatic 107, 3) := by decide +kernel
theorem dX7_balloon_13 : decode cX7_balloon 13 = .ok (.ifCond .eq 11, 3) := by decide +kernel
theorem dX7_balloon_16 : decode cX7_balloon 16 = .ok (.iconst 2, 1) := by decide +kernel
theorem dX7_balloon_17 : decode cX7_balloon 17 = .ok (.iload_n 3, 1) := by decide +kernel
theorem dX7_balloon_18 : decode cX7_balloon 18 = .ok (.invokestatic 107, 3) := by decide +kernel
theorem dX7_balloon_21 : decode cX7_balloon 21 = .ok (.ifCond .ne 5, 3) := by decide +kernel
theorem dX7_balloon_24 : decode cX7_balloon 24 = .ok (.iconst (-1), 1) := by decide +kernel
theorem dX7_balloon_25 : decode cX7_balloon 25 = .ok (.ireturn, 1) := by decide +kernel
theorem dX7_balloon_26 : decode cX7_balloon 26 = .ok (.aload_n 0, 1) := by decide +kernel
theorem dX7_balloon_27 : decode cX7_balloon 27 = .ok (.getfield 10, 3) := by decide +kernel
theorem dX7_balloon_30 : decode cX7_balloon 30 = .ok (.getfield 93, 3) := by decide +kernel
theorem dX7_balloon_33 : decode cX7_balloon 33 = .ok (.bipush 6, 2) := by decide +kernel
theorem dX7_balloon_35 : decode cX7_balloon 35 = .ok (.if_icmp .lt 6, 3) := by decide +kernel
theorem dX7_balloon_38 : decode cX7_balloon 38 = .ok (.bipush (-2), 2) := by decide +kernel
end
section
theorem dX7_balloon_40 : decode cX7_balloon 40 = .ok (.ireturn, 1) := by decide +kernel
theorem dX7_balloon_41 : decode cX7_balloon 41 = .ok (.aload_n 0, 1) := by decide +kernel
theorem dX7_balloon_42 : decode cX7_balloon 42 = .ok (.getfield 10, 3) := by decide +kernel
theorem dX7_balloon_45 : decode cX7_balloon 45 = .ok (.iload_n 1, 1) := by decide +kernel
theorem dX7_balloon_46 : decode cX7_balloon 46 = .ok (.iload_n 2, 1) := by decide +kernel
theorem dX7_balloon_47 : decode cX7_balloon 47 = .ok (.iload_n 3, 1) := by decide +kernel
theorem dX7_balloon_48 : decode cX7_balloon 48 = .ok (.invokevirtual 111, 3) := by decide +kernel
theorem dX7_balloon_51 : decode cX7_balloon 51 = .ok (.aload_n 0, 1) := by decide +kernel
theorem dX7_balloon_52 : decode cX7_balloon 52 = .ok (.getfield 10, 3) := by decide +kernel
theorem dX7_balloon_55 : decode cX7_balloon 55 = .ok (.getfield 93, 3) := by decide +kernel
theorem dX7_balloon_58 : decode cX7_balloon 58 = .ok (.iconst 1, 1) := by decide +kernel
theorem dX7_balloon_59 : decode cX7_balloon 59 = .ok (.isub, 1) := by decide +kernel
theorem dX7_balloon_60 : decode cX7_balloon 60 = .ok (.ireturn, 1) := by decide +kernel
theorem dX7_balloonOf_0 : decode cX7_balloonOf 0 = .ok (.aload_n 0, 1) := by decide +kernel
theorem dX7_balloonOf_1 : decode cX7_balloonOf 1 = .ok (.getfield 10, 3) := by decide +kernel
theorem dX7_balloonOf_4 : decode cX7_balloonOf 4 = .ok (.iload_n 1, 1) := by decide +kernel
theorem dX7_balloonOf_5 : decode cX7_balloonOf 5 = .ok (.invokevirtual 115, 3) := by decide +kernel
theorem dX7_balloonOf_8 : decode cX7_balloonOf 8 = .ok (.ifCond .eq 13, 3) := by decide +kernel
theorem dX7_balloonOf_11 : decode cX7_balloonOf 11 = .ok (.iload_n 2, 1) := by decide +kernel
theorem dX7_balloonOf_12 : decode cX7_balloonOf 12 = .ok (.iconst 0, 1) := by decide +kernel
theorem dX7_balloonOf_13 : decode cX7_balloonOf 13 = .ok (.bipush 11, 2) := by decide +kernel
theorem dX7_balloonOf_15 : decode cX7_balloonOf 15 = .ok (.invokestatic 72, 3) := by decide +kernel
theorem dX7_balloonOf_18 : decode cX7_balloonOf 18 = .ok (.ifCond .ne 5, 3) := by decide +kernel
theorem dX7_balloonOf_21 : decode cX7_balloonOf 21 = .ok (.iconst (-1), 1) := by decide +kernel
theorem dX7_balloonOf_22 : decode cX7_balloonOf 22 = .ok (.ireturn, 1) := by decide +kernel
theorem dX7_balloonOf_23 : decode cX7_balloonOf 23 = .ok (.aload_n 0, 1) := by decide +kernel
theorem dX7_balloonOf_24 : decode cX7_balloonOf 24 = .ok (.getfield 10, 3) := by decide +kernel
theorem dX7_balloonOf_27 : decode cX7_balloonOf 27 = .ok (.getfield 118, 3) := by decide +kernel
theorem dX7_balloonOf_30 : decode cX7_balloonOf 30 = .ok (.iload_n 1, 1) := by decide +kernel
theorem dX7_balloonOf_31 : decode cX7_balloonOf 31 = .ok (.aaload, 1) := by decide +kernel
theorem dX7_balloonOf_32 : decode cX7_balloonOf 32 = .ok (.astore_n 3, 1) := by decide +kernel
theorem dX7_balloonOf_33 : decode cX7_balloonOf 33 = .ok (.iload_n 2, 1) := by decide +kernel
theorem dX7_balloonOf_34 : decode cX7_balloonOf 34 = .ok (.tableswitch 63 9 11 #[26, 31, 51], 26) := by decide +kernel
theorem dX7_balloonOf_60 : decode cX7_balloonOf 60 = .ok (.aload_n 3, 1) := by decide +kernel
theorem dX7_balloonOf_61 : decode cX7_balloonOf 61 = .ok (.invokevirtual 122, 3) := by decide +kernel
theorem dX7_balloonOf_64 : decode cX7_balloonOf 64 = .ok (.ireturn, 1) := by decide +kernel
theorem dX7_balloonOf_65 : decode cX7_balloonOf 65 = .ok (.aload_n 3, 1) := by decide +kernel
theorem dX7_balloonOf_66 : decode cX7_balloonOf 66 = .ok (.aload_n 0, 1) := by decide +kernel
theorem dX7_balloonOf_67 : decode cX7_balloonOf 67 = .ok (.getfield 10, 3) := by decide +kernel
theorem dX7_balloonOf_70 : decode cX7_balloonOf 70 = .ok (.getfield 100, 3) := by decide +kernel
theorem dX7_balloonOf_73 : decode cX7_balloonOf 73 = .ok (.aload_n 0, 1) := by decide +kernel
theorem dX7_balloonOf_74 : decode cX7_balloonOf 74 = .ok (.getfield 10, 3) := by decide +kernel
theorem dX7_balloonOf_77 : decode cX7_balloonOf 77 = .ok (.invokevirtual 128, 3) := by decide +kernel
theorem dX7_balloonOf_80 : decode cX7_balloonOf 80 = .ok (.iaload, 1) := by decide +kernel
theorem dX7_balloonOf_81 : decode cX7_balloonOf 81 = .ok (.invokevirtual 131, 3) := by decide +kernel
theorem dX7_balloonOf_84 : decode cX7_balloonOf 84 = .ok (.ireturn, 1) := by decide +kernel
theorem dX7_balloonOf_85 : decode cX7_balloonOf 85 = .ok (.aload_n 3, 1) := by decide +kernel
theorem dX7_balloonOf_86 : decode cX7_balloonOf 86 = .ok (.aload_n 0, 1) := by decide +kernel
theorem dX7_balloonOf_87 : decode cX7_balloonOf 87 = .ok (.getfield 10, 3) := by decide +kernel
theorem dX7_balloonOf_90 : decode cX7_balloonOf 90 = .ok (.invokevirtual 128, 3) := by decide +kernel
theorem dX7_balloonOf_93 : decode cX7_balloonOf 93 = .ok (.invokevirtual 135, 3) := by decide +kernel
theorem dX7_balloonOf_96 : decode cX7_balloonOf 96 = .ok (.ireturn, 1) := by decide +kernel
theorem dX7_balloonOf_97 : decode cX7_balloonOf 97 = .ok (.aload_n 3, 1) := by decide +kernel
theorem dX7_balloonOf_98 : decode cX7_balloonOf 98 = .ok (.getfield 138, 3) := by decide +kernel
theorem dX7_balloonOf_101 : decode cX7_balloonOf 101 = .ok (.iload_n 2, 1) := by decide +kernel
theorem dX7_balloonOf_102 : decode cX7_balloonOf 102 = .ok (.iaload, 1) := by decide +kernel
theorem dX7_balloonOf_103 : decode cX7_balloonOf 103 = .ok (.ireturn, 1) := by decide +kernel
theorem dX7_becomes_0 : decode cX7_becomes 0 = .ok (.aload_n 0, 1) := by decide +kernel
theorem dX7_becomes_1 : decode cX7_becomes 1 = .ok (.getfield 10, 3) := by decide +kernel
theorem dX7_becomes_4 : decode cX7_becomes 4 = .ok (.iload_n 1, 1) := by decide +kernel
theorem dX7_becomes_5 : decode cX7_becomes 5 = .ok (.invokevirtual 115, 3) := by decide +kernel
theorem dX7_becomes_8 : decode cX7_becomes 8 = .ok (.ifCond .eq 21, 3) := by decide +kernel
theorem dX7_becomes_11 : decode cX7_becomes 11 = .ok (.iload_n 2, 1) := by decide +kernel
theorem dX7_becomes_12 : decode cX7_becomes 12 = .ok (.iconst 2, 1) := by decide +kernel
theorem dX7_becomes_13 : decode cX7_becomes 13 = .ok (.bipush 8, 2) := by decide +kernel
theorem dX7_becomes_15 : decode cX7_becomes 15 = .ok (.invokestatic 72, 3) := by decide +kernel
theorem dX7_becomes_18 : decode cX7_becomes 18 = .ok (.ifCond .eq 11, 3) := by decide +kernel
theorem dX7_becomes_21 : decode cX7_becomes 21 = .ok (.iload_n 2, 1) := by decide +kernel
theorem dX7_becomes_22 : decode cX7_becomes 22 = .ok (.iload_n 3, 1) := by decide +kernel
theorem dX7_becomes_23 : decode cX7_becomes 23 = .ok (.invokestatic 107, 3) := by decide +kernel
theorem dX7_becomes_26 : decode cX7_becomes 26 = .ok (.ifCond .ne 5, 3) := by decide +kernel
theorem dX7_becomes_29 : decode cX7_becomes 29 = .ok (.iconst (-1), 1) := by decide +kernel
theorem dX7_becomes_30 : decode cX7_becomes 30 = .ok (.ireturn, 1) := by decide +kernel
theorem dX7_becomes_31 : decode cX7_becomes 31 = .ok (.aload_n 0, 1) := by decide +kernel
theorem dX7_becomes_32 : decode cX7_becomes 32 = .ok (.getfield 10, 3) := by decide +kernel
theorem dX7_becomes_35 : decode cX7_becomes 35 = .ok (.getfield 118, 3) := by decide +kernel
theorem dX7_becomes_38 : decode cX7_becomes 38 = .ok (.iload_n 1, 1) := by decide +kernel
theorem dX7_becomes_39 : decode cX7_becomes 39 = .ok (.aaload, 1) := by decide +kernel
theorem dX7_becomes_40 : decode cX7_becomes 40 = .ok (.astore 4, 2) := by decide +kernel
theorem dX7_becomes_42 : decode cX7_becomes 42 = .ok (.aload 4, 2) := by decide +kernel
theorem dX7_becomes_44 : decode cX7_becomes 44 = .ok (.getfield 138, 3) := by decide +kernel
theorem dX7_becomes_47 : decode cX7_becomes 47 = .ok (.iload_n 2, 1) := by decide +kernel
theorem dX7_becomes_48 : decode cX7_becomes 48 = .ok (.iaload, 1) := by decide +kernel
theorem dX7_becomes_49 : decode cX7_becomes 49 = .ok (.istore 5, 2) := by decide +kernel
theorem dX7_becomes_51 : decode cX7_becomes 51 = .ok (.aload 4, 2) := by decide +kernel
theorem dX7_becomes_53 : decode cX7_becomes 53 = .ok (.getfield 138, 3) := by decide +kernel
theorem dX7_becomes_56 : decode cX7_becomes 56 = .ok (.iload_n 2, 1) := by decide +kernel
theorem dX7_becomes_57 : decode cX7_becomes 57 = .ok (.iload_n 3, 1) := by decide +kernel
theorem dX7_becomes_58 : decode cX7_becomes 58 = .ok (.iastore, 1) := by decide +kernel
theorem dX7_becomes_59 : decode cX7_becomes 59 = .ok (.iload 5, 2) := by decide +kernel
theorem dX7_becomes_61 : decode cX7_becomes 61 = .ok (.ireturn, 1) := by decide +kernel
theorem dX7_mind_0 : decode cX7_mind 0 = .ok (.aload_n 0, 1) := by decide +kernel
theorem dX7_mind_1 : decode cX7_mind 1 = .ok (.getfield 10, 3) := by decide +kernel
theorem dX7_mind_4 : decode cX7_mind 4 = .ok (.iload_n 1, 1) := by decide +kernel
theorem dX7_mind_5 : decode cX7_mind 5 = .ok (.invokevirtual 115, 3) := by decide +kernel
theorem dX7_mind_8 : decode cX7_mind 8 = .ok (.ifCond .eq 19, 3) := by decide +kernel
theorem dX7_mind_11 : decode cX7_mind 11 = .ok (.iconst 0, 1) := by decide +kernel
theorem dX7_mind_12 : decode cX7_mind 12 = .ok (.iload_n 2, 1) := by decide +kernel
theorem dX7_mind_13 : decode cX7_mind 13 = .ok (.invokestatic 107, 3) := by decide +kernel
theorem dX7_mind_16 : decode cX7_mind 16 = .ok (.ifCond .eq 11, 3) := by decide +kernel
theorem dX7_mind_19 : decode cX7_mind 19 = .ok (.iconst 1, 1) := by decide +kernel
theorem dX7_mind_20 : decode cX7_mind 20 = .ok (.iload_n 3, 1) := by decide +kernel
theorem dX7_mind_21 : decode cX7_mind 21 = .ok (.invokestatic 107, 3) := by decide +kernel
theorem dX7_mind_24 : decode cX7_mind 24 = .ok (.ifCond .ne 5, 3) := by decide +kernel
theorem dX7_mind_27 : decode cX7_mind 27 = .ok (.iconst (-1), 1) := by decide +kernel
theorem dX7_mind_28 : decode cX7_mind 28 = .ok (.ireturn, 1) := by decide +kernel
theorem dX7_mind_29 : decode cX7_mind 29 = .ok (.aload_n 0, 1) := by decide +kernel
theorem dX7_mind_30 : decode cX7_mind 30 = .ok (.getfield 10, 3) := by decide +kernel
theorem dX7_mind_33 : decode cX7_mind 33 = .ok (.getfield 118, 3) := by decide +kernel
theorem dX7_mind_36 : decode cX7_mind 36 = .ok (.iload_n 1, 1) := by decide +kernel
theorem dX7_mind_37 : decode cX7_mind 37 = .ok (.aaload, 1) := by decide +kernel
theorem dX7_mind_38 : decode cX7_mind 38 = .ok (.astore 4, 2) := by decide +kernel
theorem dX7_mind_40 : decode cX7_mind 40 = .ok (.aload 4, 2) := by decide +kernel
theorem dX7_mind_42 : decode cX7_mind 42 = .ok (.getfield 138, 3) := by decide +kernel
theorem dX7_mind_45 : decode cX7_mind 45 = .ok (.iconst 0, 1) := by decide +kernel
theorem dX7_mind_46 : decode cX7_mind 46 = .ok (.iaload, 1) := by decide +kernel
theorem dX7_mind_47 : decode cX7_mind 47 = .ok (.istore 5, 2) := by decide +kernel
theorem dX7_mind_49 : decode cX7_mind 49 = .ok (.aload 4, 2) := by decide +kernel
theorem dX7_mind_51 : decode cX7_mind 51 = .ok (.getfield 138, 3) := by decide +kernel
theorem dX7_mind_54 : decode cX7_mind 54 = .ok (.iconst 0, 1) := by decide +kernel
theorem dX7_mind_55 : decode cX7_mind 55 = .ok (.iload_n 2, 1) := by decide +kernel
theorem dX7_mind_56 : decode cX7_mind 56 = .ok (.iastore, 1) := by decide +kernel
theorem dX7_mind_57 : decode cX7_mind 57 = .ok (.aload 4, 2) := by decide +kernel
theorem dX7_mind_59 : decode cX7_mind 59 = .ok (.getfield 138, 3) := by decide +kernel
theorem dX7_mind_62 : decode cX7_mind 62 = .ok (.iconst 1, 1) := by decide +kernel
theorem dX7_mind_63 : decode cX7_mind 63 = .ok (.iload_n 3, 1) := by decide +kernel
theorem dX7_mind_64 : decode cX7_mind 64 = .ok (.iastore, 1) := by decide +kernel
theorem dX7_mind_65 : decode cX7_mind 65 = .ok (.iload 5, 2) := by decide +kernel
theorem dX7_mind_67 : decode cX7_mind 67 = .ok (.ireturn, 1) := by decide +kernel
theorem dX7_pour_0 : decode cX7_pour 0 = .ok (.aload_n 0, 1) := by decide +kernel
theorem dX7_pour_1 : decode cX7_pour 1 = .ok (.getfield 10, 3) := by decide +kernel
theorem dX7_pour_4 : decode cX7_pour 4 = .ok (.iload_n 1, 1) := by decide +kernel
theorem dX7_pour_5 : decode cX7_pour 5 = .ok (.invokevirtual 115, 3) := by decide +kernel
theorem dX7_pour_8 : decode cX7_pour 8 = .ok (.ifCond .eq 17, 3) := by decide +kernel
theorem dX7_pour_11 : decode cX7_pour 11 = .ok (.iload_n 2, 1) := by decide +kernel
theorem dX7_pour_12 : decode cX7_pour 12 = .ok (.iconst 1, 1) := by decide +kernel
theorem dX7_pour_13 : decode cX7_pour 13 = .ok (.getstatic 141, 3) := by decide +kernel
theorem dX7_pour_16 : decode cX7_pour 16 = .ok (.bipush 6, 2) := by decide +kernel
theorem dX7_pour_18 : decode cX7_pour 18 = .ok (.iaload, 1) := by decide +kernel
theorem dX7_pour_19 : decode cX7_pour 19 = .ok (.invokestatic 72, 3) := by decide +kernel
theorem dX7_pour_22 : decode cX7_pour 22 = .ok (.ifCond .ne 5, 3) := by decide +kernel
theorem dX7_pour_25 : decode cX7_pour 25 = .ok (.iconst (-1), 1) := by decide +kernel
theorem dX7_pour_26 : decode cX7_pour 26 = .ok (.ireturn, 1) := by decide +kernel
theorem dX7_pour_27 : decode cX7_pour 27 = .ok (.aload_n 0, 1) := by decide +kernel
theorem dX7_pour_28 : decode cX7_pour 28 = .ok (.getfield 10, 3) := by decide +kernel
theorem dX7_pour_31 : decode cX7_pour 31 = .ok (.getfield 118, 3) := by decide +kernel
theorem dX7_pour_34 : decode cX7_pour 34 = .ok (.iload_n 1, 1) := by decide +kernel
theorem dX7_pour_35 : decode cX7_pour 35 = .ok (.aaload, 1) := by decide +kernel
theorem dX7_pour_36 : decode cX7_pour 36 = .ok (.astore_n 3, 1) := by decide +kernel
theorem dX7_pour_37 : decode cX7_pour 37 = .ok (.aload_n 3, 1) := by decide +kernel
theorem dX7_pour_38 : decode cX7_pour 38 = .ok (.getfield 138, 3) := by decide +kernel
theorem dX7_pour_41 : decode cX7_pour 41 = .ok (.bipush 6, 2) := by decide +kernel
theorem dX7_pour_43 : decode cX7_pour 43 = .ok (.iaload, 1) := by decide +kernel
theorem dX7_pour_44 : decode cX7_pour 44 = .ok (.iload_n 2, 1) := by decide +kernel
theorem dX7_pour_45 : decode cX7_pour 45 = .ok (.if_icmp .ge 6, 3) := by decide +kernel
theorem dX7_pour_48 : decode cX7_pour 48 = .ok (.bipush (-4), 2) := by decide +kernel
theorem dX7_pour_50 : decode cX7_pour 50 = .ok (.ireturn, 1) := by decide +kernel
theorem dX7_pour_51 : decode cX7_pour 51 = .ok (.aload_n 3, 1) := by decide +kernel
theorem dX7_pour_52 : decode cX7_pour 52 = .ok (.getfield 138, 3) := by decide +kernel
theorem dX7_pour_55 : decode cX7_pour 55 = .ok (.bipush 6, 2) := by decide +kernel
theorem dX7_pour_57 : decode cX7_pour 57 = .ok (.dup2, 1) := by decide +kernel
theorem dX7_pour_58 : decode cX7_pour 58 = .ok (.iaload, 1) := by decide +kernel
theorem dX7_pour_59 : decode cX7_pour 59 = .ok (.iload_n 2, 1) := by decide +kernel
theorem dX7_pour_60 : decode cX7_pour 60 = .ok (.isub, 1) := by decide +kernel
theorem dX7_pour_61 : decode cX7_pour 61 = .ok (.iastore, 1) := by decide +kernel
theorem dX7_pour_62 : decode cX7_pour 62 = .ok (.aload_n 3, 1) := by decide +kernel
theorem dX7_pour_63 : decode cX7_pour 63 = .ok (.getfield 138, 3) := by decide +kernel
theorem dX7_pour_66 : decode cX7_pour 66 = .ok (.bipush 6, 2) := by decide +kernel
theorem dX7_pour_68 : decode cX7_pour 68 = .ok (.iaload, 1) := by decide +kernel
theorem dX7_pour_69 : decode cX7_pour 69 = .ok (.ireturn, 1) := by decide +kernel
theorem dX7_give_0 : decode cX7_give 0 = .ok (.aload_n 0, 1) := by decide +kernel
theorem dX7_give_1 : decode cX7_give 1 = .ok (.getfield 10, 3) := by decide +kernel
theorem dX7_give_4 : decode cX7_give 4 = .ok (.iload_n 1, 1) := by decide +kernel
theorem dX7_give_5 : decode cX7_give 5 = .ok (.invokevirtual 115, 3) := by decide +kernel
theorem dX7_give_8 : decode cX7_give 8 = .ok (.ifCond .eq 19, 3) := by decide +kernel
theorem dX7_give_11 : decode cX7_give 11 = .ok (.aload_n 0, 1) := by decide +kernel
theorem dX7_give_12 : decode cX7_give 12 = .ok (.getfield 10, 3) := by decide +kernel
theorem dX7_give_15 : decode cX7_give 15 = .ok (.iload_n 2, 1) := by decide +kernel
theorem dX7_give_16 : decode cX7_give 16 = .ok (.invokevirtual 115, 3) := by decide +kernel
theorem dX7_give_19 : decode cX7_give 19 = .ok (.ifCond .eq 8, 3) := by decide +kernel
theorem dX7_give_22 : decode cX7_give 22 = .ok (.iload_n 1, 1) := by decide +kernel
theorem dX7_give_23 : decode cX7_give 23 = .ok (.iload_n 2, 1) := by decide +kernel
theorem dX7_give_24 : decode cX7_give 24 = .ok (.if_icmp .ne 5, 3) := by decide +kernel
theorem dX7_give_27 : decode cX7_give 27 = .ok (.iconst (-1), 1) := by decide +kernel
theorem dX7_give_28 : decode cX7_give 28 = .ok (.ireturn, 1) := by decide +kernel
theorem dX7_give_29 : decode cX7_give 29 = .ok (.iload_n 3, 1) := by decide +kernel
theorem dX7_give_30 : decode cX7_give 30 = .ok (.iconst 0, 1) := by decide +kernel
theorem dX7_give_31 : decode cX7_give 31 = .ok (.iconst 1, 1) := by decide +kernel
theorem dX7_give_32 : decode cX7_give 32 = .ok (.invokestatic 72, 3) := by decide +kernel
theorem dX7_give_35 : decode cX7_give 35 = .ok (.ifCond .eq 14, 3) := by decide +kernel
theorem dX7_give_38 : decode cX7_give 38 = .ok (.iload 4, 2) := by decide +kernel
theorem dX7_give_40 : decode cX7_give 40 = .ok (.iconst 1, 1) := by decide +kernel
theorem dX7_give_41 : decode cX7_give 41 = .ok (.bipush 99, 2) := by decide +kernel
theorem dX7_give_43 : decode cX7_give 43 = .ok (.invokestatic 72, 3) := by decide +kernel
theorem dX7_give_46 : decode cX7_give 46 = .ok (.ifCond .ne 5, 3) := by decide +kernel
theorem dX7_give_49 : decode cX7_give 49 = .ok (.iconst (-1), 1) := by decide +kernel
theorem dX7_give_50 : decode cX7_give 50 = .ok (.ireturn, 1) := by decide +kernel
theorem dX7_give_51 : decode cX7_give 51 = .ok (.iload_n 3, 1) := by decide +kernel
theorem dX7_give_52 : decode cX7_give 52 = .ok (.ifCond .ne 8, 3) := by decide +kernel
theorem dX7_give_55 : decode cX7_give 55 = .ok (.bipush 6, 2) := by decide +kernel
theorem dX7_give_57 : decode cX7_give 57 = .ok (.goto 5, 3) := by decide +kernel
theorem dX7_give_60 : decode cX7_give 60 = .ok (.bipush 7, 2) := by decide +kernel
theorem dX7_give_62 : decode cX7_give 62 = .ok (.istore 5, 2) := by decide +kernel
theorem dX7_give_64 : decode cX7_give 64 = .ok (.aload_n 0, 1) := by decide +kernel
theorem dX7_give_65 : decode cX7_give 65 = .ok (.getfield 10, 3) := by decide +kernel
theorem dX7_give_68 : decode cX7_give 68 = .ok (.iload_n 1, 1) := by decide +kernel
theorem dX7_give_69 : decode cX7_give 69 = .ok (.iload_n 2, 1) := by decide +kernel
theorem dX7_give_70 : decode cX7_give 70 = .ok (.iload 5, 2) := by decide +kernel
theorem dX7_give_72 : decode cX7_give 72 = .ok (.iload 4, 2) := by decide +kernel
theorem dX7_give_74 : decode cX7_give 74 = .ok (.invokevirtual 144, 3) := by decide +kernel
theorem dX7_give_77 : decode cX7_give 77 = .ok (.ifCond .ne 6, 3) := by decide +kernel
theorem dX7_give_80 : decode cX7_give 80 = .ok (.bipush (-4), 2) := by decide +kernel
theorem dX7_give_82 : decode cX7_give 82 = .ok (.ireturn, 1) := by decide +kernel
theorem dX7_give_83 : decode cX7_give 83 = .ok (.aload_n 0, 1) := by decide +kernel
theorem dX7_give_84 : decode cX7_give 84 = .ok (.getfield 10, 3) := by decide +kernel
theorem dX7_give_87 : decode cX7_give 87 = .ok (.getfield 118, 3) := by decide +kernel
theorem dX7_give_90 : decode cX7_give 90 = .ok (.iload_n 1, 1) := by decide +kernel
theorem dX7_give_91 : decode cX7_give 91 = .ok (.aaload, 1) := by decide +kernel
theorem dX7_give_92 : decode cX7_give 92 = .ok (.getfield 138, 3) := by decide +kernel
theorem dX7_give_95 : decode cX7_give 95 = .ok (.iload 5, 2) := by decide +kernel
theorem dX7_give_97 : decode cX7_give 97 = .ok (.dup2, 1) := by decide +kernel
theorem dX7_give_98 : decode cX7_give 98 = .ok (.iaload, 1) := by decide +kernel
theorem dX7_give_99 : decode cX7_give 99 = .ok (.iload 4, 2) := by decide +kernel
theorem dX7_give_101 : decode cX7_give 101 = .ok (.isub, 1) := by decide +kernel
theorem dX7_give_102 : decode cX7_give 102 = .ok (.iastore, 1) := by decide +kernel
theorem dX7_give_103 : decode cX7_give 103 = .ok (.aload_n 0, 1) := by decide +kernel
theorem dX7_give_104 : decode cX7_give 104 = .ok (.getfield 10, 3) := by decide +kernel
theorem dX7_give_107 : decode cX7_give 107 = .ok (.getfield 118, 3) := by decide +kernel
theorem dX7_give_110 : decode cX7_give 110 = .ok (.iload_n 2, 1) := by decide +kernel
theorem dX7_give_111 : decode cX7_give 111 = .ok (.aaload, 1) := by decide +kernel
theorem dX7_give_112 : decode cX7_give 112 = .ok (.getfield 138, 3) := by decide +kernel
theorem dX7_give_115 : decode cX7_give 115 = .ok (.iload 5, 2) := by decide +kernel
theorem dX7_give_117 : decode cX7_give 117 = .ok (.dup2, 1) := by decide +kernel
theorem dX7_give_118 : decode cX7_give 118 = .ok (.iaload, 1) := by decide +kernel
theorem dX7_give_119 : decode cX7_give 119 = .ok (.iload 4, 2) := by decide +kernel
theorem dX7_give_121 : decode cX7_give 121 = .ok (.iadd, 1) := by decide +kernel
theorem dX7_give_122 : decode cX7_give 122 = .ok (.iastore, 1) := by decide +kernel
theorem dX7_give_123 : decode cX7_give 123 = .ok (.aload_n 0, 1) := by decide +kernel
theorem dX7_give_124 : decode cX7_give 124 = .ok (.getfield 10, 3) := by decide +kernel
theorem dX7_give_127 : decode cX7_give 127 = .ok (.getfield 118, 3) := by decide +kernel
theorem dX7_give_130 : decode cX7_give 130 = .ok (.iload_n 2, 1) := by decide +kernel
theorem dX7_give_131 : decode cX7_give 131 = .ok (.aaload, 1) := by decide +kernel
theorem dX7_give_132 : decode cX7_give 132 = .ok (.getfield 138, 3) := by decide +kernel
theorem dX7_give_135 : decode cX7_give 135 = .ok (.iload 5, 2) := by decide +kernel
theorem dX7_give_137 : decode cX7_give 137 = .ok (.iaload, 1) := by decide +kernel
theorem dX7_give_138 : decode cX7_give 138 = .ok (.ireturn, 1) := by decide +kernel
theorem dX7_touches_0 : decode cX7_touches 0 = .ok (.aload_n 0, 1) := by decide +kernel
theorem dX7_touches_1 : decode cX7_touches 1 = .ok (.getfield 10, 3) := by decide +kernel
theorem dX7_touches_4 : decode cX7_touches 4 = .ok (.iload_n 1, 1) := by decide +kernel
theorem dX7_touches_5 : decode cX7_touches 5 = .ok (.invokevirtual 115, 3) := by decide +kernel
theorem dX7_touches_8 : decode cX7_touches 8 = .ok (.ifCond .eq 14, 3) := by decide +kernel
theorem dX7_touches_11 : decode cX7_touches 11 = .ok (.aload_n 0, 1) := by decide +kernel
theorem dX7_touches_12 : decode cX7_touches 12 = .ok (.getfield 10, 3) := by decide +kernel
theorem dX7_touches_15 : decode cX7_touches 15 = .ok (.iload_n 1, 1) := by decide +kernel
theorem dX7_touches_16 : decode cX7_touches 16 = .ok (.invokevirtual 148, 3) := by decide +kernel
theorem dX7_touches_19 : decode cX7_touches 19 = .ok (.goto 4, 3) := by decide +kernel
theorem dX7_touches_22 : decode cX7_touches 22 = .ok (.iconst (-1), 1) := by decide +kernel
theorem dX7_touches_23 : decode cX7_touches 23 = .ok (.ireturn, 1) := by decide +kernel
theorem dX7_above_0 : decode cX7_above 0 = .ok (.aload_n 0, 1) := by decide +kernel
theorem dX7_above_1 : decode cX7_above 1 = .ok (.getfield 10, 3) := by decide +kernel
theorem dX7_above_4 : decode cX7_above 4 = .ok (.iload_n 1, 1) := by decide +kernel
theorem dX7_above_5 : decode cX7_above 5 = .ok (.invokevirtual 115, 3) := by decide +kernel
theorem dX7_above_8 : decode cX7_above 8 = .ok (.ifCond .eq 12, 3) := by decide +kernel
theorem dX7_above_11 : decode cX7_above 11 = .ok (.iload_n 2, 1) := by decide +kernel
theorem dX7_above_12 : decode cX7_above 12 = .ok (.iconst 0, 1) := by decide +kernel
theorem dX7_above_13 : decode cX7_above 13 = .ok (.iconst 1, 1) := by decide +kernel
theorem dX7_above_14 : decode cX7_above 14 = .ok (.invokestatic 72, 3) := by decide +kernel
theorem dX7_above_17 : decode cX7_above 17 = .ok (.ifCond .ne 5, 3) := by decide +kernel
theorem dX7_above_20 : decode cX7_above 20 = .ok (.iconst (-1), 1) := by decide +kernel
theorem dX7_above_21 : decode cX7_above 21 = .ok (.ireturn, 1) := by decide +kernel
theorem dX7_above_22 : decode cX7_above 22 = .ok (.iload_n 2, 1) := by decide +kernel
theorem dX7_above_23 : decode cX7_above 23 = .ok (.ifCond .ne 14, 3) := by decide +kernel
theorem dX7_above_26 : decode cX7_above 26 = .ok (.aload_n 0, 1) := by decide +kernel
theorem dX7_above_27 : decode cX7_above 27 = .ok (.getfield 10, 3) := by decide +kernel
theorem dX7_above_30 : decode cX7_above 30 = .ok (.iload_n 1, 1) := by decide +kernel
theorem dX7_above_31 : decode cX7_above 31 = .ok (.invokevirtual 151, 3) := by decide +kernel
theorem dX7_above_34 : decode cX7_above 34 = .ok (.goto 11, 3) := by decide +kernel
theorem dX7_above_37 : decode cX7_above 37 = .ok (.aload_n 0, 1) := by decide +kernel
theorem dX7_above_38 : decode cX7_above 38 = .ok (.getfield 10, 3) := by decide +kernel
theorem dX7_above_41 : decode cX7_above 41 = .ok (.iload_n 1, 1) := by decide +kernel
theorem dX7_above_42 : decode cX7_above 42 = .ok (.invokevirtual 154, 3) := by decide +kernel
theorem dX7_above_45 : decode cX7_above 45 = .ok (.ireturn, 1) := by decide +kernel
theorem dX7_hours_0 : decode cX7_hours 0 = .ok (.iload_n 1, 1) := by decide +kernel
theorem dX7_hours_1 : decode cX7_hours 1 = .ok (.iconst 0, 1) := by decide +kernel
theorem dX7_hours_2 : decode cX7_hours 2 = .ok (.bipush 48, 2) := by decide +kernel
theorem dX7_hours_4 : decode cX7_hours 4 = .ok (.invokestatic 72, 3) := by decide +kernel
theorem dX7_hours_7 : decode cX7_hours 7 = .ok (.ifCond .ne 5, 3) := by decide +kernel
theorem dX7_hours_10 : decode cX7_hours 10 = .ok (.iconst (-1), 1) := by decide +kernel
theorem dX7_hours_11 : decode cX7_hours 11 = .ok (.ireturn, 1) := by decide +kernel
theorem dX7_hours_12 : decode cX7_hours 12 = .ok (.iconst 0, 1) := by decide +kernel
theorem dX7_hours_13 : decode cX7_hours 13 = .ok (.istore_n 2, 1) := by decide +kernel
theorem dX7_hours_14 : decode cX7_hours 14 = .ok (.iload_n 2, 1) := by decide +kernel
theorem dX7_hours_15 : decode cX7_hours 15 = .ok (.iload_n 1, 1) := by decide +kernel
theorem dX7_hours_16 : decode cX7_hours 16 = .ok (.if_icmp .ge 28, 3) := by decide +kernel
theorem dX7_hours_19 : decode cX7_hours 19 = .ok (.aload_n 0, 1) := by decide +kernel
theorem dX7_hours_20 : decode cX7_hours 20 = .ok (.getfield 10, 3) := by decide +kernel
theorem dX7_hours_23 : decode cX7_hours 23 = .ok (.getfield 157, 3) := by decide +kernel
theorem dX7_hours_26 : decode cX7_hours 26 = .ok (.bipush 96, 2) := by decide +kernel
theorem dX7_hours_28 : decode cX7_hours 28 = .ok (.if_icmp .ge 16, 3) := by decide +kernel
theorem dX7_hours_31 : decode cX7_hours 31 = .ok (.aload_n 0, 1) := by decide +kernel
theorem dX7_hours_32 : decode cX7_hours 32 = .ok (.getfield 10, 3) := by decide +kernel
theorem dX7_hours_35 : decode cX7_hours 35 = .ok (.invokevirtual 160, 3) := by decide +kernel
theorem dX7_hours_38 : decode cX7_hours 38 = .ok (.iinc 2 1, 3) := by decide +kernel
theorem dX7_hours_41 : decode cX7_hours 41 = .ok (.goto (-27), 3) := by decide +kernel
theorem dX7_hours_44 : decode cX7_hours 44 = .ok (.aload_n 0, 1) := by decide +kernel
theorem dX7_hours_45 : decode cX7_hours 45 = .ok (.getfield 10, 3) := by decide +kernel
theorem dX7_hours_48 : decode cX7_hours 48 = .ok (.getfield 157, 3) := by decide +kernel
theorem dX7_hours_51 : decode cX7_hours 51 = .ok (.ireturn, 1) := by decide +kernel
theorem dX7_clock_0 : decode cX7_clock 0 = .ok (.iload_n 1, 1) := by decide +kernel
theorem dX7_clock_1 : decode cX7_clock 1 = .ok (.iconst 0, 1) := by decide +kernel
theorem dX7_clock_2 : decode cX7_clock 2 = .ok (.bipush 96, 2) := by decide +kernel
theorem dX7_clock_4 : decode cX7_clock 4 = .ok (.invokestatic 72, 3) := by decide +kernel
theorem dX7_clock_7 : decode cX7_clock 7 = .ok (.ifCond .ne 5, 3) := by decide +kernel
theorem dX7_clock_10 : decode cX7_clock 10 = .ok (.iconst (-1), 1) := by decide +kernel
theorem dX7_clock_11 : decode cX7_clock 11 = .ok (.ireturn, 1) := by decide +kernel
theorem dX7_clock_12 : decode cX7_clock 12 = .ok (.aload_n 0, 1) := by decide +kernel
theorem dX7_clock_13 : decode cX7_clock 13 = .ok (.getfield 10, 3) := by decide +kernel
theorem dX7_clock_16 : decode cX7_clock 16 = .ok (.getfield 157, 3) := by decide +kernel
theorem dX7_clock_19 : decode cX7_clock 19 = .ok (.istore_n 2, 1) := by decide +kernel
theorem dX7_clock_20 : decode cX7_clock 20 = .ok (.aload_n 0, 1) := by decide +kernel
theorem dX7_clock_21 : decode cX7_clock 21 = .ok (.getfield 10, 3) := by decide +kernel
theorem dX7_clock_24 : decode cX7_clock 24 = .ok (.iload_n 1, 1) := by decide +kernel
theorem dX7_clock_25 : decode cX7_clock 25 = .ok (.putfield 157, 3) := by decide +kernel
theorem dX7_clock_28 : decode cX7_clock 28 = .ok (.iload_n 2, 1) := by decide +kernel
theorem dX7_clock_29 : decode cX7_clock 29 = .ok (.ireturn, 1) := by decide +kernel
theorem dX7_height_0 : decode cX7_height 0 = .ok (.aload_n 0, 1) := by decide +kernel
theorem dX7_height_1 : decode cX7_height 1 = .ok (.getfield 10, 3) := by decide +kernel
theorem dX7_height_4 : decode cX7_height 4 = .ok (.iload_n 1, 1) := by decide +kernel
theorem dX7_height_5 : decode cX7_height 5 = .ok (.invokevirtual 115, 3) := by decide +kernel
theorem dX7_height_8 : decode cX7_height 8 = .ok (.ifCond .eq 13, 3) := by decide +kernel
theorem dX7_height_11 : decode cX7_height 11 = .ok (.iload_n 2, 1) := by decide +kernel
theorem dX7_height_12 : decode cX7_height 12 = .ok (.iconst 0, 1) := by decide +kernel
theorem dX7_height_13 : decode cX7_height 13 = .ok (.bipush 48, 2) := by decide +kernel
theorem dX7_height_15 : decode cX7_height 15 = .ok (.invokestatic 72, 3) := by decide +kernel
theorem dX7_height_18 : decode cX7_height 18 = .ok (.ifCond .ne 5, 3) := by decide +kernel
theorem dX7_height_21 : decode cX7_height 21 = .ok (.iconst (-1), 1) := by decide +kernel
theorem dX7_height_22 : decode cX7_height 22 = .ok (.ireturn, 1) := by decide +kernel
theorem dX7_height_23 : decode cX7_height 23 = .ok (.aload_n 0, 1) := by decide +kernel
theorem dX7_height_24 : decode cX7_height 24 = .ok (.getfield 38, 3) := by decide +kernel
theorem dX7_height_27 : decode cX7_height 27 = .ok (.iload_n 2, 1) := by decide +kernel
theorem dX7_height_28 : decode cX7_height 28 = .ok (.iconst 0, 1) := by decide +kernel
theorem dX7_height_29 : decode cX7_height 29 = .ok (.invokevirtual 163, 3) := by decide +kernel
theorem dX7_height_32 : decode cX7_height 32 = .ok (.aload_n 0, 1) := by decide +kernel
theorem dX7_height_33 : decode cX7_height 33 = .ok (.getfield 38, 3) := by decide +kernel
theorem dX7_height_36 : decode cX7_height 36 = .ok (.getfield 167, 3) := by decide +kernel
theorem dX7_height_39 : decode cX7_height 39 = .ok (.iload_n 1, 1) := by decide +kernel
theorem dX7_height_40 : decode cX7_height 40 = .ok (.aaload, 1) := by decide +kernel
theorem dX7_height_41 : decode cX7_height 41 = .ok (.aload_n 0, 1) := by decide +kernel
theorem dX7_height_42 : decode cX7_height 42 = .ok (.getfield 38, 3) := by decide +kernel
theorem dX7_height_45 : decode cX7_height 45 = .ok (.getfield 170, 3) := by decide +kernel
theorem dX7_height_48 : decode cX7_height 48 = .ok (.iaload, 1) := by decide +kernel
theorem dX7_height_49 : decode cX7_height 49 = .ok (.ireturn, 1) := by decide +kernel
theorem dX7_first_0 : decode cX7_first 0 = .ok (.iload_n 1, 1) := by decide +kernel
theorem dX7_first_1 : decode cX7_first 1 = .ok (.iconst 0, 1) := by decide +kernel
theorem dX7_first_2 : decode cX7_first 2 = .ok (.iconst 1, 1) := by decide +kernel
theorem dX7_first_3 : decode cX7_first 3 = .ok (.invokestatic 72, 3) := by decide +kernel
theorem dX7_first_6 : decode cX7_first 6 = .ok (.ifCond .ne 5, 3) := by decide +kernel
theorem dX7_first_9 : decode cX7_first 9 = .ok (.iconst (-1), 1) := by decide +kernel
theorem dX7_first_10 : decode cX7_first 10 = .ok (.ireturn, 1) := by decide +kernel
theorem dX7_first_11 : decode cX7_first 11 = .ok (.aload_n 0, 1) := by decide +kernel
theorem dX7_first_12 : decode cX7_first 12 = .ok (.getfield 38, 3) := by decide +kernel
theorem dX7_first_15 : decode cX7_first 15 = .ok (.bipush 48, 2) := by decide +kernel
theorem dX7_first_17 : decode cX7_first 17 = .ok (.iconst 0, 1) := by decide +kernel
theorem dX7_first_18 : decode cX7_first 18 = .ok (.invokevirtual 163, 3) := by decide +kernel
theorem dX7_first_21 : decode cX7_first 21 = .ok (.iconst 0, 1) := by decide +kernel
theorem dX7_first_22 : decode cX7_first 22 = .ok (.istore_n 2, 1) := by decide +kernel
theorem dX7_first_23 : decode cX7_first 23 = .ok (.iload_n 2, 1) := by decide +kernel
theorem dX7_first_24 : decode cX7_first 24 = .ok (.aload_n 0, 1) := by decide +kernel
theorem dX7_first_25 : decode cX7_first 25 = .ok (.getfield 38, 3) := by decide +kernel
theorem dX7_first_28 : decode cX7_first 28 = .ok (.getfield 170, 3) := by decide +kernel
theorem dX7_first_31 : decode cX7_first 31 = .ok (.if_icmp .gt 34, 3) := by decide +kernel
theorem dX7_first_34 : decode cX7_first 34 = .ok (.aload_n 0, 1) := by decide +kernel
theorem dX7_first_35 : decode cX7_first 35 = .ok (.getfield 38, 3) := by decide +kernel
theorem dX7_first_38 : decode cX7_first 38 = .ok (.iload_n 2, 1) := by decide +kernel
theorem dX7_first_39 : decode cX7_first 39 = .ok (.invokevirtual 173, 3) := by decide +kernel
theorem dX7_first_42 : decode cX7_first 42 = .ok (.istore_n 3, 1) := by decide +kernel
theorem dX7_first_43 : decode cX7_first 43 = .ok (.iload_n 3, 1) := by decide +kernel
theorem dX7_first_44 : decode cX7_first 44 = .ok (.bipush (-3), 2) := by decide +kernel
theorem dX7_first_46 : decode cX7_first 46 = .ok (.if_icmp .eq 13, 3) := by decide +kernel
theorem dX7_first_49 : decode cX7_first 49 = .ok (.iload_n 1, 1) := by decide +kernel
theorem dX7_first_50 : decode cX7_first 50 = .ok (.ifCond .ne 7, 3) := by decide +kernel
theorem dX7_first_53 : decode cX7_first 53 = .ok (.iload_n 2, 1) := by decide +kernel
theorem dX7_first_54 : decode cX7_first 54 = .ok (.goto 4, 3) := by decide +kernel
theorem dX7_first_57 : decode cX7_first 57 = .ok (.iload_n 3, 1) := by decide +kernel
theorem dX7_first_58 : decode cX7_first 58 = .ok (.ireturn, 1) := by decide +kernel
theorem dX7_first_59 : decode cX7_first 59 = .ok (.iinc 2 1, 3) := by decide +kernel
theorem dX7_first_62 : decode cX7_first 62 = .ok (.goto (-39), 3) := by decide +kernel
theorem dX7_first_65 : decode cX7_first 65 = .ok (.bipush (-3), 2) := by decide +kernel
theorem dX7_first_67 : decode cX7_first 67 = .ok (.ireturn, 1) := by decide +kernel
theorem dX7_clear_0 : decode cX7_clear 0 = .ok (.aload_n 0, 1) := by decide +kernel
theorem dX7_clear_1 : decode cX7_clear 1 = .ok (.getfield 10, 3) := by decide +kernel
theorem dX7_clear_4 : decode cX7_clear 4 = .ok (.iload_n 1, 1) := by decide +kernel
theorem dX7_clear_5 : decode cX7_clear 5 = .ok (.invokevirtual 115, 3) := by decide +kernel
theorem dX7_clear_8 : decode cX7_clear 8 = .ok (.ifCond .eq 13, 3) := by decide +kernel
theorem dX7_clear_11 : decode cX7_clear 11 = .ok (.iload_n 2, 1) := by decide +kernel
theorem dX7_clear_12 : decode cX7_clear 12 = .ok (.iconst 0, 1) := by decide +kernel
theorem dX7_clear_13 : decode cX7_clear 13 = .ok (.bipush 48, 2) := by decide +kernel
theorem dX7_clear_15 : decode cX7_clear 15 = .ok (.invokestatic 72, 3) := by decide +kernel
theorem dX7_clear_18 : decode cX7_clear 18 = .ok (.ifCond .ne 5, 3) := by decide +kernel
theorem dX7_clear_21 : decode cX7_clear 21 = .ok (.iconst (-1), 1) := by decide +kernel
theorem dX7_clear_22 : decode cX7_clear 22 = .ok (.ireturn, 1) := by decide +kernel
theorem dX7_clear_23 : decode cX7_clear 23 = .ok (.aload_n 0, 1) := by decide +kernel
theorem dX7_clear_24 : decode cX7_clear 24 = .ok (.getfield 38, 3) := by decide +kernel
theorem dX7_clear_27 : decode cX7_clear 27 = .ok (.iload_n 2, 1) := by decide +kernel
theorem dX7_clear_28 : decode cX7_clear 28 = .ok (.iconst 0, 1) := by decide +kernel
theorem dX7_clear_29 : decode cX7_clear 29 = .ok (.invokevirtual 163, 3) := by decide +kernel
theorem dX7_clear_32 : decode cX7_clear 32 = .ok (.aload_n 0, 1) := by decide +kernel
theorem dX7_clear_33 : decode cX7_clear 33 = .ok (.getfield 38, 3) := by decide +kernel
theorem dX7_clear_36 : decode cX7_clear 36 = .ok (.iload_n 1, 1) := by decide +kernel
theorem dX7_clear_37 : decode cX7_clear 37 = .ok (.aload_n 0, 1) := by decide +kernel
theorem dX7_clear_38 : decode cX7_clear 38 = .ok (.getfield 10, 3) := by decide +kernel
theorem dX7_clear_41 : decode cX7_clear 41 = .ok (.getfield 118, 3) := by decide +kernel
theorem dX7_clear_44 : decode cX7_clear 44 = .ok (.iload_n 1, 1) := by decide +kernel
theorem dX7_clear_45 : decode cX7_clear 45 = .ok (.aaload, 1) := by decide +kernel
theorem dX7_clear_46 : decode cX7_clear 46 = .ok (.getfield 138, 3) := by decide +kernel
theorem dX7_clear_49 : decode cX7_clear 49 = .ok (.iconst 2, 1) := by decide +kernel
theorem dX7_clear_50 : decode cX7_clear 50 = .ok (.iaload, 1) := by decide +kernel
theorem dX7_clear_51 : decode cX7_clear 51 = .ok (.invokevirtual 176, 3) := by decide +kernel
theorem dX7_clear_54 : decode cX7_clear 54 = .ok (.ifCond .eq 7, 3) := by decide +kernel
theorem dX7_clear_57 : decode cX7_clear 57 = .ok (.iconst 1, 1) := by decide +kernel
theorem dX7_clear_58 : decode cX7_clear 58 = .ok (.goto 4, 3) := by decide +kernel
theorem dX7_clear_61 : decode cX7_clear 61 = .ok (.iconst 0, 1) := by decide +kernel
theorem dX7_clear_62 : decode cX7_clear 62 = .ok (.ireturn, 1) := by decide +kernel
theorem dX7_leastSand_0 : decode cX7_leastSand 0 = .ok (.aload_n 0, 1) := by decide +kernel
theorem dX7_leastSand_1 : decode cX7_leastSand 1 = .ok (.getfield 10, 3) := by decide +kernel
theorem dX7_leastSand_4 : decode cX7_leastSand 4 = .ok (.iload_n 1, 1) := by decide +kernel
theorem dX7_leastSand_5 : decode cX7_leastSand 5 = .ok (.invokevirtual 115, 3) := by decide +kernel
theorem dX7_leastSand_8 : decode cX7_leastSand 8 = .ok (.ifCond .eq 13, 3) := by decide +kernel
theorem dX7_leastSand_11 : decode cX7_leastSand 11 = .ok (.iload_n 2, 1) := by decide +kernel
theorem dX7_leastSand_12 : decode cX7_leastSand 12 = .ok (.iconst 0, 1) := by decide +kernel
theorem dX7_leastSand_13 : decode cX7_leastSand 13 = .ok (.bipush 24, 2) := by decide +kernel
theorem dX7_leastSand_15 : decode cX7_leastSand 15 = .ok (.invokestatic 72, 3) := by decide +kernel
theorem dX7_leastSand_18 : decode cX7_leastSand 18 = .ok (.ifCond .ne 5, 3) := by decide +kernel
theorem dX7_leastSand_21 : decode cX7_leastSand 21 = .ok (.iconst (-1), 1) := by decide +kernel
theorem dX7_leastSand_22 : decode cX7_leastSand 22 = .ok (.ireturn, 1) := by decide +kernel
theorem dX7_leastSand_23 : decode cX7_leastSand 23 = .ok (.aload_n 0, 1) := by decide +kernel
theorem dX7_leastSand_24 : decode cX7_leastSand 24 = .ok (.getfield 38, 3) := by decide +kernel
theorem dX7_leastSand_27 : decode cX7_leastSand 27 = .ok (.iload_n 2, 1) := by decide +kernel
theorem dX7_leastSand_28 : decode cX7_leastSand 28 = .ok (.iconst 0, 1) := by decide +kernel
theorem dX7_leastSand_29 : decode cX7_leastSand 29 = .ok (.invokevirtual 163, 3) := by decide +kernel
theorem dX7_leastSand_32 : decode cX7_leastSand 32 = .ok (.aload_n 0, 1) := by decide +kernel
theorem dX7_leastSand_33 : decode cX7_leastSand 33 = .ok (.getfield 10, 3) := by decide +kernel
theorem dX7_leastSand_36 : decode cX7_leastSand 36 = .ok (.getfield 118, 3) := by decide +kernel
theorem dX7_leastSand_39 : decode cX7_leastSand 39 = .ok (.iload_n 1, 1) := by decide +kernel
theorem dX7_leastSand_40 : decode cX7_leastSand 40 = .ok (.aaload, 1) := by decide +kernel
theorem dX7_leastSand_41 : decode cX7_leastSand 41 = .ok (.getfield 138, 3) := by decide +kernel
theorem dX7_leastSand_44 : decode cX7_leastSand 44 = .ok (.bipush 6, 2) := by decide +kernel
theorem dX7_leastSand_46 : decode cX7_leastSand 46 = .ok (.iaload, 1) := by decide +kernel
theorem dX7_leastSand_47 : decode cX7_leastSand 47 = .ok (.istore_n 3, 1) := by decide +kernel
theorem dX7_leastSand_48 : decode cX7_leastSand 48 = .ok (.iconst 0, 1) := by decide +kernel
theorem dX7_leastSand_49 : decode cX7_leastSand 49 = .ok (.istore 4, 2) := by decide +kernel
theorem dX7_leastSand_51 : decode cX7_leastSand 51 = .ok (.iload 4, 2) := by decide +kernel
theorem dX7_leastSand_53 : decode cX7_leastSand 53 = .ok (.iload_n 3, 1) := by decide +kernel
theorem dX7_leastSand_54 : decode cX7_leastSand 54 = .ok (.if_icmp .gt 29, 3) := by decide +kernel
theorem dX7_leastSand_57 : decode cX7_leastSand 57 = .ok (.aload_n 0, 1) := by decide +kernel
theorem dX7_leastSand_58 : decode cX7_leastSand 58 = .ok (.getfield 38, 3) := by decide +kernel
theorem dX7_leastSand_61 : decode cX7_leastSand 61 = .ok (.iload_n 1, 1) := by decide +kernel
theorem dX7_leastSand_62 : decode cX7_leastSand 62 = .ok (.bipush 6, 2) := by decide +kernel
theorem dX7_leastSand_64 : decode cX7_leastSand 64 = .ok (.iload_n 3, 1) := by decide +kernel
theorem dX7_leastSand_65 : decode cX7_leastSand 65 = .ok (.iload 4, 2) := by decide +kernel
theorem dX7_leastSand_67 : decode cX7_leastSand 67 = .ok (.isub, 1) := by decide +kernel
theorem dX7_leastSand_68 : decode cX7_leastSand 68 = .ok (.invokevirtual 179, 3) := by decide +kernel
theorem dX7_leastSand_71 : decode cX7_leastSand 71 = .ok (.ifCond .eq 6, 3) := by decide +kernel
theorem dX7_leastSand_74 : decode cX7_leastSand 74 = .ok (.iload 4, 2) := by decide +kernel
theorem dX7_leastSand_76 : decode cX7_leastSand 76 = .ok (.ireturn, 1) := by decide +kernel
theorem dX7_leastSand_77 : decode cX7_leastSand 77 = .ok (.iinc 4 1, 3) := by decide +kernel
theorem dX7_leastSand_80 : decode cX7_leastSand 80 = .ok (.goto (-29), 3) := by decide +kernel
theorem dX7_leastSand_83 : decode cX7_leastSand 83 = .ok (.bipush (-3), 2) := by decide +kernel
theorem dX7_leastSand_85 : decode cX7_leastSand 85 = .ok (.ireturn, 1) := by decide +kernel
theorem dX7_ropeFor_0 : decode cX7_ropeFor 0 = .ok (.aload_n 0, 1) := by decide +kernel
theorem dX7_ropeFor_1 : decode cX7_ropeFor 1 = .ok (.getfield 10, 3) := by decide +kernel
theorem dX7_ropeFor_4 : decode cX7_ropeFor 4 = .ok (.iload_n 1, 1) := by decide +kernel
theorem dX7_ropeFor_5 : decode cX7_ropeFor 5 = .ok (.invokevirtual 115, 3) := by decide +kernel
theorem dX7_ropeFor_8 : decode cX7_ropeFor 8 = .ok (.ifCond .eq 13, 3) := by decide +kernel
theorem dX7_ropeFor_11 : decode cX7_ropeFor 11 = .ok (.iload_n 2, 1) := by decide +kernel
theorem dX7_ropeFor_12 : decode cX7_ropeFor 12 = .ok (.iconst 0, 1) := by decide +kernel
theorem dX7_ropeFor_13 : decode cX7_ropeFor 13 = .ok (.bipush 24, 2) := by decide +kernel
theorem dX7_ropeFor_15 : decode cX7_ropeFor 15 = .ok (.invokestatic 72, 3) := by decide +kernel
theorem dX7_ropeFor_18 : decode cX7_ropeFor 18 = .ok (.ifCond .ne 5, 3) := by decide +kernel
theorem dX7_ropeFor_21 : decode cX7_ropeFor 21 = .ok (.iconst (-1), 1) := by decide +kernel
theorem dX7_ropeFor_22 : decode cX7_ropeFor 22 = .ok (.ireturn, 1) := by decide +kernel
theorem dX7_ropeFor_23 : decode cX7_ropeFor 23 = .ok (.aload_n 0, 1) := by decide +kernel
theorem dX7_ropeFor_24 : decode cX7_ropeFor 24 = .ok (.getfield 38, 3) := by decide +kernel
theorem dX7_ropeFor_27 : decode cX7_ropeFor 27 = .ok (.iload_n 2, 1) := by decide +kernel
theorem dX7_ropeFor_28 : decode cX7_ropeFor 28 = .ok (.iconst 0, 1) := by decide +kernel
theorem dX7_ropeFor_29 : decode cX7_ropeFor 29 = .ok (.invokevirtual 163, 3) := by decide +kernel
theorem dX7_ropeFor_32 : decode cX7_ropeFor 32 = .ok (.getstatic 141, 3) := by decide +kernel
theorem dX7_ropeFor_35 : decode cX7_ropeFor 35 = .ok (.iconst 4, 1) := by decide +kernel
theorem dX7_ropeFor_36 : decode cX7_ropeFor 36 = .ok (.iaload, 1) := by decide +kernel
theorem dX7_ropeFor_37 : decode cX7_ropeFor 37 = .ok (.istore_n 3, 1) := by decide +kernel
theorem dX7_ropeFor_38 : decode cX7_ropeFor 38 = .ok (.iload_n 3, 1) := by decide +kernel
theorem dX7_ropeFor_39 : decode cX7_ropeFor 39 = .ok (.getstatic 182, 3) := by decide +kernel
theorem dX7_ropeFor_42 : decode cX7_ropeFor 42 = .ok (.iconst 4, 1) := by decide +kernel
theorem dX7_ropeFor_43 : decode cX7_ropeFor 43 = .ok (.iaload, 1) := by decide +kernel
theorem dX7_ropeFor_44 : decode cX7_ropeFor 44 = .ok (.if_icmp .lt 24, 3) := by decide +kernel
theorem dX7_ropeFor_47 : decode cX7_ropeFor 47 = .ok (.aload_n 0, 1) := by decide +kernel
theorem dX7_ropeFor_48 : decode cX7_ropeFor 48 = .ok (.getfield 38, 3) := by decide +kernel
theorem dX7_ropeFor_51 : decode cX7_ropeFor 51 = .ok (.iload_n 1, 1) := by decide +kernel
theorem dX7_ropeFor_52 : decode cX7_ropeFor 52 = .ok (.iconst 4, 1) := by decide +kernel
theorem dX7_ropeFor_53 : decode cX7_ropeFor 53 = .ok (.iload_n 3, 1) := by decide +kernel
theorem dX7_ropeFor_54 : decode cX7_ropeFor 54 = .ok (.invokevirtual 179, 3) := by decide +kernel
theorem dX7_ropeFor_57 : decode cX7_ropeFor 57 = .ok (.ifCond .eq 5, 3) := by decide +kernel
theorem dX7_ropeFor_60 : decode cX7_ropeFor 60 = .ok (.iload_n 3, 1) := by decide +kernel
theorem dX7_ropeFor_61 : decode cX7_ropeFor 61 = .ok (.ireturn, 1) := by decide +kernel
theorem dX7_ropeFor_62 : decode cX7_ropeFor 62 = .ok (.iinc 3 (-1), 3) := by decide +kernel
theorem dX7_ropeFor_65 : decode cX7_ropeFor 65 = .ok (.goto (-27), 3) := by decide +kernel
theorem dX7_ropeFor_68 : decode cX7_ropeFor 68 = .ok (.bipush (-3), 2) := by decide +kernel
theorem dX7_ropeFor_70 : decode cX7_ropeFor 70 = .ok (.ireturn, 1) := by decide +kernel
theorem dX7_columnFor_0 : decode cX7_columnFor 0 = .ok (.aload_n 0, 1) := by decide +kernel
theorem dX7_columnFor_1 : decode cX7_columnFor 1 = .ok (.getfield 10, 3) := by decide +kernel
theorem dX7_columnFor_4 : decode cX7_columnFor 4 = .ok (.iload_n 1, 1) := by decide +kernel
theorem dX7_columnFor_5 : decode cX7_columnFor 5 = .ok (.invokevirtual 115, 3) := by decide +kernel
theorem dX7_columnFor_8 : decode cX7_columnFor 8 = .ok (.ifCond .eq 13, 3) := by decide +kernel
theorem dX7_columnFor_11 : decode cX7_columnFor 11 = .ok (.iload_n 2, 1) := by decide +kernel
theorem dX7_columnFor_12 : decode cX7_columnFor 12 = .ok (.iconst 0, 1) := by decide +kernel
theorem dX7_columnFor_13 : decode cX7_columnFor 13 = .ok (.bipush 24, 2) := by decide +kernel
theorem dX7_columnFor_15 : decode cX7_columnFor 15 = .ok (.invokestatic 72, 3) := by decide +kernel
theorem dX7_columnFor_18 : decode cX7_columnFor 18 = .ok (.ifCond .ne 5, 3) := by decide +kernel
theorem dX7_columnFor_21 : decode cX7_columnFor 21 = .ok (.iconst (-1), 1) := by decide +kernel
theorem dX7_columnFor_22 : decode cX7_columnFor 22 = .ok (.ireturn, 1) := by decide +kernel
theorem dX7_columnFor_23 : decode cX7_columnFor 23 = .ok (.aload_n 0, 1) := by decide +kernel
theorem dX7_columnFor_24 : decode cX7_columnFor 24 = .ok (.getfield 38, 3) := by decide +kernel
theorem dX7_columnFor_27 : decode cX7_columnFor 27 = .ok (.iload_n 2, 1) := by decide +kernel
theorem dX7_columnFor_28 : decode cX7_columnFor 28 = .ok (.iconst 0, 1) := by decide +kernel
theorem dX7_columnFor_29 : decode cX7_columnFor 29 = .ok (.invokevirtual 163, 3) := by decide +kernel
theorem dX7_columnFor_32 : decode cX7_columnFor 32 = .ok (.iconst 0, 1) := by decide +kernel
theorem dX7_columnFor_33 : decode cX7_columnFor 33 = .ok (.istore_n 3, 1) := by decide +kernel
theorem dX7_columnFor_34 : decode cX7_columnFor 34 = .ok (.iload_n 3, 1) := by decide +kernel
theorem dX7_columnFor_35 : decode cX7_columnFor 35 = .ok (.bipush 6, 2) := by decide +kernel
theorem dX7_columnFor_37 : decode cX7_columnFor 37 = .ok (.if_icmp .ge 23, 3) := by decide +kernel
theorem dX7_columnFor_40 : decode cX7_columnFor 40 = .ok (.aload_n 0, 1) := by decide +kernel
theorem dX7_columnFor_41 : decode cX7_columnFor 41 = .ok (.getfield 38, 3) := by decide +kernel
theorem dX7_columnFor_44 : decode cX7_columnFor 44 = .ok (.iload_n 1, 1) := by decide +kernel
theorem dX7_columnFor_45 : decode cX7_columnFor 45 = .ok (.iload_n 3, 1) := by decide +kernel
theorem dX7_columnFor_46 : decode cX7_columnFor 46 = .ok (.invokevirtual 176, 3) := by decide +kernel
theorem dX7_columnFor_49 : decode cX7_columnFor 49 = .ok (.ifCond .eq 5, 3) := by decide +kernel
theorem dX7_columnFor_52 : decode cX7_columnFor 52 = .ok (.iload_n 3, 1) := by decide +kernel
theorem dX7_columnFor_53 : decode cX7_columnFor 53 = .ok (.ireturn, 1) := by decide +kernel
theorem dX7_columnFor_54 : decode cX7_columnFor 54 = .ok (.iinc 3 1, 3) := by decide +kernel
theorem dX7_columnFor_57 : decode cX7_columnFor 57 = .ok (.goto (-23), 3) := by decide +kernel
theorem dX7_columnFor_60 : decode cX7_columnFor 60 = .ok (.bipush (-3), 2) := by decide +kernel
theorem dX7_columnFor_62 : decode cX7_columnFor 62 = .ok (.ireturn, 1) := by decide +kernel
theorem dX7_lasts_0 : decode cX7_lasts 0 = .ok (.aload_n 0, 1) := by decide +kernel
theorem dX7_lasts_1 : decode cX7_lasts 1 = .ok (.getfield 10, 3) := by decide +kernel
theorem dX7_lasts_4 : decode cX7_lasts 4 = .ok (.iload_n 1, 1) := by decide +kernel
theorem dX7_lasts_5 : decode cX7_lasts 5 = .ok (.invokevirtual 115, 3) := by decide +kernel
theorem dX7_lasts_8 : decode cX7_lasts 8 = .ok (.ifCond .ne 5, 3) := by decide +kernel
theorem dX7_lasts_11 : decode cX7_lasts 11 = .ok (.iconst (-1), 1) := by decide +kernel
theorem dX7_lasts_12 : decode cX7_lasts 12 = .ok (.ireturn, 1) := by decide +kernel
theorem dX7_lasts_13 : decode cX7_lasts 13 = .ok (.aload_n 0, 1) := by decide +kernel
theorem dX7_lasts_14 : decode cX7_lasts 14 = .ok (.getfield 10, 3) := by decide +kernel
theorem dX7_lasts_17 : decode cX7_lasts 17 = .ok (.getfield 118, 3) := by decide +kernel
theorem dX7_lasts_20 : decode cX7_lasts 20 = .ok (.iload_n 1, 1) := by decide +kernel
theorem dX7_lasts_21 : decode cX7_lasts 21 = .ok (.aaload, 1) := by decide +kernel
theorem dX7_lasts_22 : decode cX7_lasts 22 = .ok (.getfield 138, 3) := by decide +kernel
theorem dX7_lasts_25 : decode cX7_lasts 25 = .ok (.bipush 7, 2) := by decide +kernel
theorem dX7_lasts_27 : decode cX7_lasts 27 = .ok (.iaload, 1) := by decide +kernel
theorem dX7_lasts_28 : decode cX7_lasts 28 = .ok (.istore_n 2, 1) := by decide +kernel
theorem dX7_lasts_29 : decode cX7_lasts 29 = .ok (.aload_n 0, 1) := by decide +kernel
theorem dX7_lasts_30 : decode cX7_lasts 30 = .ok (.getfield 10, 3) := by decide +kernel
theorem dX7_lasts_33 : decode cX7_lasts 33 = .ok (.getfield 118, 3) := by decide +kernel
theorem dX7_lasts_36 : decode cX7_lasts 36 = .ok (.iload_n 1, 1) := by decide +kernel
theorem dX7_lasts_37 : decode cX7_lasts 37 = .ok (.aaload, 1) := by decide +kernel
theorem dX7_lasts_38 : decode cX7_lasts 38 = .ok (.getfield 138, 3) := by decide +kernel
theorem dX7_lasts_41 : decode cX7_lasts 41 = .ok (.bipush 8, 2) := by decide +kernel
theorem dX7_lasts_43 : decode cX7_lasts 43 = .ok (.iaload, 1) := by decide +kernel
theorem dX7_lasts_44 : decode cX7_lasts 44 = .ok (.istore_n 3, 1) := by decide +kernel
theorem dX7_lasts_45 : decode cX7_lasts 45 = .ok (.iload_n 2, 1) := by decide +kernel
theorem dX7_lasts_46 : decode cX7_lasts 46 = .ok (.ifCond .ne 5, 3) := by decide +kernel
theorem dX7_lasts_49 : decode cX7_lasts 49 = .ok (.iconst 0, 1) := by decide +kernel
theorem dX7_lasts_50 : decode cX7_lasts 50 = .ok (.ireturn, 1) := by decide +kernel
theorem dX7_lasts_51 : decode cX7_lasts 51 = .ok (.iload_n 3, 1) := by decide +kernel
theorem dX7_lasts_52 : decode cX7_lasts 52 = .ok (.ifCond .gt 6, 3) := by decide +kernel
theorem dX7_lasts_55 : decode cX7_lasts 55 = .ok (.bipush (-3), 2) := by decide +kernel
theorem dX7_lasts_57 : decode cX7_lasts 57 = .ok (.ireturn, 1) := by decide +kernel
theorem dX7_lasts_58 : decode cX7_lasts 58 = .ok (.iload_n 2, 1) := by decide +kernel
theorem dX7_lasts_59 : decode cX7_lasts 59 = .ok (.iload_n 3, 1) := by decide +kernel
theorem dX7_lasts_60 : decode cX7_lasts 60 = .ok (.iadd, 1) := by decide +kernel
theorem dX7_lasts_61 : decode cX7_lasts 61 = .ok (.iconst 1, 1) := by decide +kernel
theorem dX7_lasts_62 : decode cX7_lasts 62 = .ok (.isub, 1) := by decide +kernel
theorem dX7_lasts_63 : decode cX7_lasts 63 = .ok (.iload_n 3, 1) := by decide +kernel
theorem dX7_lasts_64 : decode cX7_lasts 64 = .ok (.idiv, 1) := by decide +kernel
theorem dX7_lasts_65 : decode cX7_lasts 65 = .ok (.ireturn, 1) := by decide +kernel
theorem dX7_reached_0 : decode cX7_reached 0 = .ok (.aload_n 0, 1) := by decide +kernel
theorem dX7_reached_1 : decode cX7_reached 1 = .ok (.getfield 10, 3) := by decide +kernel
theorem dX7_reached_4 : decode cX7_reached 4 = .ok (.iload_n 1, 1) := by decide +kernel
theorem dX7_reached_5 : decode cX7_reached 5 = .ok (.invokevirtual 115, 3) := by decide +kernel
theorem dX7_reached_8 : decode cX7_reached 8 = .ok (.ifCond .eq 14, 3) := by decide +kernel
theorem dX7_reached_11 : decode cX7_reached 11 = .ok (.aload_n 0, 1) := by decide +kernel
theorem dX7_reached_12 : decode cX7_reached 12 = .ok (.getfield 10, 3) := by decide +kernel
theorem dX7_reached_15 : decode cX7_reached 15 = .ok (.iload_n 1, 1) := by decide +kernel
theorem dX7_reached_16 : decode cX7_reached 16 = .ok (.invokevirtual 185, 3) := by decide +kernel
theorem dX7_reached_19 : decode cX7_reached 19 = .ok (.goto 4, 3) := by decide +kernel
theorem dX7_reached_22 : decode cX7_reached 22 = .ok (.iconst (-1), 1) := by decide +kernel
theorem dX7_reached_23 : decode cX7_reached 23 = .ok (.ireturn, 1) := by decide +kernel
theorem dX7_help_0 : decode cX7_help 0 = .ok (.iload_n 1, 1) := by decide +kernel
theorem dX7_help_1 : decode cX7_help 1 = .ok (.iconst 1, 1) := by decide +kernel
theorem dX7_help_2 : decode cX7_help 2 = .ok (.bipush 24, 2) := by decide +kernel
theorem dX7_help_4 : decode cX7_help 4 = .ok (.invokestatic 72, 3) := by decide +kernel
theorem dX7_help_7 : decode cX7_help 7 = .ok (.ifCond .ne 5, 3) := by decide +kernel
theorem dX7_help_10 : decode cX7_help 10 = .ok (.iconst (-1), 1) := by decide +kernel
theorem dX7_help_11 : decode cX7_help 11 = .ok (.ireturn, 1) := by decide +kernel
theorem dX7_help_12 : decode cX7_help 12 = .ok (.aload_n 0, 1) := by decide +kernel
theorem dX7_help_13 : decode cX7_help 13 = .ok (.getfield 38, 3) := by decide +kernel
theorem dX7_help_16 : decode cX7_help 16 = .ok (.iload_n 1, 1) := by decide +kernel
theorem dX7_help_17 : decode cX7_help 17 = .ok (.iconst 0, 1) := by decide +kernel
theorem dX7_help_18 : decode cX7_help 18 = .ok (.invokevirtual 163, 3) := by decide +kernel
theorem dX7_help_21 : decode cX7_help 21 = .ok (.bipush (-3), 2) := by decide +kernel
theorem dX7_help_23 : decode cX7_help 23 = .ok (.istore_n 2, 1) := by decide +kernel
theorem dX7_help_24 : decode cX7_help 24 = .ok (.iconst 0, 1) := by decide +kernel
theorem dX7_help_25 : decode cX7_help 25 = .ok (.istore_n 3, 1) := by decide +kernel
theorem dX7_help_26 : decode cX7_help 26 = .ok (.iconst 0, 1) := by decide +kernel
theorem dX7_help_27 : decode cX7_help 27 = .ok (.istore 4, 2) := by decide +kernel
theorem dX7_help_29 : decode cX7_help 29 = .ok (.iload 4, 2) := by decide +kernel
theorem dX7_help_31 : decode cX7_help 31 = .ok (.aload_n 0, 1) := by decide +kernel
theorem dX7_help_32 : decode cX7_help 32 = .ok (.getfield 10, 3) := by decide +kernel
theorem dX7_help_35 : decode cX7_help 35 = .ok (.getfield 93, 3) := by decide +kernel
theorem dX7_help_38 : decode cX7_help 38 = .ok (.if_icmp .ge 97, 3) := by decide +kernel
theorem dX7_help_41 : decode cX7_help 41 = .ok (.iconst 0, 1) := by decide +kernel
theorem dX7_help_42 : decode cX7_help 42 = .ok (.istore 5, 2) := by decide +kernel
theorem dX7_help_44 : decode cX7_help 44 = .ok (.iload 5, 2) := by decide +kernel
theorem dX7_help_46 : decode cX7_help 46 = .ok (.aload_n 0, 1) := by decide +kernel
theorem dX7_help_47 : decode cX7_help 47 = .ok (.getfield 10, 3) := by decide +kernel
theorem dX7_help_50 : decode cX7_help 50 = .ok (.getfield 93, 3) := by decide +kernel
theorem dX7_help_53 : decode cX7_help 53 = .ok (.if_icmp .ge 76, 3) := by decide +kernel
theorem dX7_help_56 : decode cX7_help 56 = .ok (.iload 4, 2) := by decide +kernel
theorem dX7_help_58 : decode cX7_help 58 = .ok (.iload 5, 2) := by decide +kernel
theorem dX7_help_60 : decode cX7_help 60 = .ok (.if_icmp .eq 63, 3) := by decide +kernel
theorem dX7_help_63 : decode cX7_help 63 = .ok (.aload_n 0, 1) := by decide +kernel
theorem dX7_help_64 : decode cX7_help 64 = .ok (.getfield 10, 3) := by decide +kernel
theorem dX7_help_67 : decode cX7_help 67 = .ok (.iload 4, 2) := by decide +kernel
theorem dX7_help_69 : decode cX7_help 69 = .ok (.iload 5, 2) := by decide +kernel
theorem dX7_help_71 : decode cX7_help 71 = .ok (.bipush 6, 2) := by decide +kernel
theorem dX7_help_73 : decode cX7_help 73 = .ok (.bipush 10, 2) := by decide +kernel
theorem dX7_help_75 : decode cX7_help 75 = .ok (.invokevirtual 144, 3) := by decide +kernel
theorem dX7_help_78 : decode cX7_help 78 = .ok (.ifCond .ne 6, 3) := by decide +kernel
theorem dX7_help_81 : decode cX7_help 81 = .ok (.goto 42, 3) := by decide +kernel
theorem dX7_help_84 : decode cX7_help 84 = .ok (.aload_n 0, 1) := by decide +kernel
theorem dX7_help_85 : decode cX7_help 85 = .ok (.getfield 38, 3) := by decide +kernel
theorem dX7_help_88 : decode cX7_help 88 = .ok (.iload 4, 2) := by decide +kernel
theorem dX7_help_90 : decode cX7_help 90 = .ok (.iload 5, 2) := by decide +kernel
theorem dX7_help_92 : decode cX7_help 92 = .ok (.bipush 10, 2) := by decide +kernel
theorem dX7_help_94 : decode cX7_help 94 = .ok (.invokevirtual 188, 3) := by decide +kernel
theorem dX7_help_97 : decode cX7_help 97 = .ok (.istore 6, 2) := by decide +kernel
theorem dX7_help_99 : decode cX7_help 99 = .ok (.iload_n 2, 1) := by decide +kernel
theorem dX7_help_100 : decode cX7_help 100 = .ok (.bipush (-3), 2) := by decide +kernel
theorem dX7_help_102 : decode cX7_help 102 = .ok (.if_icmp .eq 9, 3) := by decide +kernel
theorem dX7_help_105 : decode cX7_help 105 = .ok (.iload 6, 2) := by decide +kernel
theorem dX7_help_107 : decode cX7_help 107 = .ok (.iload_n 3, 1) := by decide +kernel
theorem dX7_help_108 : decode cX7_help 108 = .ok (.if_icmp .ge 15, 3) := by decide +kernel
theorem dX7_help_111 : decode cX7_help 111 = .ok (.bipush 10, 2) := by decide +kernel
theorem dX7_help_113 : decode cX7_help 113 = .ok (.iload 4, 2) := by decide +kernel
theorem dX7_help_115 : decode cX7_help 115 = .ok (.imul, 1) := by decide +kernel
theorem dX7_help_116 : decode cX7_help 116 = .ok (.iload 5, 2) := by decide +kernel
theorem dX7_help_118 : decode cX7_help 118 = .ok (.iadd, 1) := by decide +kernel
theorem dX7_help_119 : decode cX7_help 119 = .ok (.istore_n 2, 1) := by decide +kernel
theorem dX7_help_120 : decode cX7_help 120 = .ok (.iload 6, 2) := by decide +kernel
theorem dX7_help_122 : decode cX7_help 122 = .ok (.istore_n 3, 1) := by decide +kernel
theorem dX7_help_123 : decode cX7_help 123 = .ok (.iinc 5 1, 3) := by decide +kernel
theorem dX7_help_126 : decode cX7_help 126 = .ok (.goto (-82), 3) := by decide +kernel
theorem dX7_help_129 : decode cX7_help 129 = .ok (.iinc 4 1, 3) := by decide +kernel
theorem dX7_help_132 : decode cX7_help 132 = .ok (.goto (-103), 3) := by decide +kernel
theorem dX7_help_135 : decode cX7_help 135 = .ok (.iload_n 2, 1) := by decide +kernel
theorem dX7_help_136 : decode cX7_help 136 = .ok (.ireturn, 1) := by decide +kernel
theorem dX7_cold_0 : decode cX7_cold 0 = .ok (.bipush 40, 2) := by decide +kernel
theorem dX7_cold_2 : decode cX7_cold 2 = .ok (.istore_n 1, 1) := by decide +kernel
theorem dX7_cold_3 : decode cX7_cold 3 = .ok (.iload_n 1, 1) := by decide +kernel
theorem dX7_cold_4 : decode cX7_cold 4 = .ok (.iconst 1, 1) := by decide +kernel
theorem dX7_cold_5 : decode cX7_cold 5 = .ok (.if_icmp .lt 31, 3) := by decide +kernel
theorem dX7_cold_8 : decode cX7_cold 8 = .ok (.aload_n 0, 1) := by decide +kernel
theorem dX7_cold_9 : decode cX7_cold 9 = .ok (.getfield 38, 3) := by decide +kernel
theorem dX7_cold_12 : decode cX7_cold 12 = .ok (.bipush 24, 2) := by decide +kernel
theorem dX7_cold_14 : decode cX7_cold 14 = .ok (.iload_n 1, 1) := by decide +kernel
theorem dX7_cold_15 : decode cX7_cold 15 = .ok (.invokevirtual 163, 3) := by decide +kernel
theorem dX7_cold_18 : decode cX7_cold 18 = .ok (.aload_n 0, 1) := by decide +kernel
theorem dX7_cold_19 : decode cX7_cold 19 = .ok (.getfield 38, 3) := by decide +kernel
theorem dX7_cold_22 : decode cX7_cold 22 = .ok (.invokevirtual 192, 3) := by decide +kernel
theorem dX7_cold_25 : decode cX7_cold 25 = .ok (.ifCond .eq 5, 3) := by decide +kernel
theorem dX7_cold_28 : decode cX7_cold 28 = .ok (.iload_n 1, 1) := by decide +kernel
theorem dX7_cold_29 : decode cX7_cold 29 = .ok (.ireturn, 1) := by decide +kernel
theorem dX7_cold_30 : decode cX7_cold 30 = .ok (.iinc 1 (-1), 3) := by decide +kernel
theorem dX7_cold_33 : decode cX7_cold 33 = .ok (.goto (-30), 3) := by decide +kernel
theorem dX7_cold_36 : decode cX7_cold 36 = .ok (.bipush (-3), 2) := by decide +kernel
theorem dX7_cold_38 : decode cX7_cold 38 = .ok (.ireturn, 1) := by decide +kernel
theorem dX7_highest_0 : decode cX7_highest 0 = .ok (.iload_n 1, 1) := by decide +kernel
theorem dX7_highest_1 : decode cX7_highest 1 = .ok (.iconst 0, 1) := by decide +kernel
theorem dX7_highest_2 : decode cX7_highest 2 = .ok (.bipush 48, 2) := by decide +kernel
theorem dX7_highest_4 : decode cX7_highest 4 = .ok (.invokestatic 72, 3) := by decide +kernel
theorem dX7_highest_7 : decode cX7_highest 7 = .ok (.ifCond .ne 5, 3) := by decide +kernel
theorem dX7_highest_10 : decode cX7_highest 10 = .ok (.iconst (-1), 1) := by decide +kernel
theorem dX7_highest_11 : decode cX7_highest 11 = .ok (.ireturn, 1) := by decide +kernel
theorem dX7_highest_12 : decode cX7_highest 12 = .ok (.aload_n 0, 1) := by decide +kernel
theorem dX7_highest_13 : decode cX7_highest 13 = .ok (.getfield 38, 3) := by decide +kernel
theorem dX7_highest_16 : decode cX7_highest 16 = .ok (.iload_n 1, 1) := by decide +kernel
theorem dX7_highest_17 : decode cX7_highest 17 = .ok (.iconst 0, 1) := by decide +kernel
theorem dX7_highest_18 : decode cX7_highest 18 = .ok (.invokevirtual 163, 3) := by decide +kernel
theorem dX7_highest_21 : decode cX7_highest 21 = .ok (.bipush (-3), 2) := by decide +kernel
theorem dX7_highest_23 : decode cX7_highest 23 = .ok (.istore_n 2, 1) := by decide +kernel
theorem dX7_highest_24 : decode cX7_highest 24 = .ok (.iconst 0, 1) := by decide +kernel
theorem dX7_highest_25 : decode cX7_highest 25 = .ok (.istore_n 3, 1) := by decide +kernel
theorem dX7_highest_26 : decode cX7_highest 26 = .ok (.iload_n 3, 1) := by decide +kernel
theorem dX7_highest_27 : decode cX7_highest 27 = .ok (.aload_n 0, 1) := by decide +kernel
theorem dX7_highest_28 : decode cX7_highest 28 = .ok (.getfield 10, 3) := by decide +kernel
theorem dX7_highest_31 : decode cX7_highest 31 = .ok (.getfield 93, 3) := by decide +kernel
theorem dX7_highest_34 : decode cX7_highest 34 = .ok (.if_icmp .ge 54, 3) := by decide +kernel
theorem dX7_highest_37 : decode cX7_highest 37 = .ok (.iload_n 2, 1) := by decide +kernel
theorem dX7_highest_38 : decode cX7_highest 38 = .ok (.bipush (-3), 2) := by decide +kernel
theorem dX7_highest_40 : decode cX7_highest 40 = .ok (.if_icmp .eq 40, 3) := by decide +kernel
theorem dX7_highest_43 : decode cX7_highest 43 = .ok (.aload_n 0, 1) := by decide +kernel
theorem dX7_highest_44 : decode cX7_highest 44 = .ok (.getfield 38, 3) := by decide +kernel
theorem dX7_highest_47 : decode cX7_highest 47 = .ok (.getfield 167, 3) := by decide +kernel
theorem dX7_highest_50 : decode cX7_highest 50 = .ok (.iload_n 3, 1) := by decide +kernel
theorem dX7_highest_51 : decode cX7_highest 51 = .ok (.aaload, 1) := by decide +kernel
theorem dX7_highest_52 : decode cX7_highest 52 = .ok (.aload_n 0, 1) := by decide +kernel
theorem dX7_highest_53 : decode cX7_highest 53 = .ok (.getfield 38, 3) := by decide +kernel
theorem dX7_highest_56 : decode cX7_highest 56 = .ok (.getfield 170, 3) := by decide +kernel
theorem dX7_highest_59 : decode cX7_highest 59 = .ok (.iaload, 1) := by decide +kernel
theorem dX7_highest_60 : decode cX7_highest 60 = .ok (.aload_n 0, 1) := by decide +kernel
theorem dX7_highest_61 : decode cX7_highest 61 = .ok (.getfield 38, 3) := by decide +kernel
theorem dX7_highest_64 : decode cX7_highest 64 = .ok (.getfield 167, 3) := by decide +kernel
theorem dX7_highest_67 : decode cX7_highest 67 = .ok (.iload_n 2, 1) := by decide +kernel
theorem dX7_highest_68 : decode cX7_highest 68 = .ok (.aaload, 1) := by decide +kernel
theorem dX7_highest_69 : decode cX7_highest 69 = .ok (.aload_n 0, 1) := by decide +kernel
theorem dX7_highest_70 : decode cX7_highest 70 = .ok (.getfield 38, 3) := by decide +kernel
theorem dX7_highest_73 : decode cX7_highest 73 = .ok (.getfield 170, 3) := by decide +kernel
theorem dX7_highest_76 : decode cX7_highest 76 = .ok (.iaload, 1) := by decide +kernel
theorem dX7_highest_77 : decode cX7_highest 77 = .ok (.if_icmp .le 5, 3) := by decide +kernel
theorem dX7_highest_80 : decode cX7_highest 80 = .ok (.iload_n 3, 1) := by decide +kernel
theorem dX7_highest_81 : decode cX7_highest 81 = .ok (.istore_n 2, 1) := by decide +kernel
theorem dX7_highest_82 : decode cX7_highest 82 = .ok (.iinc 3 1, 3) := by decide +kernel
theorem dX7_highest_85 : decode cX7_highest 85 = .ok (.goto (-59), 3) := by decide +kernel
theorem dX7_highest_88 : decode cX7_highest 88 = .ok (.iload_n 2, 1) := by decide +kernel
theorem dX7_highest_89 : decode cX7_highest 89 = .ok (.ireturn, 1) := by decide +kernel
theorem dX7_seed_0 : decode cX7_seed 0 = .ok (.aload_n 0, 1) := by decide +kernel
theorem dX7_seed_1 : decode cX7_seed 1 = .ok (.getfield 10, 3) := by decide +kernel
theorem dX7_seed_4 : decode cX7_seed 4 = .ok (.getfield 87, 3) := by decide +kernel
theorem dX7_seed_7 : decode cX7_seed 7 = .ok (.istore_n 2, 1) := by decide +kernel
theorem dX7_seed_8 : decode cX7_seed 8 = .ok (.aload_n 0, 1) := by decide +kernel
theorem dX7_seed_9 : decode cX7_seed 9 = .ok (.getfield 10, 3) := by decide +kernel
theorem dX7_seed_12 : decode cX7_seed 12 = .ok (.iload_n 1, 1) := by decide +kernel
theorem dX7_seed_13 : decode cX7_seed 13 = .ok (.putfield 87, 3) := by decide +kernel
theorem dX7_seed_16 : decode cX7_seed 16 = .ok (.iload_n 2, 1) := by decide +kernel
theorem dX7_seed_17 : decode cX7_seed 17 = .ok (.ireturn, 1) := by decide +kernel
theorem dX7_draw_0 : decode cX7_draw 0 = .ok (.iload_n 1, 1) := by decide +kernel
theorem dX7_draw_1 : decode cX7_draw 1 = .ok (.invokestatic 96, 3) := by decide +kernel
theorem dX7_draw_4 : decode cX7_draw 4 = .ok (.ifCond .ne 5, 3) := by decide +kernel
theorem dX7_draw_7 : decode cX7_draw 7 = .ok (.iconst (-1), 1) := by decide +kernel
theorem dX7_draw_8 : decode cX7_draw 8 = .ok (.ireturn, 1) := by decide +kernel
theorem dX7_draw_9 : decode cX7_draw 9 = .ok (.aload_n 0, 1) := by decide +kernel
theorem dX7_draw_10 : decode cX7_draw 10 = .ok (.getfield 10, 3) := by decide +kernel
theorem dX7_draw_13 : decode cX7_draw 13 = .ok (.aload_n 0, 1) := by decide +kernel
theorem dX7_draw_14 : decode cX7_draw 14 = .ok (.getfield 10, 3) := by decide +kernel
theorem dX7_draw_17 : decode cX7_draw 17 = .ok (.getfield 87, 3) := by decide +kernel
theorem dX7_draw_20 : decode cX7_draw 20 = .ok (.ldc 196, 2) := by decide +kernel
theorem dX7_draw_22 : decode cX7_draw 22 = .ok (.imul, 1) := by decide +kernel
theorem dX7_draw_23 : decode cX7_draw 23 = .ok (.sipush 12345, 3) := by decide +kernel
theorem dX7_draw_26 : decode cX7_draw 26 = .ok (.iadd, 1) := by decide +kernel
theorem dX7_draw_27 : decode cX7_draw 27 = .ok (.putfield 87, 3) := by decide +kernel
theorem dX7_draw_30 : decode cX7_draw 30 = .ok (.aload_n 0, 1) := by decide +kernel
theorem dX7_draw_31 : decode cX7_draw 31 = .ok (.getfield 10, 3) := by decide +kernel
theorem dX7_draw_34 : decode cX7_draw 34 = .ok (.getfield 100, 3) := by decide +kernel
theorem dX7_draw_37 : decode cX7_draw 37 = .ok (.iload_n 1, 1) := by decide +kernel
theorem dX7_draw_38 : decode cX7_draw 38 = .ok (.aload_n 0, 1) := by decide +kernel
theorem dX7_draw_39 : decode cX7_draw 39 = .ok (.getfield 10, 3) := by decide +kernel
theorem dX7_draw_42 : decode cX7_draw 42 = .ok (.getfield 87, 3) := by decide +kernel
theorem dX7_draw_45 : decode cX7_draw 45 = .ok (.bipush 16, 2) := by decide +kernel
theorem dX7_draw_47 : decode cX7_draw 47 = .ok (.iushr, 1) := by decide +kernel
theorem dX7_draw_48 : decode cX7_draw 48 = .ok (.bipush 61, 2) := by decide +kernel
theorem dX7_draw_50 : decode cX7_draw 50 = .ok (.irem, 1) := by decide +kernel
theorem dX7_draw_51 : decode cX7_draw 51 = .ok (.bipush (-20), 2) := by decide +kernel
theorem dX7_draw_53 : decode cX7_draw 53 = .ok (.iadd, 1) := by decide +kernel
theorem dX7_draw_54 : decode cX7_draw 54 = .ok (.iastore, 1) := by decide +kernel
theorem dX7_draw_55 : decode cX7_draw 55 = .ok (.aload_n 0, 1) := by decide +kernel
theorem dX7_draw_56 : decode cX7_draw 56 = .ok (.getfield 10, 3) := by decide +kernel
theorem dX7_draw_59 : decode cX7_draw 59 = .ok (.getfield 100, 3) := by decide +kernel
theorem dX7_draw_62 : decode cX7_draw 62 = .ok (.iload_n 1, 1) := by decide +kernel
theorem dX7_draw_63 : decode cX7_draw 63 = .ok (.iaload, 1) := by decide +kernel
theorem dX7_draw_64 : decode cX7_draw 64 = .ok (.bipush 100, 2) := by decide +kernel
theorem dX7_draw_66 : decode cX7_draw 66 = .ok (.iadd, 1) := by decide +kernel
theorem dX7_draw_67 : decode cX7_draw 67 = .ok (.ireturn, 1) := by decide +kernel
theorem dX7_prove_0 : decode cX7_prove 0 = .ok (.aload_n 0, 1) := by decide +kernel
theorem dX7_prove_1 : decode cX7_prove 1 = .ok (.getfield 10, 3) := by decide +kernel
theorem dX7_prove_4 : decode cX7_prove 4 = .ok (.iload_n 1, 1) := by decide +kernel
theorem dX7_prove_5 : decode cX7_prove 5 = .ok (.invokevirtual 115, 3) := by decide +kernel
theorem dX7_prove_8 : decode cX7_prove 8 = .ok (.ifCond .eq 13, 3) := by decide +kernel
theorem dX7_prove_11 : decode cX7_prove 11 = .ok (.iload_n 2, 1) := by decide +kernel
theorem dX7_prove_12 : decode cX7_prove 12 = .ok (.iconst 1, 1) := by decide +kernel
theorem dX7_prove_13 : decode cX7_prove 13 = .ok (.bipush 20, 2) := by decide +kernel
theorem dX7_prove_15 : decode cX7_prove 15 = .ok (.invokestatic 72, 3) := by decide +kernel
theorem dX7_prove_18 : decode cX7_prove 18 = .ok (.ifCond .ne 5, 3) := by decide +kernel
theorem dX7_prove_21 : decode cX7_prove 21 = .ok (.iconst (-1), 1) := by decide +kernel
theorem dX7_prove_22 : decode cX7_prove 22 = .ok (.ireturn, 1) := by decide +kernel
theorem dX7_prove_23 : decode cX7_prove 23 = .ok (.aload_n 0, 1) := by decide +kernel
theorem dX7_prove_24 : decode cX7_prove 24 = .ok (.getfield 38, 3) := by decide +kernel
theorem dX7_prove_27 : decode cX7_prove 27 = .ok (.iload_n 2, 1) := by decide +kernel
theorem dX7_prove_28 : decode cX7_prove 28 = .ok (.iconst 0, 1) := by decide +kernel
theorem dX7_prove_29 : decode cX7_prove 29 = .ok (.invokevirtual 163, 3) := by decide +kernel
theorem dX7_prove_32 : decode cX7_prove 32 = .ok (.aload_n 0, 1) := by decide +kernel
theorem dX7_prove_33 : decode cX7_prove 33 = .ok (.aload_n 0, 1) := by decide +kernel
theorem dX7_prove_34 : decode cX7_prove 34 = .ok (.getfield 38, 3) := by decide +kernel
theorem dX7_prove_37 : decode cX7_prove 37 = .ok (.getfield 170, 3) := by decide +kernel
theorem dX7_prove_40 : decode cX7_prove 40 = .ok (.putfield 47, 3) := by decide +kernel
theorem dX7_prove_43 : decode cX7_prove 43 = .ok (.iconst 0, 1) := by decide +kernel
theorem dX7_prove_44 : decode cX7_prove 44 = .ok (.istore_n 3, 1) := by decide +kernel
theorem dX7_prove_45 : decode cX7_prove 45 = .ok (.iload_n 3, 1) := by decide +kernel
theorem dX7_prove_46 : decode cX7_prove 46 = .ok (.aload_n 0, 1) := by decide +kernel
theorem dX7_prove_47 : decode cX7_prove 47 = .ok (.getfield 47, 3) := by decide +kernel
theorem dX7_prove_50 : decode cX7_prove 50 = .ok (.if_icmp .ge 46, 3) := by decide +kernel
theorem dX7_prove_53 : decode cX7_prove 53 = .ok (.iconst 0, 1) := by decide +kernel
theorem dX7_prove_54 : decode cX7_prove 54 = .ok (.istore 4, 2) := by decide +kernel
theorem dX7_prove_56 : decode cX7_prove 56 = .ok (.iload 4, 2) := by decide +kernel
theorem dX7_prove_58 : decode cX7_prove 58 = .ok (.iconst 3, 1) := by decide +kernel
theorem dX7_prove_59 : decode cX7_prove 59 = .ok (.if_icmp .ge 31, 3) := by decide +kernel
theorem dX7_prove_62 : decode cX7_prove 62 = .ok (.aload_n 0, 1) := by decide +kernel
theorem dX7_prove_63 : decode cX7_prove 63 = .ok (.getfield 44, 3) := by decide +kernel
theorem dX7_prove_66 : decode cX7_prove 66 = .ok (.iload_n 3, 1) := by decide +kernel
theorem dX7_prove_67 : decode cX7_prove 67 = .ok (.aaload, 1) := by decide +kernel
theorem dX7_prove_68 : decode cX7_prove 68 = .ok (.iload 4, 2) := by decide +kernel
theorem dX7_prove_70 : decode cX7_prove 70 = .ok (.aload_n 0, 1) := by decide +kernel
theorem dX7_prove_71 : decode cX7_prove 71 = .ok (.getfield 38, 3) := by decide +kernel
theorem dX7_prove_74 : decode cX7_prove 74 = .ok (.iload_n 1, 1) := by decide +kernel
theorem dX7_prove_75 : decode cX7_prove 75 = .ok (.iload_n 3, 1) := by decide +kernel
theorem dX7_prove_76 : decode cX7_prove 76 = .ok (.iconst 1, 1) := by decide +kernel
theorem dX7_prove_77 : decode cX7_prove 77 = .ok (.iadd, 1) := by decide +kernel
theorem dX7_prove_78 : decode cX7_prove 78 = .ok (.iload 4, 2) := by decide +kernel
theorem dX7_prove_80 : decode cX7_prove 80 = .ok (.invokevirtual 197, 3) := by decide +kernel
theorem dX7_prove_83 : decode cX7_prove 83 = .ok (.iastore, 1) := by decide +kernel
theorem dX7_prove_84 : decode cX7_prove 84 = .ok (.iinc 4 1, 3) := by decide +kernel
theorem dX7_prove_87 : decode cX7_prove 87 = .ok (.goto (-31), 3) := by decide +kernel
theorem dX7_prove_90 : decode cX7_prove 90 = .ok (.iinc 3 1, 3) := by decide +kernel
theorem dX7_prove_93 : decode cX7_prove 93 = .ok (.goto (-48), 3) := by decide +kernel
theorem dX7_prove_96 : decode cX7_prove 96 = .ok (.aload_n 0, 1) := by decide +kernel
theorem dX7_prove_97 : decode cX7_prove 97 = .ok (.getfield 47, 3) := by decide +kernel
theorem dX7_prove_100 : decode cX7_prove 100 = .ok (.ireturn, 1) := by decide +kernel
theorem dX7_row_0 : decode cX7_row 0 = .ok (.aload_n 0, 1) := by decide +kernel
theorem dX7_row_1 : decode cX7_row 1 = .ok (.iload_n 1, 1) := by decide +kernel
theorem dX7_row_2 : decode cX7_row 2 = .ok (.iload_n 2, 1) := by decide +kernel
theorem dX7_row_3 : decode cX7_row 3 = .ok (.invokevirtual 200, 3) := by decide +kernel
theorem dX7_row_6 : decode cX7_row 6 = .ok (.ifCond .eq 14, 3) := by decide +kernel
theorem dX7_row_9 : decode cX7_row 9 = .ok (.aload_n 0, 1) := by decide +kernel
theorem dX7_row_10 : decode cX7_row 10 = .ok (.getfield 44, 3) := by decide +kernel
theorem dX7_row_13 : decode cX7_row 13 = .ok (.iload_n 1, 1) := by decide +kernel
theorem dX7_row_14 : decode cX7_row 14 = .ok (.aaload, 1) := by decide +kernel
theorem dX7_row_15 : decode cX7_row 15 = .ok (.iload_n 2, 1) := by decide +kernel
theorem dX7_row_16 : decode cX7_row 16 = .ok (.iaload, 1) := by decide +kernel
theorem dX7_row_17 : decode cX7_row 17 = .ok (.goto 5, 3) := by decide +kernel
theorem dX7_row_20 : decode cX7_row 20 = .ok (.bipush (-9), 2) := by decide +kernel
theorem dX7_row_22 : decode cX7_row 22 = .ok (.ireturn, 1) := by decide +kernel
theorem dX7_alterRow_0 : decode cX7_alterRow 0 = .ok (.aload_n 0, 1) := by decide +kernel
theorem dX7_alterRow_1 : decode cX7_alterRow 1 = .ok (.iload_n 1, 1) := by decide +kernel
theorem dX7_alterRow_2 : decode cX7_alterRow 2 = .ok (.iload_n 2, 1) := by decide +kernel
theorem dX7_alterRow_3 : decode cX7_alterRow 3 = .ok (.invokevirtual 200, 3) := by decide +kernel
theorem dX7_alterRow_6 : decode cX7_alterRow 6 = .ok (.ifCond .ne 6, 3) := by decide +kernel
theorem dX7_alterRow_9 : decode cX7_alterRow 9 = .ok (.bipush (-9), 2) := by decide +kernel
theorem dX7_alterRow_11 : decode cX7_alterRow 11 = .ok (.ireturn, 1) := by decide +kernel
theorem dX7_alterRow_12 : decode cX7_alterRow 12 = .ok (.aload_n 0, 1) := by decide +kernel
theorem dX7_alterRow_13 : decode cX7_alterRow 13 = .ok (.getfield 44, 3) := by decide +kernel
theorem dX7_alterRow_16 : decode cX7_alterRow 16 = .ok (.iload_n 1, 1) := by decide +kernel
theorem dX7_alterRow_17 : decode cX7_alterRow 17 = .ok (.aaload, 1) := by decide +kernel
theorem dX7_alterRow_18 : decode cX7_alterRow 18 = .ok (.iload_n 2, 1) := by decide +kernel
theorem dX7_alterRow_19 : decode cX7_alterRow 19 = .ok (.iaload, 1) := by decide +kernel
theorem dX7_alterRow_20 : decode cX7_alterRow 20 = .ok (.istore 4, 2) := by decide +kernel
theorem dX7_alterRow_22 : decode cX7_alterRow 22 = .ok (.aload_n 0, 1) := by decide +kernel
theorem dX7_alterRow_23 : decode cX7_alterRow 23 = .ok (.getfield 44, 3) := by decide +kernel
theorem dX7_alterRow_26 : decode cX7_alterRow 26 = .ok (.iload_n 1, 1) := by decide +kernel
theorem dX7_alterRow_27 : decode cX7_alterRow 27 = .ok (.aaload, 1) := by decide +kernel
theorem dX7_alterRow_28 : decode cX7_alterRow 28 = .ok (.iload_n 2, 1) := by decide +kernel
theorem dX7_alterRow_29 : decode cX7_alterRow 29 = .ok (.iload_n 3, 1) := by decide +kernel
theorem dX7_alterRow_30 : decode cX7_alterRow 30 = .ok (.iastore, 1) := by decide +kernel
theorem dX7_alterRow_31 : decode cX7_alterRow 31 = .ok (.iload 4, 2) := by decide +kernel
theorem dX7_alterRow_33 : decode cX7_alterRow 33 = .ok (.ireturn, 1) := by decide +kernel
theorem dX7_judge_0 : decode cX7_judge 0 = .ok (.aload_n 0, 1) := by decide +kernel
theorem dX7_judge_1 : decode cX7_judge 1 = .ok (.getfield 10, 3) := by decide +kernel
theorem dX7_judge_4 : decode cX7_judge 4 = .ok (.iload_n 1, 1) := by decide +kernel
theorem dX7_judge_5 : decode cX7_judge 5 = .ok (.invokevirtual 115, 3) := by decide +kernel
theorem dX7_judge_8 : decode cX7_judge 8 = .ok (.ifCond .ne 5, 3) := by decide +kernel
theorem dX7_judge_11 : decode cX7_judge 11 = .ok (.iconst (-1), 1) := by decide +kernel
theorem dX7_judge_12 : decode cX7_judge 12 = .ok (.ireturn, 1) := by decide +kernel
theorem dX7_judge_13 : decode cX7_judge 13 = .ok (.aload_n 0, 1) := by decide +kernel
theorem dX7_judge_14 : decode cX7_judge 14 = .ok (.getfield 38, 3) := by decide +kernel
theorem dX7_judge_17 : decode cX7_judge 17 = .ok (.aload_n 0, 1) := by decide +kernel
theorem dX7_judge_18 : decode cX7_judge 18 = .ok (.getfield 47, 3) := by decide +kernel
theorem dX7_judge_21 : decode cX7_judge 21 = .ok (.iconst 0, 1) := by decide +kernel
theorem dX7_judge_22 : decode cX7_judge 22 = .ok (.invokevirtual 163, 3) := by decide +kernel
theorem dX7_judge_25 : decode cX7_judge 25 = .ok (.iconst 0, 1) := by decide +kernel
theorem dX7_judge_26 : decode cX7_judge 26 = .ok (.istore_n 2, 1) := by decide +kernel
theorem dX7_judge_27 : decode cX7_judge 27 = .ok (.iload_n 2, 1) := by decide +kernel
theorem dX7_judge_28 : decode cX7_judge 28 = .ok (.aload_n 0, 1) := by decide +kernel
theorem dX7_judge_29 : decode cX7_judge 29 = .ok (.getfield 47, 3) := by decide +kernel
theorem dX7_judge_32 : decode cX7_judge 32 = .ok (.if_icmp .ge 35, 3) := by decide +kernel
theorem dX7_judge_35 : decode cX7_judge 35 = .ok (.iload_n 2, 1) := by decide +kernel
theorem dX7_judge_36 : decode cX7_judge 36 = .ok (.iconst 1, 1) := by decide +kernel
theorem dX7_judge_37 : decode cX7_judge 37 = .ok (.iadd, 1) := by decide +kernel
theorem dX7_judge_38 : decode cX7_judge 38 = .ok (.aload_n 0, 1) := by decide +kernel
theorem dX7_judge_39 : decode cX7_judge 39 = .ok (.getfield 38, 3) := by decide +kernel
theorem dX7_judge_42 : decode cX7_judge 42 = .ok (.getfield 170, 3) := by decide +kernel
theorem dX7_judge_45 : decode cX7_judge 45 = .ok (.if_icmp .gt 12, 3) := by decide +kernel
theorem dX7_judge_48 : decode cX7_judge 48 = .ok (.aload_n 0, 1) := by decide +kernel
theorem dX7_judge_49 : decode cX7_judge 49 = .ok (.iload_n 1, 1) := by decide +kernel
theorem dX7_judge_50 : decode cX7_judge 50 = .ok (.iload_n 2, 1) := by decide +kernel
theorem dX7_judge_51 : decode cX7_judge 51 = .ok (.invokevirtual 203, 3) := by decide +kernel
theorem dX7_judge_54 : decode cX7_judge 54 = .ok (.ifCond .ne 7, 3) := by decide +kernel
theorem dX7_judge_57 : decode cX7_judge 57 = .ok (.iload_n 2, 1) := by decide +kernel
theorem dX7_judge_58 : decode cX7_judge 58 = .ok (.iconst 1, 1) := by decide +kernel
theorem dX7_judge_59 : decode cX7_judge 59 = .ok (.iadd, 1) := by decide +kernel
theorem dX7_judge_60 : decode cX7_judge 60 = .ok (.ireturn, 1) := by decide +kernel
theorem dX7_judge_61 : decode cX7_judge 61 = .ok (.iinc 2 1, 3) := by decide +kernel
theorem dX7_judge_64 : decode cX7_judge 64 = .ok (.goto (-37), 3) := by decide +kernel
theorem dX7_judge_67 : decode cX7_judge 67 = .ok (.iconst 0, 1) := by decide +kernel
theorem dX7_judge_68 : decode cX7_judge 68 = .ok (.ireturn, 1) := by decide +kernel
theorem dX7_warms_0 : decode cX7_warms 0 = .ok (.iload_n 1, 1) := by decide +kernel
theorem dX7_warms_1 : decode cX7_warms 1 = .ok (.invokestatic 206, 3) := by decide +kernel
theorem dX7_warms_4 : decode cX7_warms 4 = .ok (.ifCond .eq 23, 3) := by decide +kernel
theorem dX7_warms_7 : decode cX7_warms 7 = .ok (.iload_n 3, 1) := by decide +kernel
theorem dX7_warms_8 : decode cX7_warms 8 = .ok (.invokestatic 96, 3) := by decide +kernel
theorem dX7_warms_11 : decode cX7_warms 11 = .ok (.ifCond .eq 16, 3) := by decide +kernel
theorem dX7_warms_14 : decode cX7_warms 14 = .ok (.iload 4, 2) := by decide +kernel
theorem dX7_warms_16 : decode cX7_warms 16 = .ok (.iconst 0, 1) := by decide +kernel
theorem dX7_warms_17 : decode cX7_warms 17 = .ok (.bipush 24, 2) := by decide +kernel
theorem dX7_warms_19 : decode cX7_warms 19 = .ok (.iload_n 3, 1) := by decide +kernel
theorem dX7_warms_20 : decode cX7_warms 20 = .ok (.isub, 1) := by decide +kernel
theorem dX7_warms_21 : decode cX7_warms 21 = .ok (.invokestatic 72, 3) := by decide +kernel
theorem dX7_warms_24 : decode cX7_warms 24 = .ok (.ifCond .ne 5, 3) := by decide +kernel
theorem dX7_warms_27 : decode cX7_warms 27 = .ok (.iconst (-1), 1) := by decide +kernel
theorem dX7_warms_28 : decode cX7_warms 28 = .ok (.ireturn, 1) := by decide +kernel
theorem dX7_warms_29 : decode cX7_warms 29 = .ok (.aload_n 0, 1) := by decide +kernel
theorem dX7_warms_30 : decode cX7_warms 30 = .ok (.getfield 53, 3) := by decide +kernel
theorem dX7_warms_33 : decode cX7_warms 33 = .ok (.iload_n 1, 1) := by decide +kernel
theorem dX7_warms_34 : decode cX7_warms 34 = .ok (.aaload, 1) := by decide +kernel
theorem dX7_warms_35 : decode cX7_warms 35 = .ok (.astore 5, 2) := by decide +kernel
theorem dX7_warms_37 : decode cX7_warms 37 = .ok (.aload 5, 2) := by decide +kernel
theorem dX7_warms_39 : decode cX7_warms 39 = .ok (.getfield 209, 3) := by decide +kernel
theorem dX7_warms_42 : decode cX7_warms 42 = .ok (.iconst (-1), 1) := by decide +kernel
theorem dX7_warms_43 : decode cX7_warms 43 = .ok (.if_icmp .ne 6, 3) := by decide +kernel
theorem dX7_warms_46 : decode cX7_warms 46 = .ok (.bipush (-11), 2) := by decide +kernel
theorem dX7_warms_48 : decode cX7_warms 48 = .ok (.ireturn, 1) := by decide +kernel
theorem dX7_warms_49 : decode cX7_warms 49 = .ok (.aload 5, 2) := by decide +kernel
theorem dX7_warms_51 : decode cX7_warms 51 = .ok (.getfield 209, 3) := by decide +kernel
theorem dX7_warms_54 : decode cX7_warms 54 = .ok (.ifCond .eq 6, 3) := by decide +kernel
theorem dX7_warms_57 : decode cX7_warms 57 = .ok (.bipush (-13), 2) := by decide +kernel
theorem dX7_warms_59 : decode cX7_warms 59 = .ok (.ireturn, 1) := by decide +kernel
theorem dX7_warms_60 : decode cX7_warms 60 = .ok (.iload_n 2, 1) := by decide +kernel
theorem dX7_warms_61 : decode cX7_warms 61 = .ok (.ifCond .lt 15, 3) := by decide +kernel
theorem dX7_warms_64 : decode cX7_warms 64 = .ok (.iload_n 2, 1) := by decide +kernel
theorem dX7_warms_65 : decode cX7_warms 65 = .ok (.aload 5, 2) := by decide +kernel
theorem dX7_warms_67 : decode cX7_warms 67 = .ok (.getfield 212, 3) := by decide +kernel
theorem dX7_warms_70 : decode cX7_warms 70 = .ok (.iload 4, 2) := by decide +kernel
theorem dX7_warms_72 : decode cX7_warms 72 = .ok (.isub, 1) := by decide +kernel
theorem dX7_warms_73 : decode cX7_warms 73 = .ok (.if_icmp .le 6, 3) := by decide +kernel
theorem dX7_warms_76 : decode cX7_warms 76 = .ok (.bipush (-12), 2) := by decide +kernel
theorem dX7_warms_78 : decode cX7_warms 78 = .ok (.ireturn, 1) := by decide +kernel
theorem dX7_warms_79 : decode cX7_warms 79 = .ok (.iconst 0, 1) := by decide +kernel
theorem dX7_warms_80 : decode cX7_warms 80 = .ok (.istore 6, 2) := by decide +kernel
theorem dX7_warms_82 : decode cX7_warms 82 = .ok (.iload 6, 2) := by decide +kernel
theorem dX7_warms_84 : decode cX7_warms 84 = .ok (.iload 4, 2) := by decide +kernel
theorem dX7_warms_86 : decode cX7_warms 86 = .ok (.if_icmp .ge 38, 3) := by decide +kernel
theorem dX7_warms_89 : decode cX7_warms 89 = .ok (.aload_n 0, 1) := by decide +kernel
theorem dX7_warms_90 : decode cX7_warms 90 = .ok (.getfield 10, 3) := by decide +kernel
theorem dX7_warms_93 : decode cX7_warms 93 = .ok (.getfield 100, 3) := by decide +kernel
theorem dX7_warms_96 : decode cX7_warms 96 = .ok (.iload_n 3, 1) := by decide +kernel
theorem dX7_warms_97 : decode cX7_warms 97 = .ok (.iload 6, 2) := by decide +kernel
theorem dX7_warms_99 : decode cX7_warms 99 = .ok (.iadd, 1) := by decide +kernel
theorem dX7_warms_100 : decode cX7_warms 100 = .ok (.aload 5, 2) := by decide +kernel
theorem dX7_warms_102 : decode cX7_warms 102 = .ok (.getfield 215, 3) := by decide +kernel
theorem dX7_warms_105 : decode cX7_warms 105 = .ok (.iload_n 2, 1) := by decide +kernel
theorem dX7_warms_106 : decode cX7_warms 106 = .ok (.iload 6, 2) := by decide +kernel
theorem dX7_warms_108 : decode cX7_warms 108 = .ok (.iadd, 1) := by decide +kernel
theorem dX7_warms_109 : decode cX7_warms 109 = .ok (.iaload, 1) := by decide +kernel
theorem dX7_warms_110 : decode cX7_warms 110 = .ok (.bipush (-20), 2) := by decide +kernel
theorem dX7_warms_112 : decode cX7_warms 112 = .ok (.bipush 40, 2) := by decide +kernel
theorem dX7_warms_114 : decode cX7_warms 114 = .ok (.invokestatic 218, 3) := by decide +kernel
theorem dX7_warms_117 : decode cX7_warms 117 = .ok (.iastore, 1) := by decide +kernel
theorem dX7_warms_118 : decode cX7_warms 118 = .ok (.iinc 6 1, 3) := by decide +kernel
theorem dX7_warms_121 : decode cX7_warms 121 = .ok (.goto (-39), 3) := by decide +kernel
theorem dX7_warms_124 : decode cX7_warms 124 = .ok (.iload 4, 2) := by decide +kernel
theorem dX7_warms_126 : decode cX7_warms 126 = .ok (.ireturn, 1) := by decide +kernel
theorem dX7_sheet_0 : decode cX7_sheet 0 = .ok (.iload_n 1, 1) := by decide +kernel
theorem dX7_sheet_1 : decode cX7_sheet 1 = .ok (.invokestatic 206, 3) := by decide +kernel
theorem dX7_sheet_4 : decode cX7_sheet 4 = .ok (.ifCond .eq 12, 3) := by decide +kernel
theorem dX7_sheet_7 : decode cX7_sheet 7 = .ok (.iload_n 2, 1) := by decide +kernel
theorem dX7_sheet_8 : decode cX7_sheet 8 = .ok (.iconst (-1), 1) := by decide +kernel
theorem dX7_sheet_9 : decode cX7_sheet 9 = .ok (.iconst 3, 1) := by decide +kernel
theorem dX7_sheet_10 : decode cX7_sheet 10 = .ok (.invokestatic 72, 3) := by decide +kernel
theorem dX7_sheet_13 : decode cX7_sheet 13 = .ok (.ifCond .ne 5, 3) := by decide +kernel
theorem dX7_sheet_16 : decode cX7_sheet 16 = .ok (.iconst (-1), 1) := by decide +kernel
theorem dX7_sheet_17 : decode cX7_sheet 17 = .ok (.ireturn, 1) := by decide +kernel
theorem dX7_sheet_18 : decode cX7_sheet 18 = .ok (.iload_n 2, 1) := by decide +kernel
theorem dX7_sheet_19 : decode cX7_sheet 19 = .ok (.iconst (-1), 1) := by decide +kernel
theorem dX7_sheet_20 : decode cX7_sheet 20 = .ok (.if_icmp .ne 16, 3) := by decide +kernel
theorem dX7_sheet_23 : decode cX7_sheet 23 = .ok (.aload_n 0, 1) := by decide +kernel
theorem dX7_sheet_24 : decode cX7_sheet 24 = .ok (.getfield 53, 3) := by decide +kernel
theorem dX7_sheet_27 : decode cX7_sheet 27 = .ok (.iload_n 1, 1) := by decide +kernel
theorem dX7_sheet_28 : decode cX7_sheet 28 = .ok (.aaload, 1) := by decide +kernel
theorem dX7_sheet_29 : decode cX7_sheet 29 = .ok (.iconst (-1), 1) := by decide +kernel
theorem dX7_sheet_30 : decode cX7_sheet 30 = .ok (.iconst 0, 1) := by decide +kernel
theorem dX7_sheet_31 : decode cX7_sheet 31 = .ok (.invokevirtual 221, 3) := by decide +kernel
theorem dX7_sheet_34 : decode cX7_sheet 34 = .ok (.iconst 1, 1) := by decide +kernel
theorem dX7_sheet_35 : decode cX7_sheet 35 = .ok (.ireturn, 1) := by decide +kernel
theorem dX7_sheet_36 : decode cX7_sheet 36 = .ok (.iload_n 3, 1) := by decide +kernel
theorem dX7_sheet_37 : decode cX7_sheet 37 = .ok (.bipush 40, 2) := by decide +kernel
theorem dX7_sheet_39 : decode cX7_sheet 39 = .ok (.if_icmp .le 5, 3) := by decide +kernel
theorem dX7_sheet_42 : decode cX7_sheet 42 = .ok (.iconst (-1), 1) := by decide +kernel
theorem dX7_sheet_43 : decode cX7_sheet 43 = .ok (.ireturn, 1) := by decide +kernel
theorem dX7_sheet_44 : decode cX7_sheet 44 = .ok (.iload_n 3, 1) := by decide +kernel
theorem dX7_sheet_45 : decode cX7_sheet 45 = .ok (.ifCond .ge 6, 3) := by decide +kernel
theorem dX7_sheet_48 : decode cX7_sheet 48 = .ok (.bipush (-14), 2) := by decide +kernel
theorem dX7_sheet_50 : decode cX7_sheet 50 = .ok (.ireturn, 1) := by decide +kernel
theorem dX7_sheet_51 : decode cX7_sheet 51 = .ok (.aload_n 0, 1) := by decide +kernel
theorem dX7_sheet_52 : decode cX7_sheet 52 = .ok (.getfield 53, 3) := by decide +kernel
theorem dX7_sheet_55 : decode cX7_sheet 55 = .ok (.iload_n 1, 1) := by decide +kernel
theorem dX7_sheet_56 : decode cX7_sheet 56 = .ok (.aaload, 1) := by decide +kernel
theorem dX7_sheet_57 : decode cX7_sheet 57 = .ok (.iload_n 2, 1) := by decide +kernel
theorem dX7_sheet_58 : decode cX7_sheet 58 = .ok (.iload_n 3, 1) := by decide +kernel
theorem dX7_sheet_59 : decode cX7_sheet 59 = .ok (.invokevirtual 221, 3) := by decide +kernel
theorem dX7_sheet_62 : decode cX7_sheet 62 = .ok (.iconst 1, 1) := by decide +kernel
theorem dX7_sheet_63 : decode cX7_sheet 63 = .ok (.ireturn, 1) := by decide +kernel
theorem dX7_put_0 : decode cX7_put 0 = .ok (.iload_n 1, 1) := by decide +kernel
theorem dX7_put_1 : decode cX7_put 1 = .ok (.invokestatic 206, 3) := by decide +kernel
theorem dX7_put_4 : decode cX7_put 4 = .ok (.ifCond .ne 5, 3) := by decide +kernel
theorem dX7_put_7 : decode cX7_put 7 = .ok (.iconst (-1), 1) := by decide +kernel
theorem dX7_put_8 : decode cX7_put 8 = .ok (.ireturn, 1) := by decide +kernel
theorem dX7_put_9 : decode cX7_put 9 = .ok (.aload_n 0, 1) := by decide +kernel
theorem dX7_put_10 : decode cX7_put 10 = .ok (.getfield 53, 3) := by decide +kernel
theorem dX7_put_13 : decode cX7_put 13 = .ok (.iload_n 1, 1) := by decide +kernel
theorem dX7_put_14 : decode cX7_put 14 = .ok (.aaload, 1) := by decide +kernel
theorem dX7_put_15 : decode cX7_put 15 = .ok (.astore 4, 2) := by decide +kernel
theorem dX7_put_17 : decode cX7_put 17 = .ok (.aload 4, 2) := by decide +kernel
theorem dX7_put_19 : decode cX7_put 19 = .ok (.getfield 209, 3) := by decide +kernel
theorem dX7_put_22 : decode cX7_put 22 = .ok (.iconst (-1), 1) := by decide +kernel
theorem dX7_put_23 : decode cX7_put 23 = .ok (.if_icmp .ne 6, 3) := by decide +kernel
theorem dX7_put_26 : decode cX7_put 26 = .ok (.bipush (-11), 2) := by decide +kernel
theorem dX7_put_28 : decode cX7_put 28 = .ok (.ireturn, 1) := by decide +kernel
theorem dX7_put_29 : decode cX7_put 29 = .ok (.iload_n 2, 1) := by decide +kernel
theorem dX7_put_30 : decode cX7_put 30 = .ok (.iconst 0, 1) := by decide +kernel
theorem dX7_put_31 : decode cX7_put 31 = .ok (.aload 4, 2) := by decide +kernel
theorem dX7_put_33 : decode cX7_put 33 = .ok (.getfield 212, 3) := by decide +kernel
theorem dX7_put_36 : decode cX7_put 36 = .ok (.iconst 1, 1) := by decide +kernel
theorem dX7_put_37 : decode cX7_put 37 = .ok (.isub, 1) := by decide +kernel
theorem dX7_put_38 : decode cX7_put 38 = .ok (.invokestatic 72, 3) := by decide +kernel
theorem dX7_put_41 : decode cX7_put 41 = .ok (.ifCond .ne 6, 3) := by decide +kernel
theorem dX7_put_44 : decode cX7_put 44 = .ok (.bipush (-12), 2) := by decide +kernel
theorem dX7_put_46 : decode cX7_put 46 = .ok (.ireturn, 1) := by decide +kernel
theorem dX7_put_47 : decode cX7_put 47 = .ok (.aload 4, 2) := by decide +kernel
theorem dX7_put_49 : decode cX7_put 49 = .ok (.getfield 215, 3) := by decide +kernel
theorem dX7_put_52 : decode cX7_put 52 = .ok (.iload_n 2, 1) := by decide +kernel
theorem dX7_put_53 : decode cX7_put 53 = .ok (.aload 4, 2) := by decide +kernel
theorem dX7_put_55 : decode cX7_put 55 = .ok (.iload_n 3, 1) := by decide +kernel
theorem dX7_put_56 : decode cX7_put 56 = .ok (.invokevirtual 224, 3) := by decide +kernel
theorem dX7_put_59 : decode cX7_put 59 = .ok (.iastore, 1) := by decide +kernel
theorem dX7_put_60 : decode cX7_put 60 = .ok (.iconst 1, 1) := by decide +kernel
theorem dX7_put_61 : decode cX7_put 61 = .ok (.ireturn, 1) := by decide +kernel
theorem dX7_item_0 : decode cX7_item 0 = .ok (.iload_n 1, 1) := by decide +kernel
theorem dX7_item_1 : decode cX7_item 1 = .ok (.invokestatic 206, 3) := by decide +kernel
theorem dX7_item_4 : decode cX7_item 4 = .ok (.ifCond .eq 12, 3) := by decide +kernel
theorem dX7_item_7 : decode cX7_item 7 = .ok (.iload_n 2, 1) := by decide +kernel
theorem dX7_item_8 : decode cX7_item 8 = .ok (.iconst 0, 1) := by decide +kernel
theorem dX7_item_9 : decode cX7_item 9 = .ok (.iconst 3, 1) := by decide +kernel
theorem dX7_item_10 : decode cX7_item 10 = .ok (.invokestatic 72, 3) := by decide +kernel
theorem dX7_item_13 : decode cX7_item 13 = .ok (.ifCond .ne 5, 3) := by decide +kernel
theorem dX7_item_16 : decode cX7_item 16 = .ok (.iconst (-1), 1) := by decide +kernel
theorem dX7_item_17 : decode cX7_item 17 = .ok (.ireturn, 1) := by decide +kernel
theorem dX7_item_18 : decode cX7_item 18 = .ok (.aload_n 0, 1) := by decide +kernel
theorem dX7_item_19 : decode cX7_item 19 = .ok (.getfield 53, 3) := by decide +kernel
theorem dX7_item_22 : decode cX7_item 22 = .ok (.iload_n 1, 1) := by decide +kernel
theorem dX7_item_23 : decode cX7_item 23 = .ok (.aaload, 1) := by decide +kernel
theorem dX7_item_24 : decode cX7_item 24 = .ok (.astore 4, 2) := by decide +kernel
theorem dX7_item_26 : decode cX7_item 26 = .ok (.aload 4, 2) := by decide +kernel
theorem dX7_item_28 : decode cX7_item 28 = .ok (.getfield 209, 3) := by decide +kernel
theorem dX7_item_31 : decode cX7_item 31 = .ok (.iconst (-1), 1) := by decide +kernel
theorem dX7_item_32 : decode cX7_item 32 = .ok (.if_icmp .ne 6, 3) := by decide +kernel
theorem dX7_item_35 : decode cX7_item 35 = .ok (.bipush (-11), 2) := by decide +kernel
theorem dX7_item_37 : decode cX7_item 37 = .ok (.ireturn, 1) := by decide +kernel
theorem dX7_item_38 : decode cX7_item 38 = .ok (.aload 4, 2) := by decide +kernel
theorem dX7_item_40 : decode cX7_item 40 = .ok (.getfield 209, 3) := by decide +kernel
theorem dX7_item_43 : decode cX7_item 43 = .ok (.iload_n 2, 1) := by decide +kernel
theorem dX7_item_44 : decode cX7_item 44 = .ok (.if_icmp .eq 6, 3) := by decide +kernel
theorem dX7_item_47 : decode cX7_item 47 = .ok (.bipush (-13), 2) := by decide +kernel
theorem dX7_item_49 : decode cX7_item 49 = .ok (.ireturn, 1) := by decide +kernel
theorem dX7_item_50 : decode cX7_item 50 = .ok (.iload_n 3, 1) := by decide +kernel
theorem dX7_item_51 : decode cX7_item 51 = .ok (.iconst 0, 1) := by decide +kernel
theorem dX7_item_52 : decode cX7_item 52 = .ok (.aload 4, 2) := by decide +kernel
theorem dX7_item_54 : decode cX7_item 54 = .ok (.getfield 212, 3) := by decide +kernel
theorem dX7_item_57 : decode cX7_item 57 = .ok (.iconst 1, 1) := by decide +kernel
theorem dX7_item_58 : decode cX7_item 58 = .ok (.isub, 1) := by decide +kernel
theorem dX7_item_59 : decode cX7_item 59 = .ok (.invokestatic 72, 3) := by decide +kernel
theorem dX7_item_62 : decode cX7_item 62 = .ok (.ifCond .eq 13, 3) := by decide +kernel
theorem dX7_item_65 : decode cX7_item 65 = .ok (.aload 4, 2) := by decide +kernel
theorem dX7_item_67 : decode cX7_item 67 = .ok (.getfield 215, 3) := by decide +kernel
theorem dX7_item_70 : decode cX7_item 70 = .ok (.iload_n 3, 1) := by decide +kernel
theorem dX7_item_71 : decode cX7_item 71 = .ok (.iaload, 1) := by decide +kernel
theorem dX7_item_72 : decode cX7_item 72 = .ok (.goto 5, 3) := by decide +kernel
theorem dX7_item_75 : decode cX7_item 75 = .ok (.bipush (-12), 2) := by decide +kernel
theorem dX7_item_77 : decode cX7_item 77 = .ok (.ireturn, 1) := by decide +kernel
theorem dX7_shelf_0 : decode cX7_shelf 0 = .ok (.iload_n 1, 1) := by decide +kernel
theorem dX7_shelf_1 : decode cX7_shelf 1 = .ok (.invokestatic 227, 3) := by decide +kernel
theorem dX7_shelf_4 : decode cX7_shelf 4 = .ok (.ifCond .ne 5, 3) := by decide +kernel
theorem dX7_shelf_7 : decode cX7_shelf 7 = .ok (.iconst (-1), 1) := by decide +kernel
theorem dX7_shelf_8 : decode cX7_shelf 8 = .ok (.ireturn, 1) := by decide +kernel
theorem dX7_shelf_9 : decode cX7_shelf 9 = .ok (.iload_n 2, 1) := by decide +kernel
theorem dX7_shelf_10 : decode cX7_shelf 10 = .ok (.tableswitch 89 0 2 #[26, 51, 77], 26) := by decide +kernel
theorem dX7_shelf_36 : decode cX7_shelf 36 = .ok (.aload_n 0, 1) := by decide +kernel
theorem dX7_shelf_37 : decode cX7_shelf 37 = .ok (.getfield 10, 3) := by decide +kernel
theorem dX7_shelf_40 : decode cX7_shelf 40 = .ok (.iload_n 3, 1) := by decide +kernel
theorem dX7_shelf_41 : decode cX7_shelf 41 = .ok (.invokevirtual 115, 3) := by decide +kernel
theorem dX7_shelf_44 : decode cX7_shelf 44 = .ok (.ifCond .ne 5, 3) := by decide +kernel
theorem dX7_shelf_47 : decode cX7_shelf 47 = .ok (.iconst (-1), 1) := by decide +kernel
theorem dX7_shelf_48 : decode cX7_shelf 48 = .ok (.ireturn, 1) := by decide +kernel
theorem dX7_shelf_49 : decode cX7_shelf 49 = .ok (.aload_n 0, 1) := by decide +kernel
theorem dX7_shelf_50 : decode cX7_shelf 50 = .ok (.getfield 59, 3) := by decide +kernel
theorem dX7_shelf_53 : decode cX7_shelf 53 = .ok (.iload_n 1, 1) := by decide +kernel
theorem dX7_shelf_54 : decode cX7_shelf 54 = .ok (.aaload, 1) := by decide +kernel
theorem dX7_shelf_55 : decode cX7_shelf 55 = .ok (.iload_n 3, 1) := by decide +kernel
theorem dX7_shelf_56 : decode cX7_shelf 56 = .ok (.invokevirtual 230, 3) := by decide +kernel
theorem dX7_shelf_59 : decode cX7_shelf 59 = .ok (.iconst 1, 1) := by decide +kernel
theorem dX7_shelf_60 : decode cX7_shelf 60 = .ok (.ireturn, 1) := by decide +kernel
theorem dX7_shelf_61 : decode cX7_shelf 61 = .ok (.iload_n 3, 1) := by decide +kernel
theorem dX7_shelf_62 : decode cX7_shelf 62 = .ok (.invokestatic 206, 3) := by decide +kernel
theorem dX7_shelf_65 : decode cX7_shelf 65 = .ok (.ifCond .ne 5, 3) := by decide +kernel
theorem dX7_shelf_68 : decode cX7_shelf 68 = .ok (.iconst (-1), 1) := by decide +kernel
theorem dX7_shelf_69 : decode cX7_shelf 69 = .ok (.ireturn, 1) := by decide +kernel
theorem dX7_shelf_70 : decode cX7_shelf 70 = .ok (.aload_n 0, 1) := by decide +kernel
theorem dX7_shelf_71 : decode cX7_shelf 71 = .ok (.getfield 59, 3) := by decide +kernel
theorem dX7_shelf_74 : decode cX7_shelf 74 = .ok (.iload_n 1, 1) := by decide +kernel
theorem dX7_shelf_75 : decode cX7_shelf 75 = .ok (.aaload, 1) := by decide +kernel
theorem dX7_shelf_76 : decode cX7_shelf 76 = .ok (.aload_n 0, 1) := by decide +kernel
theorem dX7_shelf_77 : decode cX7_shelf 77 = .ok (.getfield 53, 3) := by decide +kernel
theorem dX7_shelf_80 : decode cX7_shelf 80 = .ok (.iload_n 3, 1) := by decide +kernel
theorem dX7_shelf_81 : decode cX7_shelf 81 = .ok (.aaload, 1) := by decide +kernel
theorem dX7_shelf_82 : decode cX7_shelf 82 = .ok (.invokevirtual 234, 3) := by decide +kernel
theorem dX7_shelf_85 : decode cX7_shelf 85 = .ok (.iconst 1, 1) := by decide +kernel
theorem dX7_shelf_86 : decode cX7_shelf 86 = .ok (.ireturn, 1) := by decide +kernel
theorem dX7_shelf_87 : decode cX7_shelf 87 = .ok (.aload_n 0, 1) := by decide +kernel
theorem dX7_shelf_88 : decode cX7_shelf 88 = .ok (.getfield 59, 3) := by decide +kernel
theorem dX7_shelf_91 : decode cX7_shelf 91 = .ok (.iload_n 1, 1) := by decide +kernel
theorem dX7_shelf_92 : decode cX7_shelf 92 = .ok (.aaload, 1) := by decide +kernel
theorem dX7_shelf_93 : decode cX7_shelf 93 = .ok (.iconst 2, 1) := by decide +kernel
theorem dX7_shelf_94 : decode cX7_shelf 94 = .ok (.putfield 238, 3) := by decide +kernel
theorem dX7_shelf_97 : decode cX7_shelf 97 = .ok (.iconst 1, 1) := by decide +kernel
theorem dX7_shelf_98 : decode cX7_shelf 98 = .ok (.ireturn, 1) := by decide +kernel
theorem dX7_shelf_99 : decode cX7_shelf 99 = .ok (.iconst (-1), 1) := by decide +kernel
theorem dX7_shelf_100 : decode cX7_shelf 100 = .ok (.ireturn, 1) := by decide +kernel
theorem dX7_taken_0 : decode cX7_taken 0 = .ok (.iload_n 2, 1) := by decide +kernel
theorem dX7_taken_1 : decode cX7_taken 1 = .ok (.iconst 0, 1) := by decide +kernel
theorem dX7_taken_2 : decode cX7_taken 2 = .ok (.iconst 5, 1) := by decide +kernel
theorem dX7_taken_3 : decode cX7_taken 3 = .ok (.invokestatic 72, 3) := by decide +kernel
theorem dX7_taken_6 : decode cX7_taken 6 = .ok (.istore_n 3, 1) := by decide +kernel
theorem dX7_taken_7 : decode cX7_taken 7 = .ok (.iload_n 1, 1) := by decide +kernel
theorem dX7_taken_8 : decode cX7_taken 8 = .ok (.invokestatic 227, 3) := by decide +kernel
theorem dX7_taken_11 : decode cX7_taken 11 = .ok (.ifCond .eq 19, 3) := by decide +kernel
theorem dX7_taken_14 : decode cX7_taken 14 = .ok (.iload_n 3, 1) := by decide +kernel
theorem dX7_taken_15 : decode cX7_taken 15 = .ok (.ifCond .ne 17, 3) := by decide +kernel
theorem dX7_taken_18 : decode cX7_taken 18 = .ok (.iload_n 2, 1) := by decide +kernel
theorem dX7_taken_19 : decode cX7_taken 19 = .ok (.bipush 10, 2) := by decide +kernel
theorem dX7_taken_21 : decode cX7_taken 21 = .ok (.isub, 1) := by decide +kernel
theorem dX7_taken_22 : decode cX7_taken 22 = .ok (.iconst 0, 1) := by decide +kernel
theorem dX7_taken_23 : decode cX7_taken 23 = .ok (.iconst 3, 1) := by decide +kernel
theorem dX7_taken_24 : decode cX7_taken 24 = .ok (.invokestatic 72, 3) := by decide +kernel
theorem dX7_taken_27 : decode cX7_taken 27 = .ok (.ifCond .ne 5, 3) := by decide +kernel
theorem dX7_taken_30 : decode cX7_taken 30 = .ok (.iconst (-1), 1) := by decide +kernel
theorem dX7_taken_31 : decode cX7_taken 31 = .ok (.ireturn, 1) := by decide +kernel
theorem dX7_taken_32 : decode cX7_taken 32 = .ok (.aload_n 0, 1) := by decide +kernel
theorem dX7_taken_33 : decode cX7_taken 33 = .ok (.getfield 59, 3) := by decide +kernel
theorem dX7_taken_36 : decode cX7_taken 36 = .ok (.iload_n 1, 1) := by decide +kernel
theorem dX7_taken_37 : decode cX7_taken 37 = .ok (.aaload, 1) := by decide +kernel
theorem dX7_taken_38 : decode cX7_taken 38 = .ok (.astore 4, 2) := by decide +kernel
theorem dX7_taken_40 : decode cX7_taken 40 = .ok (.aload_n 0, 1) := by decide +kernel
theorem dX7_taken_41 : decode cX7_taken 41 = .ok (.aload 4, 2) := by decide +kernel
theorem dX7_taken_43 : decode cX7_taken 43 = .ok (.invokevirtual 241, 3) := by decide +kernel
theorem dX7_taken_46 : decode cX7_taken 46 = .ok (.istore 5, 2) := by decide +kernel
theorem dX7_taken_48 : decode cX7_taken 48 = .ok (.iload 5, 2) := by decide +kernel
theorem dX7_taken_50 : decode cX7_taken 50 = .ok (.ifCond .ne 15, 3) := by decide +kernel
theorem dX7_taken_53 : decode cX7_taken 53 = .ok (.aload 4, 2) := by decide +kernel
theorem dX7_taken_55 : decode cX7_taken 55 = .ok (.getfield 238, 3) := by decide +kernel
theorem dX7_taken_58 : decode cX7_taken 58 = .ok (.iconst 1, 1) := by decide +kernel
theorem dX7_taken_59 : decode cX7_taken 59 = .ok (.if_icmp .eq 6, 3) := by decide +kernel
theorem dX7_taken_62 : decode cX7_taken 62 = .ok (.bipush (-11), 2) := by decide +kernel
theorem dX7_taken_64 : decode cX7_taken 64 = .ok (.ireturn, 1) := by decide +kernel
theorem dX7_taken_65 : decode cX7_taken 65 = .ok (.iload_n 3, 1) := by decide +kernel
theorem dX7_taken_66 : decode cX7_taken 66 = .ok (.ifCond .eq 56, 3) := by decide +kernel
theorem dX7_taken_69 : decode cX7_taken 69 = .ok (.iload 5, 2) := by decide +kernel
theorem dX7_taken_71 : decode cX7_taken 71 = .ok (.ifCond .eq 32, 3) := by decide +kernel
theorem dX7_taken_74 : decode cX7_taken 74 = .ok (.aload_n 0, 1) := by decide +kernel
theorem dX7_taken_75 : decode cX7_taken 75 = .ok (.getfield 10, 3) := by decide +kernel
theorem dX7_taken_78 : decode cX7_taken 78 = .ok (.getfield 118, 3) := by decide +kernel
theorem dX7_taken_81 : decode cX7_taken 81 = .ok (.aload 4, 2) := by decide +kernel
theorem dX7_taken_83 : decode cX7_taken 83 = .ok (.getfield 245, 3) := by decide +kernel
theorem dX7_taken_86 : decode cX7_taken 86 = .ok (.aaload, 1) := by decide +kernel
theorem dX7_taken_87 : decode cX7_taken 87 = .ok (.getfield 138, 3) := by decide +kernel
theorem dX7_taken_90 : decode cX7_taken 90 = .ok (.iconst 0, 1) := by decide +kernel
theorem dX7_taken_91 : decode cX7_taken 91 = .ok (.iaload, 1) := by decide +kernel
theorem dX7_taken_92 : decode cX7_taken 92 = .ok (.iload_n 2, 1) := by decide +kernel
theorem dX7_taken_93 : decode cX7_taken 93 = .ok (.invokestatic 248, 3) := by decide +kernel
theorem dX7_taken_96 : decode cX7_taken 96 = .ok (.ifCond .eq 7, 3) := by decide +kernel
theorem dX7_taken_99 : decode cX7_taken 99 = .ok (.iconst 1, 1) := by decide +kernel
theorem dX7_taken_100 : decode cX7_taken 100 = .ok (.goto 4, 3) := by decide +kernel
theorem dX7_taken_103 : decode cX7_taken 103 = .ok (.iconst 0, 1) := by decide +kernel
theorem dX7_taken_104 : decode cX7_taken 104 = .ok (.istore 6, 2) := by decide +kernel
theorem dX7_taken_106 : decode cX7_taken 106 = .ok (.iload 6, 2) := by decide +kernel
theorem dX7_taken_108 : decode cX7_taken 108 = .ok (.ifCond .eq 11, 3) := by decide +kernel
theorem dX7_taken_111 : decode cX7_taken 111 = .ok (.aload 4, 2) := by decide +kernel
theorem dX7_taken_113 : decode cX7_taken 113 = .ok (.getfield 245, 3) := by decide +kernel
theorem dX7_taken_116 : decode cX7_taken 116 = .ok (.goto 5, 3) := by decide +kernel
theorem dX7_taken_119 : decode cX7_taken 119 = .ok (.bipush (-13), 2) := by decide +kernel
theorem dX7_taken_121 : decode cX7_taken 121 = .ok (.ireturn, 1) := by decide +kernel
theorem dX7_taken_122 : decode cX7_taken 122 = .ok (.aload 4, 2) := by decide +kernel
theorem dX7_taken_124 : decode cX7_taken 124 = .ok (.getfield 238, 3) := by decide +kernel
theorem dX7_taken_127 : decode cX7_taken 127 = .ok (.iconst 1, 1) := by decide +kernel
theorem dX7_taken_128 : decode cX7_taken 128 = .ok (.if_icmp .ne 19, 3) := by decide +kernel
theorem dX7_taken_131 : decode cX7_taken 131 = .ok (.aload 4, 2) := by decide +kernel
theorem dX7_taken_133 : decode cX7_taken 133 = .ok (.getfield 251, 3) := by decide +kernel
theorem dX7_taken_136 : decode cX7_taken 136 = .ok (.iload_n 2, 1) := by decide +kernel
theorem dX7_taken_137 : decode cX7_taken 137 = .ok (.bipush 10, 2) := by decide +kernel
theorem dX7_taken_139 : decode cX7_taken 139 = .ok (.isub, 1) := by decide +kernel
theorem dX7_taken_140 : decode cX7_taken 140 = .ok (.if_icmp .ne 7, 3) := by decide +kernel
theorem dX7_taken_143 : decode cX7_taken 143 = .ok (.iconst 1, 1) := by decide +kernel
theorem dX7_taken_144 : decode cX7_taken 144 = .ok (.goto 4, 3) := by decide +kernel
theorem dX7_taken_147 : decode cX7_taken 147 = .ok (.iconst 0, 1) := by decide +kernel
theorem dX7_taken_148 : decode cX7_taken 148 = .ok (.istore 6, 2) := by decide +kernel
theorem dX7_taken_150 : decode cX7_taken 150 = .ok (.iload 6, 2) := by decide +kernel
theorem dX7_taken_152 : decode cX7_taken 152 = .ok (.ifCond .eq 11, 3) := by decide +kernel
theorem dX7_taken_155 : decode cX7_taken 155 = .ok (.aload 4, 2) := by decide +kernel
theorem dX7_taken_157 : decode cX7_taken 157 = .ok (.getfield 252, 3) := by decide +kernel
theorem dX7_taken_160 : decode cX7_taken 160 = .ok (.goto 5, 3) := by decide +kernel
theorem dX7_taken_163 : decode cX7_taken 163 = .ok (.bipush (-13), 2) := by decide +kernel
theorem dX7_taken_165 : decode cX7_taken 165 = .ok (.ireturn, 1) := by decide +kernel
theorem dX7_act_0 : decode cX7_act 0 = .ok (.aload_n 0, 1) := by decide +kernel
theorem dX7_act_1 : decode cX7_act 1 = .ok (.getfield 66, 3) := by decide +kernel
theorem dX7_act_4 : decode cX7_act 4 = .ok (.invokevirtual 253, 3) := by decide +kernel
theorem dX7_act_7 : decode cX7_act 7 = .ok (.iload_n 1, 1) := by decide +kernel
theorem dX7_act_8 : decode cX7_act 8 = .ok (.invokestatic 227, 3) := by decide +kernel
theorem dX7_act_11 : decode cX7_act 11 = .ok (.ifCond .eq 25, 3) := by decide +kernel
theorem dX7_act_14 : decode cX7_act 14 = .ok (.iload_n 2, 1) := by decide +kernel
theorem dX7_act_15 : decode cX7_act 15 = .ok (.iconst 0, 1) := by decide +kernel
theorem dX7_act_16 : decode cX7_act 16 = .ok (.iconst 3, 1) := by decide +kernel
theorem dX7_act_17 : decode cX7_act 17 = .ok (.invokestatic 72, 3) := by decide +kernel
theorem dX7_act_20 : decode cX7_act 20 = .ok (.ifCond .eq 16, 3) := by decide +kernel
theorem dX7_act_23 : decode cX7_act 23 = .ok (.aload_n 0, 1) := by decide +kernel
theorem dX7_act_24 : decode cX7_act 24 = .ok (.aload_n 0, 1) := by decide +kernel
theorem dX7_act_25 : decode cX7_act 25 = .ok (.getfield 59, 3) := by decide +kernel
theorem dX7_act_28 : decode cX7_act 28 = .ok (.iload_n 1, 1) := by decide +kernel
theorem dX7_act_29 : decode cX7_act 29 = .ok (.aaload, 1) := by decide +kernel
theorem dX7_act_30 : decode cX7_act 30 = .ok (.invokevirtual 241, 3) := by decide +kernel
theorem dX7_act_33 : decode cX7_act 33 = .ok (.ifCond .ne 5, 3) := by decide +kernel
theorem dX7_act_36 : decode cX7_act 36 = .ok (.iconst 0, 1) := by decide +kernel
theorem dX7_act_37 : decode cX7_act 37 = .ok (.ireturn, 1) := by decide +kernel
theorem dX7_act_38 : decode cX7_act 38 = .ok (.aload_n 0, 1) := by decide +kernel
theorem dX7_act_39 : decode cX7_act 39 = .ok (.getfield 59, 3) := by decide +kernel
theorem dX7_act_42 : decode cX7_act 42 = .ok (.iload_n 1, 1) := by decide +kernel
theorem dX7_act_43 : decode cX7_act 43 = .ok (.aaload, 1) := by decide +kernel
theorem dX7_act_44 : decode cX7_act 44 = .ok (.getfield 245, 3) := by decide +kernel
theorem dX7_act_47 : decode cX7_act 47 = .ok (.istore 4, 2) := by decide +kernel
theorem dX7_act_49 : decode cX7_act 49 = .ok (.aload_n 0, 1) := by decide +kernel
theorem dX7_act_50 : decode cX7_act 50 = .ok (.getfield 66, 3) := by decide +kernel
theorem dX7_act_53 : decode cX7_act 53 = .ok (.aload_n 0, 1) := by decide +kernel
theorem dX7_act_54 : decode cX7_act 54 = .ok (.getfield 10, 3) := by decide +kernel
theorem dX7_act_57 : decode cX7_act 57 = .ok (.getfield 118, 3) := by decide +kernel
theorem dX7_act_60 : decode cX7_act 60 = .ok (.iload 4, 2) := by decide +kernel
theorem dX7_act_62 : decode cX7_act 62 = .ok (.aaload, 1) := by decide +kernel
theorem dX7_act_63 : decode cX7_act 63 = .ok (.iload 4, 2) := by decide +kernel
theorem dX7_act_65 : decode cX7_act 65 = .ok (.iload_n 2, 1) := by decide +kernel
theorem dX7_act_66 : decode cX7_act 66 = .ok (.iload_n 3, 1) := by decide +kernel
theorem dX7_act_67 : decode cX7_act 67 = .ok (.invokevirtual 256, 3) := by decide +kernel
theorem dX7_act_70 : decode cX7_act 70 = .ok (.ireturn, 1) := by decide +kernel
theorem dX7_trace_0 : decode cX7_trace 0 = .ok (.iload_n 1, 1) := by decide +kernel
theorem dX7_trace_1 : decode cX7_trace 1 = .ok (.iconst 0, 1) := by decide +kernel
theorem dX7_trace_2 : decode cX7_trace 2 = .ok (.aload_n 0, 1) := by decide +kernel
theorem dX7_trace_3 : decode cX7_trace 3 = .ok (.getfield 66, 3) := by decide +kernel
theorem dX7_trace_6 : decode cX7_trace 6 = .ok (.getfield 260, 3) := by decide +kernel
theorem dX7_trace_9 : decode cX7_trace 9 = .ok (.iconst 1, 1) := by decide +kernel
theorem dX7_trace_10 : decode cX7_trace 10 = .ok (.isub, 1) := by decide +kernel
theorem dX7_trace_11 : decode cX7_trace 11 = .ok (.invokestatic 72, 3) := by decide +kernel
theorem dX7_trace_14 : decode cX7_trace 14 = .ok (.ifCond .eq 15, 3) := by decide +kernel
theorem dX7_trace_17 : decode cX7_trace 17 = .ok (.aload_n 0, 1) := by decide +kernel
theorem dX7_trace_18 : decode cX7_trace 18 = .ok (.getfield 66, 3) := by decide +kernel
theorem dX7_trace_21 : decode cX7_trace 21 = .ok (.getfield 263, 3) := by decide +kernel
theorem dX7_trace_24 : decode cX7_trace 24 = .ok (.iload_n 1, 1) := by decide +kernel
theorem dX7_trace_25 : decode cX7_trace 25 = .ok (.iaload, 1) := by decide +kernel
theorem dX7_trace_26 : decode cX7_trace 26 = .ok (.goto 5, 3) := by decide +kernel
theorem dX7_trace_29 : decode cX7_trace 29 = .ok (.bipush (-3), 2) := by decide +kernel
theorem dX7_trace_31 : decode cX7_trace 31 = .ok (.ireturn, 1) := by decide +kernel
theorem dX7_many_0 : decode cX7_many 0 = .ok (.iload_n 1, 1) := by decide +kernel
theorem dX7_many_1 : decode cX7_many 1 = .ok (.tableswitch 84 0 5 #[39, 47, 55, 63, 68, 76], 39) := by decide +kernel
theorem dX7_many_40 : decode cX7_many 40 = .ok (.aload_n 0, 1) := by decide +kernel
theorem dX7_many_41 : decode cX7_many 41 = .ok (.getfield 10, 3) := by decide +kernel
theorem dX7_many_44 : decode cX7_many 44 = .ok (.getfield 93, 3) := by decide +kernel
theorem dX7_many_47 : decode cX7_many 47 = .ok (.ireturn, 1) := by decide +kernel
theorem dX7_many_48 : decode cX7_many 48 = .ok (.aload_n 0, 1) := by decide +kernel
theorem dX7_many_49 : decode cX7_many 49 = .ok (.getfield 10, 3) := by decide +kernel
theorem dX7_many_52 : decode cX7_many 52 = .ok (.invokevirtual 266, 3) := by decide +kernel
theorem dX7_many_55 : decode cX7_many 55 = .ok (.ireturn, 1) := by decide +kernel
theorem dX7_many_56 : decode cX7_many 56 = .ok (.aload_n 0, 1) := by decide +kernel
theorem dX7_many_57 : decode cX7_many 57 = .ok (.getfield 10, 3) := by decide +kernel
theorem dX7_many_60 : decode cX7_many 60 = .ok (.getfield 157, 3) := by decide +kernel
theorem dX7_many_63 : decode cX7_many 63 = .ok (.ireturn, 1) := by decide +kernel
theorem dX7_many_64 : decode cX7_many 64 = .ok (.aload_n 0, 1) := by decide +kernel
theorem dX7_many_65 : decode cX7_many 65 = .ok (.getfield 47, 3) := by decide +kernel
theorem dX7_many_68 : decode cX7_many 68 = .ok (.ireturn, 1) := by decide +kernel
theorem dX7_many_69 : decode cX7_many 69 = .ok (.aload_n 0, 1) := by decide +kernel
theorem dX7_many_70 : decode cX7_many 70 = .ok (.getfield 29, 3) := by decide +kernel
theorem dX7_many_73 : decode cX7_many 73 = .ok (.getfield 76, 3) := by decide +kernel
theorem dX7_many_76 : decode cX7_many 76 = .ok (.ireturn, 1) := by decide +kernel
theorem dX7_many_77 : decode cX7_many 77 = .ok (.aload_n 0, 1) := by decide +kernel
theorem dX7_many_78 : decode cX7_many 78 = .ok (.getfield 66, 3) := by decide +kernel
theorem dX7_many_81 : decode cX7_many 81 = .ok (.getfield 260, 3) := by decide +kernel
theorem dX7_many_84 : decode cX7_many 84 = .ok (.ireturn, 1) := by decide +kernel
theorem dX7_many_85 : decode cX7_many 85 = .ok (.iconst (-1), 1) := by decide +kernel
theorem dX7_many_86 : decode cX7_many 86 = .ok (.ireturn, 1) := by decide +kernel
theorem dX7_keep_0 : decode cX7_keep 0 = .ok (.aload_n 0, 1) := by decide +kernel
theorem dX7_keep_1 : decode cX7_keep 1 = .ok (.getfield 16, 3) := by decide +kernel
theorem dX7_keep_4 : decode cX7_keep 4 = .ok (.aload_n 0, 1) := by decide +kernel
theorem dX7_keep_5 : decode cX7_keep 5 = .ok (.getfield 10, 3) := by decide +kernel
theorem dX7_keep_8 : decode cX7_keep 8 = .ok (.invokevirtual 90, 3) := by decide +kernel
theorem dX7_keep_11 : decode cX7_keep 11 = .ok (.aload_n 0, 1) := by decide +kernel
theorem dX7_keep_12 : decode cX7_keep 12 = .ok (.iconst 1, 1) := by decide +kernel
theorem dX7_keep_13 : decode cX7_keep 13 = .ok (.putfield 19, 3) := by decide +kernel
theorem dX7_keep_16 : decode cX7_keep 16 = .ok (.iconst 1, 1) := by decide +kernel
theorem dX7_keep_17 : decode cX7_keep 17 = .ok (.ireturn, 1) := by decide +kernel
theorem dX7_again_0 : decode cX7_again 0 = .ok (.aload_n 0, 1) := by decide +kernel
theorem dX7_again_1 : decode cX7_again 1 = .ok (.getfield 19, 3) := by decide +kernel
theorem dX7_again_4 : decode cX7_again 4 = .ok (.ifCond .ne 6, 3) := by decide +kernel
theorem dX7_again_7 : decode cX7_again 7 = .ok (.bipush (-3), 2) := by decide +kernel
theorem dX7_again_9 : decode cX7_again 9 = .ok (.ireturn, 1) := by decide +kernel
theorem dX7_again_10 : decode cX7_again 10 = .ok (.aload_n 0, 1) := by decide +kernel
theorem dX7_again_11 : decode cX7_again 11 = .ok (.getfield 10, 3) := by decide +kernel
theorem dX7_again_14 : decode cX7_again 14 = .ok (.aload_n 0, 1) := by decide +kernel
theorem dX7_again_15 : decode cX7_again 15 = .ok (.getfield 16, 3) := by decide +kernel
theorem dX7_again_18 : decode cX7_again 18 = .ok (.invokevirtual 90, 3) := by decide +kernel
theorem dX7_again_21 : decode cX7_again 21 = .ok (.aload_n 0, 1) := by decide +kernel
theorem dX7_again_22 : decode cX7_again 22 = .ok (.getfield 10, 3) := by decide +kernel
theorem dX7_again_25 : decode cX7_again 25 = .ok (.getfield 157, 3) := by decide +kernel
theorem dX7_again_28 : decode cX7_again 28 = .ok (.ireturn, 1) := by decide +kernel
theorem dX7_within_0 : decode cX7_within 0 = .ok (.iload_n 0, 1) := by decide +kernel
theorem dX7_within_1 : decode cX7_within 1 = .ok (.iload_n 1, 1) := by decide +kernel
theorem dX7_within_2 : decode cX7_within 2 = .ok (.if_icmp .lt 12, 3) := by decide +kernel
theorem dX7_within_5 : decode cX7_within 5 = .ok (.iload_n 0, 1) := by decide +kernel
theorem dX7_within_6 : decode cX7_within 6 = .ok (.iload_n 2, 1) := by decide +kernel
theorem dX7_within_7 : decode cX7_within 7 = .ok (.if_icmp .gt 7, 3) := by decide +kernel
theorem dX7_within_10 : decode cX7_within 10 = .ok (.iconst 1, 1) := by decide +kernel
theorem dX7_within_11 : decode cX7_within 11 = .ok (.goto 4, 3) := by decide +kernel
theorem dX7_within_14 : decode cX7_within 14 = .ok (.iconst 0, 1) := by decide +kernel
theorem dX7_within_15 : decode cX7_within 15 = .ok (.ireturn, 1) := by decide +kernel
theorem dX7_held_0 : decode cX7_held 0 = .ok (.iload_n 0, 1) := by decide +kernel
theorem dX7_held_1 : decode cX7_held 1 = .ok (.iload_n 1, 1) := by decide +kernel
theorem dX7_held_2 : decode cX7_held 2 = .ok (.if_icmp .ge 7, 3) := by decide +kernel
theorem dX7_held_5 : decode cX7_held 5 = .ok (.iload_n 1, 1) := by decide +kernel
theorem dX7_held_6 : decode cX7_held 6 = .ok (.goto 13, 3) := by decide +kernel
theorem dX7_held_9 : decode cX7_held 9 = .ok (.iload_n 0, 1) := by decide +kernel
theorem dX7_held_10 : decode cX7_held 10 = .ok (.iload_n 2, 1) := by decide +kernel
theorem dX7_held_11 : decode cX7_held 11 = .ok (.if_icmp .le 7, 3) := by decide +kernel
theorem dX7_held_14 : decode cX7_held 14 = .ok (.iload_n 2, 1) := by decide +kernel
theorem dX7_held_15 : decode cX7_held 15 = .ok (.goto 4, 3) := by decide +kernel
theorem dX7_held_18 : decode cX7_held 18 = .ok (.iload_n 0, 1) := by decide +kernel
theorem dX7_held_19 : decode cX7_held 19 = .ok (.ireturn, 1) := by decide +kernel
theorem dX7_fits_0 : decode cX7_fits 0 = .ok (.iload_n 1, 1) := by decide +kernel
theorem dX7_fits_1 : decode cX7_fits 1 = .ok (.getstatic 182, 3) := by decide +kernel
theorem dX7_fits_4 : decode cX7_fits 4 = .ok (.iload_n 0, 1) := by decide +kernel
theorem dX7_fits_5 : decode cX7_fits 5 = .ok (.iaload, 1) := by decide +kernel
theorem dX7_fits_6 : decode cX7_fits 6 = .ok (.getstatic 141, 3) := by decide +kernel
theorem dX7_fits_9 : decode cX7_fits 9 = .ok (.iload_n 0, 1) := by decide +kernel
theorem dX7_fits_10 : decode cX7_fits 10 = .ok (.iaload, 1) := by decide +kernel
theorem dX7_fits_11 : decode cX7_fits 11 = .ok (.invokestatic 72, 3) := by decide +kernel
theorem dX7_fits_14 : decode cX7_fits 14 = .ok (.ireturn, 1) := by decide +kernel
theorem dX7_isHour_0 : decode cX7_isHour 0 = .ok (.iload_n 0, 1) := by decide +kernel
theorem dX7_isHour_1 : decode cX7_isHour 1 = .ok (.iconst 0, 1) := by decide +kernel
theorem dX7_isHour_2 : decode cX7_isHour 2 = .ok (.bipush 23, 2) := by decide +kernel
theorem dX7_isHour_4 : decode cX7_isHour 4 = .ok (.invokestatic 72, 3) := by decide +kernel
theorem dX7_isHour_7 : decode cX7_isHour 7 = .ok (.ireturn, 1) := by decide +kernel
theorem dX7_isSheet_0 : decode cX7_isSheet 0 = .ok (.iload_n 0, 1) := by decide +kernel
theorem dX7_isSheet_1 : decode cX7_isSheet 1 = .ok (.iconst 0, 1) := by decide +kernel
theorem dX7_isSheet_2 : decode cX7_isSheet 2 = .ok (.iconst 3, 1) := by decide +kernel
theorem dX7_isSheet_3 : decode cX7_isSheet 3 = .ok (.invokestatic 72, 3) := by decide +kernel
theorem dX7_isSheet_6 : decode cX7_isSheet 6 = .ok (.ireturn, 1) := by decide +kernel
theorem dX7_isShelf_0 : decode cX7_isShelf 0 = .ok (.iload_n 0, 1) := by decide +kernel
theorem dX7_isShelf_1 : decode cX7_isShelf 1 = .ok (.iconst 0, 1) := by decide +kernel
theorem dX7_isShelf_2 : decode cX7_isShelf 2 = .ok (.iconst 3, 1) := by decide +kernel
theorem dX7_isShelf_3 : decode cX7_isShelf 3 = .ok (.invokestatic 72, 3) := by decide +kernel
theorem dX7_isShelf_6 : decode cX7_isShelf 6 = .ok (.ireturn, 1) := by decide +kernel
theorem dX7_isUnder_0 : decode cX7_isUnder 0 = .ok (.iload_n 0, 1) := by decide +kernel
theorem dX7_isUnder_1 : decode cX7_isUnder 1 = .ok (.istore_n 2, 1) := by decide +kernel
theorem dX7_isUnder_2 : decode cX7_isUnder 2 = .ok (.iconst 0, 1) := by decide +kernel
theorem dX7_isUnder_3 : decode cX7_isUnder 3 = .ok (.istore_n 3, 1) := by decide +kernel
theorem dX7_isUnder_4 : decode cX7_isUnder 4 = .ok (.iload_n 3, 1) := by decide +kernel
theorem dX7_isUnder_5 : decode cX7_isUnder 5 = .ok (.bipush 6, 2) := by decide +kernel
theorem dX7_isUnder_7 : decode cX7_isUnder 7 = .ok (.if_icmp .ge 26, 3) := by decide +kernel
theorem dX7_isUnder_10 : decode cX7_isUnder 10 = .ok (.iload_n 2, 1) := by decide +kernel
theorem dX7_isUnder_11 : decode cX7_isUnder 11 = .ok (.ifCond .lt 22, 3) := by decide +kernel
theorem dX7_isUnder_14 : decode cX7_isUnder 14 = .ok (.iload_n 2, 1) := by decide +kernel
theorem dX7_isUnder_15 : decode cX7_isUnder 15 = .ok (.iload_n 1, 1) := by decide +kernel
theorem dX7_isUnder_16 : decode cX7_isUnder 16 = .ok (.if_icmp .ne 5, 3) := by decide +kernel
theorem dX7_isUnder_19 : decode cX7_isUnder 19 = .ok (.iconst 1, 1) := by decide +kernel
theorem dX7_isUnder_20 : decode cX7_isUnder 20 = .ok (.ireturn, 1) := by decide +kernel
theorem dX7_isUnder_21 : decode cX7_isUnder 21 = .ok (.getstatic 269, 3) := by decide +kernel
theorem dX7_isUnder_24 : decode cX7_isUnder 24 = .ok (.iload_n 2, 1) := by decide +kernel
theorem dX7_isUnder_25 : decode cX7_isUnder 25 = .ok (.iaload, 1) := by decide +kernel
theorem dX7_isUnder_26 : decode cX7_isUnder 26 = .ok (.istore_n 2, 1) := by decide +kernel
theorem dX7_isUnder_27 : decode cX7_isUnder 27 = .ok (.iinc 3 1, 3) := by decide +kernel
theorem dX7_isUnder_30 : decode cX7_isUnder 30 = .ok (.goto (-26), 3) := by decide +kernel
theorem dX7_isUnder_33 : decode cX7_isUnder 33 = .ok (.iconst 0, 1) := by decide +kernel
theorem dX7_isUnder_34 : decode cX7_isUnder 34 = .ok (.ireturn, 1) := by decide +kernel
theorem dX7_isRowPart_0 : decode cX7_isRowPart 0 = .ok (.iload_n 1, 1) := by decide +kernel
theorem dX7_isRowPart_1 : decode cX7_isRowPart 1 = .ok (.iconst 0, 1) := by decide +kernel
theorem dX7_isRowPart_2 : decode cX7_isRowPart 2 = .ok (.aload_n 0, 1) := by decide +kernel
theorem dX7_isRowPart_3 : decode cX7_isRowPart 3 = .ok (.getfield 47, 3) := by decide +kernel
theorem dX7_isRowPart_6 : decode cX7_isRowPart 6 = .ok (.iconst 1, 1) := by decide +kernel
theorem dX7_isRowPart_7 : decode cX7_isRowPart 7 = .ok (.isub, 1) := by decide +kernel
theorem dX7_isRowPart_8 : decode cX7_isRowPart 8 = .ok (.invokestatic 72, 3) := by decide +kernel
theorem dX7_isRowPart_11 : decode cX7_isRowPart 11 = .ok (.ifCond .eq 16, 3) := by decide +kernel
theorem dX7_isRowPart_14 : decode cX7_isRowPart 14 = .ok (.iload_n 2, 1) := by decide +kernel
theorem dX7_isRowPart_15 : decode cX7_isRowPart 15 = .ok (.iconst 0, 1) := by decide +kernel
theorem dX7_isRowPart_16 : decode cX7_isRowPart 16 = .ok (.iconst 2, 1) := by decide +kernel
theorem dX7_isRowPart_17 : decode cX7_isRowPart 17 = .ok (.invokestatic 72, 3) := by decide +kernel
theorem dX7_isRowPart_20 : decode cX7_isRowPart 20 = .ok (.ifCond .eq 7, 3) := by decide +kernel
theorem dX7_isRowPart_23 : decode cX7_isRowPart 23 = .ok (.iconst 1, 1) := by decide +kernel
theorem dX7_isRowPart_24 : decode cX7_isRowPart 24 = .ok (.goto 4, 3) := by decide +kernel
theorem dX7_isRowPart_27 : decode cX7_isRowPart 27 = .ok (.iconst 0, 1) := by decide +kernel
theorem dX7_isRowPart_28 : decode cX7_isRowPart 28 = .ok (.ireturn, 1) := by decide +kernel
theorem dX7_isRowRight_0 : decode cX7_isRowRight 0 = .ok (.iconst 0, 1) := by decide +kernel
theorem dX7_isRowRight_1 : decode cX7_isRowRight 1 = .ok (.istore_n 3, 1) := by decide +kernel
theorem dX7_isRowRight_2 : decode cX7_isRowRight 2 = .ok (.iload_n 3, 1) := by decide +kernel
theorem dX7_isRowRight_3 : decode cX7_isRowRight 3 = .ok (.iconst 3, 1) := by decide +kernel
theorem dX7_isRowRight_4 : decode cX7_isRowRight 4 = .ok (.if_icmp .ge 34, 3) := by decide +kernel
theorem dX7_isRowRight_7 : decode cX7_isRowRight 7 = .ok (.aload_n 0, 1) := by decide +kernel
theorem dX7_isRowRight_8 : decode cX7_isRowRight 8 = .ok (.getfield 44, 3) := by decide +kernel
theorem dX7_isRowRight_11 : decode cX7_isRowRight 11 = .ok (.iload_n 2, 1) := by decide +kernel
theorem dX7_isRowRight_12 : decode cX7_isRowRight 12 = .ok (.aaload, 1) := by decide +kernel
theorem dX7_isRowRight_13 : decode cX7_isRowRight 13 = .ok (.iload_n 3, 1) := by decide +kernel
theorem dX7_isRowRight_14 : decode cX7_isRowRight 14 = .ok (.iaload, 1) := by decide +kernel
theorem dX7_isRowRight_15 : decode cX7_isRowRight 15 = .ok (.aload_n 0, 1) := by decide +kernel
theorem dX7_isRowRight_16 : decode cX7_isRowRight 16 = .ok (.getfield 38, 3) := by decide +kernel
theorem dX7_isRowRight_19 : decode cX7_isRowRight 19 = .ok (.iload_n 1, 1) := by decide +kernel
theorem dX7_isRowRight_20 : decode cX7_isRowRight 20 = .ok (.iload_n 2, 1) := by decide +kernel
theorem dX7_isRowRight_21 : decode cX7_isRowRight 21 = .ok (.iconst 1, 1) := by decide +kernel
theorem dX7_isRowRight_22 : decode cX7_isRowRight 22 = .ok (.iadd, 1) := by decide +kernel
theorem dX7_isRowRight_23 : decode cX7_isRowRight 23 = .ok (.iload_n 3, 1) := by decide +kernel
theorem dX7_isRowRight_24 : decode cX7_isRowRight 24 = .ok (.invokevirtual 197, 3) := by decide +kernel
theorem dX7_isRowRight_27 : decode cX7_isRowRight 27 = .ok (.if_icmp .eq 5, 3) := by decide +kernel
theorem dX7_isRowRight_30 : decode cX7_isRowRight 30 = .ok (.iconst 0, 1) := by decide +kernel
theorem dX7_isRowRight_31 : decode cX7_isRowRight 31 = .ok (.ireturn, 1) := by decide +kernel
theorem dX7_isRowRight_32 : decode cX7_isRowRight 32 = .ok (.iinc 3 1, 3) := by decide +kernel
theorem dX7_isRowRight_35 : decode cX7_isRowRight 35 = .ok (.goto (-33), 3) := by decide +kernel
theorem dX7_isRowRight_38 : decode cX7_isRowRight 38 = .ok (.iconst 1, 1) := by decide +kernel
theorem dX7_isRowRight_39 : decode cX7_isRowRight 39 = .ok (.ireturn, 1) := by decide +kernel
theorem dX7_holdsBalloon_0 : decode cX7_holdsBalloon 0 = .ok (.aload_n 1, 1) := by decide +kernel
theorem dX7_holdsBalloon_1 : decode cX7_holdsBalloon 1 = .ok (.getfield 238, 3) := by decide +kernel
theorem dX7_holdsBalloon_4 : decode cX7_holdsBalloon 4 = .ok (.ifCond .ne 21, 3) := by decide +kernel
theorem dX7_holdsBalloon_7 : decode cX7_holdsBalloon 7 = .ok (.aload_n 0, 1) := by decide +kernel
theorem dX7_holdsBalloon_8 : decode cX7_holdsBalloon 8 = .ok (.getfield 10, 3) := by decide +kernel
theorem dX7_holdsBalloon_11 : decode cX7_holdsBalloon 11 = .ok (.aload_n 1, 1) := by decide +kernel
theorem dX7_holdsBalloon_12 : decode cX7_holdsBalloon 12 = .ok (.getfield 245, 3) := by decide +kernel
theorem dX7_holdsBalloon_15 : decode cX7_holdsBalloon 15 = .ok (.invokevirtual 115, 3) := by decide +kernel
theorem dX7_holdsBalloon_18 : decode cX7_holdsBalloon 18 = .ok (.ifCond .eq 7, 3) := by decide +kernel
theorem dX7_holdsBalloon_21 : decode cX7_holdsBalloon 21 = .ok (.iconst 1, 1) := by decide +kernel
theorem dX7_holdsBalloon_22 : decode cX7_holdsBalloon 22 = .ok (.goto 4, 3) := by decide +kernel
theorem dX7_holdsBalloon_25 : decode cX7_holdsBalloon 25 = .ok (.iconst 0, 1) := by decide +kernel
theorem dX7_holdsBalloon_26 : decode cX7_holdsBalloon 26 = .ok (.ireturn, 1) := by decide +kernel
theorem dX8_init_0 : decode cX8_init 0 = .ok (.aload_n 0, 1) := by decide +kernel
theorem dX8_init_1 : decode cX8_init 1 = .ok (.invokespecial 1, 3) := by decide +kernel
theorem dX8_init_4 : decode cX8_init 4 = .ok (.aload_n 0, 1) := by decide +kernel
theorem dX8_init_5 : decode cX8_init 5 = .ok (.bipush 24, 2) := by decide +kernel
theorem dX8_init_7 : decode cX8_init 7 = .ok (.newarray .int, 2) := by decide +kernel
theorem dX8_init_9 : decode cX8_init 9 = .ok (.putfield 7, 3) := by decide +kernel
theorem dX8_init_12 : decode cX8_init 12 = .ok (.aload_n 0, 1) := by decide +kernel
theorem dX8_init_13 : decode cX8_init 13 = .ok (.iconst 3, 1) := by decide +kernel
theorem dX8_init_14 : decode cX8_init 14 = .ok (.putfield 13, 3) := by decide +kernel
theorem dX8_init_17 : decode cX8_init 17 = .ok (.aload_n 0, 1) := by decide +kernel
theorem dX8_init_18 : decode cX8_init 18 = .ok (.bipush 6, 2) := by decide +kernel
theorem dX8_init_20 : decode cX8_init 20 = .ok (.newarray .int, 2) := by decide +kernel
theorem dX8_init_22 : decode cX8_init 22 = .ok (.putfield 17, 3) := by decide +kernel
theorem dX8_init_25 : decode cX8_init 25 = .ok (.aload_n 0, 1) := by decide +kernel
theorem dX8_init_26 : decode cX8_init 26 = .ok (.bipush 6, 2) := by decide +kernel
theorem dX8_init_28 : decode cX8_init 28 = .ok (.newarray .int, 2) := by decide +kernel
theorem dX8_init_30 : decode cX8_init 30 = .ok (.putfield 20, 3) := by decide +kernel
theorem dX8_init_33 : decode cX8_init 33 = .ok (.aload_n 0, 1) := by decide +kernel
theorem dX8_init_34 : decode cX8_init 34 = .ok (.bipush 86, 2) := by decide +kernel
theorem dX8_init_36 : decode cX8_init 36 = .ok (.newarray .int, 2) := by decide +kernel
theorem dX8_init_38 : decode cX8_init 38 = .ok (.putfield 23, 3) := by decide +kernel
theorem dX8_init_41 : decode cX8_init 41 = .ok (.aload_n 0, 1) := by decide +kernel
theorem dX8_init_42 : decode cX8_init 42 = .ok (.iconst 1, 1) := by decide +kernel
theorem dX8_init_43 : decode cX8_init 43 = .ok (.putfield 26, 3) := by decide +kernel
theorem dX8_init_46 : decode cX8_init 46 = .ok (.aload_n 0, 1) := by decide +kernel
theorem dX8_init_47 : decode cX8_init 47 = .ok (.sipush 240, 3) := by decide +kernel
theorem dX8_init_50 : decode cX8_init 50 = .ok (.newarray .int, 2) := by decide +kernel
theorem dX8_init_52 : decode cX8_init 52 = .ok (.putfield 29, 3) := by decide +kernel
theorem dX8_init_55 : decode cX8_init 55 = .ok (.aload_n 0, 1) := by decide +kernel
theorem dX8_init_56 : decode cX8_init 56 = .ok (.bipush 6, 2) := by decide +kernel
theorem dX8_init_58 : decode cX8_init 58 = .ok (.newarray .int, 2) := by decide +kernel
theorem dX8_init_60 : decode cX8_init 60 = .ok (.putfield 32, 3) := by decide +kernel
theorem dX8_init_63 : decode cX8_init 63 = .ok (.aload_n 0, 1) := by decide +kernel
theorem dX8_init_64 : decode cX8_init 64 = .ok (.bipush 6, 2) := by decide +kernel
theorem dX8_init_66 : decode cX8_init 66 = .ok (.newarray .int, 2) := by decide +kernel
theorem dX8_init_68 : decode cX8_init 68 = .ok (.putfield 35, 3) := by decide +kernel
theorem dX8_init_71 : decode cX8_init 71 = .ok (.aload_n 0, 1) := by decide +kernel
theorem dX8_init_72 : decode cX8_init 72 = .ok (.bipush 43, 2) := by decide +kernel
theorem dX8_init_74 : decode cX8_init 74 = .ok (.newarray .int, 2) := by decide +kernel
theorem dX8_init_76 : decode cX8_init 76 = .ok (.putfield 38, 3) := by decide +kernel
theorem dX8_init_79 : decode cX8_init 79 = .ok (.aload_n 0, 1) := by decide +kernel
theorem dX8_init_80 : decode cX8_init 80 = .ok (.bipush 24, 2) := by decide +kernel
theorem dX8_init_82 : decode cX8_init 82 = .ok (.newarray .int, 2) := by decide +kernel
theorem dX8_init_84 : decode cX8_init 84 = .ok (.putfield 41, 3) := by decide +kernel
theorem dX8_init_87 : decode cX8_init 87 = .ok (.aload_n 0, 1) := by decide +kernel
theorem dX8_init_88 : decode cX8_init 88 = .ok (.bipush 60, 2) := by decide +kernel
theorem dX8_init_90 : decode cX8_init 90 = .ok (.newarray .int, 2) := by decide +kernel
theorem dX8_init_92 : decode cX8_init 92 = .ok (.putfield 44, 3) := by decide +kernel
theorem dX8_init_95 : decode cX8_init 95 = .ok (.aload_n 0, 1) := by decide +kernel
theorem dX8_init_96 : decode cX8_init 96 = .ok (.bipush 60, 2) := by decide +kernel
theorem dX8_init_98 : decode cX8_init 98 = .ok (.newarray .int, 2) := by decide +kernel
theorem dX8_init_100 : decode cX8_init 100 = .ok (.putfield 47, 3) := by decide +kernel
theorem dX8_init_103 : decode cX8_init 103 = .ok (.aload_n 0, 1) := by decide +kernel
theorem dX8_init_104 : decode cX8_init 104 = .ok (.iconst 4, 1) := by decide +kernel
theorem dX8_init_105 : decode cX8_init 105 = .ok (.newarray .int, 2) := by decide +kernel
theorem dX8_init_107 : decode cX8_init 107 = .ok (.dup, 1) := by decide +kernel
theorem dX8_init_108 : decode cX8_init 108 = .ok (.iconst 0, 1) := by decide +kernel
theorem dX8_init_109 : decode cX8_init 109 = .ok (.iconst (-1), 1) := by decide +kernel
theorem dX8_init_110 : decode cX8_init 110 = .ok (.iastore, 1) := by decide +kernel
theorem dX8_init_111 : decode cX8_init 111 = .ok (.dup, 1) := by decide +kernel
theorem dX8_init_112 : decode cX8_init 112 = .ok (.iconst 1, 1) := by decide +kernel
theorem dX8_init_113 : decode cX8_init 113 = .ok (.iconst (-1), 1) := by decide +kernel
theorem dX8_init_114 : decode cX8_init 114 = .ok (.iastore, 1) := by decide +kernel
theorem dX8_init_115 : decode cX8_init 115 = .ok (.dup, 1) := by decide +kernel
theorem dX8_init_116 : decode cX8_init 116 = .ok (.iconst 2, 1) := by decide +kernel
theorem dX8_init_117 : decode cX8_init 117 = .ok (.iconst (-1), 1) := by decide +kernel
theorem dX8_init_118 : decode cX8_init 118 = .ok (.iastore, 1) := by decide +kernel
theorem dX8_init_119 : decode cX8_init 119 = .ok (.dup, 1) := by decide +kernel
theorem dX8_init_120 : decode cX8_init 120 = .ok (.iconst 3, 1) := by decide +kernel
theorem dX8_init_121 : decode cX8_init 121 = .ok (.iconst (-1), 1) := by decide +kernel
theorem dX8_init_122 : decode cX8_init 122 = .ok (.iastore, 1) := by decide +kernel
theorem dX8_init_123 : decode cX8_init 123 = .ok (.putfield 50, 3) := by decide +kernel
theorem dX8_init_126 : decode cX8_init 126 = .ok (.aload_n 0, 1) := by decide +kernel
theorem dX8_init_127 : decode cX8_init 127 = .ok (.iconst 4, 1) := by decide +kernel
theorem dX8_init_128 : decode cX8_init 128 = .ok (.newarray .int, 2) := by decide +kernel
theorem dX8_init_130 : decode cX8_init 130 = .ok (.putfield 53, 3) := by decide +kernel
theorem dX8_init_133 : decode cX8_init 133 = .ok (.aload_n 0, 1) := by decide +kernel
theorem dX8_init_134 : decode cX8_init 134 = .ok (.sipush 160, 3) := by decide +kernel
theorem dX8_init_137 : decode cX8_init 137 = .ok (.newarray .long, 2) := by decide +kernel
theorem dX8_init_139 : decode cX8_init 139 = .ok (.putfield 56, 3) := by decide +kernel
theorem dX8_init_142 : decode cX8_init 142 = .ok (.aload_n 0, 1) := by decide +kernel
theorem dX8_init_143 : decode cX8_init 143 = .ok (.iconst 4, 1) := by decide +kernel
theorem dX8_init_144 : decode cX8_init 144 = .ok (.newarray .int, 2) := by decide +kernel
theorem dX8_init_146 : decode cX8_init 146 = .ok (.dup, 1) := by decide +kernel
theorem dX8_init_147 : decode cX8_init 147 = .ok (.iconst 0, 1) := by decide +kernel
theorem dX8_init_148 : decode cX8_init 148 = .ok (.iconst (-1), 1) := by decide +kernel
theorem dX8_init_149 : decode cX8_init 149 = .ok (.iastore, 1) := by decide +kernel
theorem dX8_init_150 : decode cX8_init 150 = .ok (.dup, 1) := by decide +kernel
theorem dX8_init_151 : decode cX8_init 151 = .ok (.iconst 1, 1) := by decide +kernel
theorem dX8_init_152 : decode cX8_init 152 = .ok (.iconst (-1), 1) := by decide +kernel
theorem dX8_init_153 : decode cX8_init 153 = .ok (.iastore, 1) := by decide +kernel
theorem dX8_init_154 : decode cX8_init 154 = .ok (.dup, 1) := by decide +kernel
theorem dX8_init_155 : decode cX8_init 155 = .ok (.iconst 2, 1) := by decide +kernel
theorem dX8_init_156 : decode cX8_init 156 = .ok (.iconst (-1), 1) := by decide +kernel
theorem dX8_init_157 : decode cX8_init 157 = .ok (.iastore, 1) := by decide +kernel
theorem dX8_init_158 : decode cX8_init 158 = .ok (.dup, 1) := by decide +kernel
theorem dX8_init_159 : decode cX8_init 159 = .ok (.iconst 3, 1) := by decide +kernel
theorem dX8_init_160 : decode cX8_init 160 = .ok (.iconst (-1), 1) := by decide +kernel
theorem dX8_init_161 : decode cX8_init 161 = .ok (.iastore, 1) := by decide +kernel
theorem dX8_init_162 : decode cX8_init 162 = .ok (.putfield 60, 3) := by decide +kernel
theorem dX8_init_165 : decode cX8_init 165 = .ok (.aload_n 0, 1) := by decide +kernel
theorem dX8_init_166 : decode cX8_init 166 = .ok (.iconst 4, 1) := by decide +kernel
theorem dX8_init_167 : decode cX8_init 167 = .ok (.newarray .int, 2) := by decide +kernel
theorem dX8_init_169 : decode cX8_init 169 = .ok (.putfield 63, 3) := by decide +kernel
theorem dX8_init_172 : decode cX8_init 172 = .ok (.aload_n 0, 1) := by decide +kernel
theorem dX8_init_173 : decode cX8_init 173 = .ok (.iconst 4, 1) := by decide +kernel
theorem dX8_init_174 : decode cX8_init 174 = .ok (.newarray .int, 2) := by decide +kernel
theorem dX8_init_176 : decode cX8_init 176 = .ok (.putfield 66, 3) := by decide +kernel
theorem dX8_init_179 : decode cX8_init 179 = .ok (.aload_n 0, 1) := by decide +kernel
theorem dX8_init_180 : decode cX8_init 180 = .ok (.bipush 30, 2) := by decide +kernel
theorem dX8_init_182 : decode cX8_init 182 = .ok (.newarray .int, 2) := by decide +kernel
theorem dX8_init_184 : decode cX8_init 184 = .ok (.putfield 69, 3) := by decide +kernel
theorem dX8_init_187 : decode cX8_init 187 = .ok (.aload_n 0, 1) := by decide +kernel
theorem dX8_init_188 : decode cX8_init 188 = .ok (.bipush 90, 2) := by decide +kernel
theorem dX8_init_190 : decode cX8_init 190 = .ok (.newarray .int, 2) := by decide +kernel
theorem dX8_init_192 : decode cX8_init 192 = .ok (.putfield 72, 3) := by decide +kernel
theorem dX8_init_195 : decode cX8_init 195 = .ok (.aload_n 0, 1) := by decide +kernel
theorem dX8_init_196 : decode cX8_init 196 = .ok (.iconst 3, 1) := by decide +kernel
theorem dX8_init_197 : decode cX8_init 197 = .ok (.newarray .int, 2) := by decide +kernel
theorem dX8_init_199 : decode cX8_init 199 = .ok (.putfield 75, 3) := by decide +kernel
theorem dX8_init_202 : decode cX8_init 202 = .ok (.return_, 1) := by decide +kernel
theorem dX8_in_0 : decode cX8_in 0 = .ok (.iload_n 0, 1) := by decide +kernel
theorem dX8_in_1 : decode cX8_in 1 = .ok (.iload_n 1, 1) := by decide +kernel
theorem dX8_in_2 : decode cX8_in 2 = .ok (.if_icmp .lt 12, 3) := by decide +kernel
theorem dX8_in_5 : decode cX8_in 5 = .ok (.iload_n 0, 1) := by decide +kernel
theorem dX8_in_6 : decode cX8_in 6 = .ok (.iload_n 2, 1) := by decide +kernel
theorem dX8_in_7 : decode cX8_in 7 = .ok (.if_icmp .gt 7, 3) := by decide +kernel
theorem dX8_in_10 : decode cX8_in 10 = .ok (.iconst 1, 1) := by decide +kernel
theorem dX8_in_11 : decode cX8_in 11 = .ok (.goto 4, 3) := by decide +kernel
theorem dX8_in_14 : decode cX8_in 14 = .ok (.iconst 0, 1) := by decide +kernel
theorem dX8_in_15 : decode cX8_in 15 = .ok (.ireturn, 1) := by decide +kernel
theorem dX8_isHour_0 : decode cX8_isHour 0 = .ok (.iload_n 0, 1) := by decide +kernel
theorem dX8_isHour_1 : decode cX8_isHour 1 = .ok (.iconst 0, 1) := by decide +kernel
theorem dX8_isHour_2 : decode cX8_isHour 2 = .ok (.bipush 23, 2) := by decide +kernel
theorem dX8_isHour_4 : decode cX8_isHour 4 = .ok (.invokestatic 78, 3) := by decide +kernel
theorem dX8_isHour_7 : decode cX8_isHour 7 = .ok (.ireturn, 1) := by decide +kernel
theorem dX8_isBalloon_0 : decode cX8_isBalloon 0 = .ok (.iload_n 1, 1) := by decide +kernel
theorem dX8_isBalloon_1 : decode cX8_isBalloon 1 = .ok (.iconst 0, 1) := by decide +kernel
theorem dX8_isBalloon_2 : decode cX8_isBalloon 2 = .ok (.aload_n 0, 1) := by decide +kernel
theorem dX8_isBalloon_3 : decode cX8_isBalloon 3 = .ok (.getfield 82, 3) := by decide +kernel
theorem dX8_isBalloon_6 : decode cX8_isBalloon 6 = .ok (.iconst 1, 1) := by decide +kernel
theorem dX8_isBalloon_7 : decode cX8_isBalloon 7 = .ok (.isub, 1) := by decide +kernel
theorem dX8_isBalloon_8 : decode cX8_isBalloon 8 = .ok (.invokestatic 78, 3) := by decide +kernel
theorem dX8_isBalloon_11 : decode cX8_isBalloon 11 = .ok (.ireturn, 1) := by decide +kernel
theorem dX8_isKind_0 : decode cX8_isKind 0 = .ok (.iload_n 0, 1) := by decide +kernel
theorem dX8_isKind_1 : decode cX8_isKind 1 = .ok (.iconst 0, 1) := by decide +kernel
theorem dX8_isKind_2 : decode cX8_isKind 2 = .ok (.iconst 5, 1) := by decide +kernel
theorem dX8_isKind_3 : decode cX8_isKind 3 = .ok (.invokestatic 78, 3) := by decide +kernel
theorem dX8_isKind_6 : decode cX8_isKind 6 = .ok (.ifCond .eq 17, 3) := by decide +kernel
theorem dX8_isKind_9 : decode cX8_isKind 9 = .ok (.iload_n 1, 1) := by decide +kernel
theorem dX8_isKind_10 : decode cX8_isKind 10 = .ok (.iconst 0, 1) := by decide +kernel
theorem dX8_isKind_11 : decode cX8_isKind 11 = .ok (.bipush 9, 2) := by decide +kernel
theorem dX8_isKind_13 : decode cX8_isKind 13 = .ok (.invokestatic 78, 3) := by decide +kernel
theorem dX8_isKind_16 : decode cX8_isKind 16 = .ok (.ifCond .eq 7, 3) := by decide +kernel
theorem dX8_isKind_19 : decode cX8_isKind 19 = .ok (.iconst 1, 1) := by decide +kernel
theorem dX8_isKind_20 : decode cX8_isKind 20 = .ok (.goto 4, 3) := by decide +kernel
theorem dX8_isKind_23 : decode cX8_isKind 23 = .ok (.iconst 0, 1) := by decide +kernel
theorem dX8_isKind_24 : decode cX8_isKind 24 = .ok (.ireturn, 1) := by decide +kernel
theorem dX8_isPart_0 : decode cX8_isPart 0 = .ok (.iload_n 0, 1) := by decide +kernel
theorem dX8_isPart_1 : decode cX8_isPart 1 = .ok (.tableswitch 83 2 8 #[43, 50, 58, 66, 66, 50, 75], 43) := by decide +kernel
theorem dX8_isPart_44 : decode cX8_isPart 44 = .ok (.iload_n 1, 1) := by decide +kernel
theorem dX8_isPart_45 : decode cX8_isPart 45 = .ok (.iconst 0, 1) := by decide +kernel
theorem dX8_isPart_46 : decode cX8_isPart 46 = .ok (.iconst 5, 1) := by decide +kernel
theorem dX8_isPart_47 : decode cX8_isPart 47 = .ok (.invokestatic 78, 3) := by decide +kernel
theorem dX8_isPart_50 : decode cX8_isPart 50 = .ok (.ireturn, 1) := by decide +kernel
theorem dX8_isPart_51 : decode cX8_isPart 51 = .ok (.iload_n 1, 1) := by decide +kernel
theorem dX8_isPart_52 : decode cX8_isPart 52 = .ok (.iconst 0, 1) := by decide +kernel
theorem dX8_isPart_53 : decode cX8_isPart 53 = .ok (.bipush 99, 2) := by decide +kernel
theorem dX8_isPart_55 : decode cX8_isPart 55 = .ok (.invokestatic 78, 3) := by decide +kernel
theorem dX8_isPart_58 : decode cX8_isPart 58 = .ok (.ireturn, 1) := by decide +kernel
theorem dX8_isPart_59 : decode cX8_isPart 59 = .ok (.iload_n 1, 1) := by decide +kernel
theorem dX8_isPart_60 : decode cX8_isPart 60 = .ok (.iconst 1, 1) := by decide +kernel
theorem dX8_isPart_61 : decode cX8_isPart 61 = .ok (.bipush 99, 2) := by decide +kernel
theorem dX8_isPart_63 : decode cX8_isPart 63 = .ok (.invokestatic 78, 3) := by decide +kernel
theorem dX8_isPart_66 : decode cX8_isPart 66 = .ok (.ireturn, 1) := by decide +kernel
theorem dX8_isPart_67 : decode cX8_isPart 67 = .ok (.iload_n 1, 1) := by decide +kernel
theorem dX8_isPart_68 : decode cX8_isPart 68 = .ok (.iconst 0, 1) := by decide +kernel
theorem dX8_isPart_69 : decode cX8_isPart 69 = .ok (.sipush 999, 3) := by decide +kernel
theorem dX8_isPart_72 : decode cX8_isPart 72 = .ok (.invokestatic 78, 3) := by decide +kernel
theorem dX8_isPart_75 : decode cX8_isPart 75 = .ok (.ireturn, 1) := by decide +kernel
theorem dX8_isPart_76 : decode cX8_isPart 76 = .ok (.iload_n 1, 1) := by decide +kernel
theorem dX8_isPart_77 : decode cX8_isPart 77 = .ok (.iconst 0, 1) := by decide +kernel
theorem dX8_isPart_78 : decode cX8_isPart 78 = .ok (.bipush 9, 2) := by decide +kernel
theorem dX8_isPart_80 : decode cX8_isPart 80 = .ok (.invokestatic 78, 3) := by decide +kernel
theorem dX8_isPart_83 : decode cX8_isPart 83 = .ok (.ireturn, 1) := by decide +kernel
theorem dX8_isPart_84 : decode cX8_isPart 84 = .ok (.iconst 0, 1) := by decide +kernel
theorem dX8_isPart_85 : decode cX8_isPart 85 = .ok (.ireturn, 1) := by decide +kernel
theorem dX8_its_0 : decode cX8_its 0 = .ok (.aload_n 0, 1) := by decide +kernel
theorem dX8_its_1 : decode cX8_its 1 = .ok (.getfield 23, 3) := by decide +kernel
theorem dX8_its_4 : decode cX8_its 4 = .ok (.aload_n 0, 1) := by decide +kernel
theorem dX8_its_5 : decode cX8_its 5 = .ok (.getfield 85, 3) := by decide +kernel
theorem dX8_its_8 : decode cX8_its 8 = .ok (.bipush 7, 2) := by decide +kernel
theorem dX8_its_10 : decode cX8_its 10 = .ok (.iload_n 1, 1) := by decide +kernel
theorem dX8_its_11 : decode cX8_its 11 = .ok (.imul, 1) := by decide +kernel
theorem dX8_its_12 : decode cX8_its 12 = .ok (.iadd, 1) := by decide +kernel
theorem dX8_its_13 : decode cX8_its 13 = .ok (.iload_n 2, 1) := by decide +kernel
theorem dX8_its_14 : decode cX8_its 14 = .ok (.iadd, 1) := by decide +kernel
theorem dX8_its_15 : decode cX8_its 15 = .ok (.iaload, 1) := by decide +kernel
theorem dX8_its_16 : decode cX8_its 16 = .ok (.ireturn, 1) := by decide +kernel
theorem dX8_sets_0 : decode cX8_sets 0 = .ok (.aload_n 0, 1) := by decide +kernel
theorem dX8_sets_1 : decode cX8_sets 1 = .ok (.getfield 23, 3) := by decide +kernel
theorem dX8_sets_4 : decode cX8_sets 4 = .ok (.aload_n 0, 1) := by decide +kernel
theorem dX8_sets_5 : decode cX8_sets 5 = .ok (.getfield 85, 3) := by decide +kernel
theorem dX8_sets_8 : decode cX8_sets 8 = .ok (.bipush 7, 2) := by decide +kernel
theorem dX8_sets_10 : decode cX8_sets 10 = .ok (.iload_n 1, 1) := by decide +kernel
theorem dX8_sets_11 : decode cX8_sets 11 = .ok (.imul, 1) := by decide +kernel
theorem dX8_sets_12 : decode cX8_sets 12 = .ok (.iadd, 1) := by decide +kernel
theorem dX8_sets_13 : decode cX8_sets 13 = .ok (.iload_n 2, 1) := by decide +kernel
theorem dX8_sets_14 : decode cX8_sets 14 = .ok (.iadd, 1) := by decide +kernel
theorem dX8_sets_15 : decode cX8_sets 15 = .ok (.iload_n 3, 1) := by decide +kernel
theorem dX8_sets_16 : decode cX8_sets 16 = .ok (.iastore, 1) := by decide +kernel
theorem dX8_sets_17 : decode cX8_sets 17 = .ok (.return_, 1) := by decide +kernel
theorem dX8_feed_0 : decode cX8_feed 0 = .ok (.iload_n 3, 1) := by decide +kernel
theorem dX8_feed_1 : decode cX8_feed 1 = .ok (.iconst 1, 1) := by decide +kernel
theorem dX8_feed_2 : decode cX8_feed 2 = .ok (.bipush 8, 2) := by decide +kernel
theorem dX8_feed_4 : decode cX8_feed 4 = .ok (.invokestatic 78, 3) := by decide +kernel
theorem dX8_feed_7 : decode cX8_feed 7 = .ok (.ifCond .ne 5, 3) := by decide +kernel
theorem dX8_feed_10 : decode cX8_feed 10 = .ok (.iconst (-1), 1) := by decide +kernel
theorem dX8_feed_11 : decode cX8_feed 11 = .ok (.ireturn, 1) := by decide +kernel
theorem dX8_feed_12 : decode cX8_feed 12 = .ok (.aload_n 0, 1) := by decide +kernel
theorem dX8_feed_13 : decode cX8_feed 13 = .ok (.getfield 88, 3) := by decide +kernel
theorem dX8_feed_16 : decode cX8_feed 16 = .ok (.iload_n 3, 1) := by decide +kernel
theorem dX8_feed_17 : decode cX8_feed 17 = .ok (.iadd, 1) := by decide +kernel
theorem dX8_feed_18 : decode cX8_feed 18 = .ok (.sipush 240, 3) := by decide +kernel
theorem dX8_feed_21 : decode cX8_feed 21 = .ok (.if_icmp .le 6, 3) := by decide +kernel
theorem dX8_feed_24 : decode cX8_feed 24 = .ok (.bipush (-2), 2) := by decide +kernel
theorem dX8_feed_26 : decode cX8_feed 26 = .ok (.ireturn, 1) := by decide +kernel
theorem dX8_feed_27 : decode cX8_feed 27 = .ok (.iconst 0, 1) := by decide +kernel
theorem dX8_feed_28 : decode cX8_feed 28 = .ok (.istore 4, 2) := by decide +kernel
theorem dX8_feed_30 : decode cX8_feed 30 = .ok (.iload 4, 2) := by decide +kernel
theorem dX8_feed_32 : decode cX8_feed 32 = .ok (.iload_n 3, 1) := by decide +kernel
theorem dX8_feed_33 : decode cX8_feed 33 = .ok (.if_icmp .ge 40, 3) := by decide +kernel
theorem dX8_feed_36 : decode cX8_feed 36 = .ok (.aload_n 0, 1) := by decide +kernel
theorem dX8_feed_37 : decode cX8_feed 37 = .ok (.getfield 29, 3) := by decide +kernel
theorem dX8_feed_40 : decode cX8_feed 40 = .ok (.aload_n 0, 1) := by decide +kernel
theorem dX8_feed_41 : decode cX8_feed 41 = .ok (.getfield 88, 3) := by decide +kernel
theorem dX8_feed_44 : decode cX8_feed 44 = .ok (.lload_n 1, 1) := by decide +kernel
theorem dX8_feed_45 : decode cX8_feed 45 = .ok (.bipush 8, 2) := by decide +kernel
theorem dX8_feed_47 : decode cX8_feed 47 = .ok (.iload 4, 2) := by decide +kernel
theorem dX8_feed_49 : decode cX8_feed 49 = .ok (.imul, 1) := by decide +kernel
theorem dX8_feed_50 : decode cX8_feed 50 = .ok (.lshr, 1) := by decide +kernel
theorem dX8_feed_51 : decode cX8_feed 51 = .ok (.ldc2_w 91, 3) := by decide +kernel
theorem dX8_feed_54 : decode cX8_feed 54 = .ok (.land, 1) := by decide +kernel
theorem dX8_feed_55 : decode cX8_feed 55 = .ok (.l2i, 1) := by decide +kernel
theorem dX8_feed_56 : decode cX8_feed 56 = .ok (.iastore, 1) := by decide +kernel
theorem dX8_feed_57 : decode cX8_feed 57 = .ok (.aload_n 0, 1) := by decide +kernel
theorem dX8_feed_58 : decode cX8_feed 58 = .ok (.dup, 1) := by decide +kernel
theorem dX8_feed_59 : decode cX8_feed 59 = .ok (.getfield 88, 3) := by decide +kernel
theorem dX8_feed_62 : decode cX8_feed 62 = .ok (.iconst 1, 1) := by decide +kernel
theorem dX8_feed_63 : decode cX8_feed 63 = .ok (.iadd, 1) := by decide +kernel
theorem dX8_feed_64 : decode cX8_feed 64 = .ok (.putfield 88, 3) := by decide +kernel
theorem dX8_feed_67 : decode cX8_feed 67 = .ok (.iinc 4 1, 3) := by decide +kernel
theorem dX8_feed_70 : decode cX8_feed 70 = .ok (.goto (-40), 3) := by decide +kernel
theorem dX8_feed_73 : decode cX8_feed 73 = .ok (.aload_n 0, 1) := by decide +kernel
theorem dX8_feed_74 : decode cX8_feed 74 = .ok (.getfield 88, 3) := by decide +kernel
theorem dX8_feed_77 : decode cX8_feed 77 = .ok (.ireturn, 1) := by decide +kernel
theorem dX8_byteAt_0 : decode cX8_byteAt 0 = .ok (.iload_n 1, 1) := by decide +kernel
theorem dX8_byteAt_1 : decode cX8_byteAt 1 = .ok (.aload_n 0, 1) := by decide +kernel
theorem dX8_byteAt_2 : decode cX8_byteAt 2 = .ok (.getfield 88, 3) := by decide +kernel
theorem dX8_byteAt_5 : decode cX8_byteAt 5 = .ok (.if_icmp .ge 12, 3) := by decide +kernel
theorem dX8_byteAt_8 : decode cX8_byteAt 8 = .ok (.aload_n 0, 1) := by decide +kernel
theorem dX8_byteAt_9 : decode cX8_byteAt 9 = .ok (.getfield 29, 3) := by decide +kernel
theorem dX8_byteAt_12 : decode cX8_byteAt 12 = .ok (.iload_n 1, 1) := by decide +kernel
theorem dX8_byteAt_13 : decode cX8_byteAt 13 = .ok (.iaload, 1) := by decide +kernel
theorem dX8_byteAt_14 : decode cX8_byteAt 14 = .ok (.goto 4, 3) := by decide +kernel
theorem dX8_byteAt_17 : decode cX8_byteAt 17 = .ok (.iconst (-1), 1) := by decide +kernel
theorem dX8_byteAt_18 : decode cX8_byteAt 18 = .ok (.ireturn, 1) := by decide +kernel
theorem dX8_isLetter_0 : decode cX8_isLetter 0 = .ok (.iload_n 0, 1) := by decide +kernel
theorem dX8_isLetter_1 : decode cX8_isLetter 1 = .ok (.bipush 97, 2) := by decide +kernel
theorem dX8_isLetter_3 : decode cX8_isLetter 3 = .ok (.bipush 122, 2) := by decide +kernel
theorem dX8_isLetter_5 : decode cX8_isLetter 5 = .ok (.invokestatic 78, 3) := by decide +kernel
theorem dX8_isLetter_8 : decode cX8_isLetter 8 = .ok (.ireturn, 1) := by decide +kernel
theorem dX8_isDigit_0 : decode cX8_isDigit 0 = .ok (.iload_n 0, 1) := by decide +kernel
theorem dX8_isDigit_1 : decode cX8_isDigit 1 = .ok (.bipush 48, 2) := by decide +kernel
theorem dX8_isDigit_3 : decode cX8_isDigit 3 = .ok (.bipush 57, 2) := by decide +kernel
theorem dX8_isDigit_5 : decode cX8_isDigit 5 = .ok (.invokestatic 78, 3) := by decide +kernel
theorem dX8_isDigit_8 : decode cX8_isDigit 8 = .ok (.ireturn, 1) := by decide +kernel
theorem dX8_advance_0 : decode cX8_advance 0 = .ok (.aload_n 0, 1) := by decide +kernel
theorem dX8_advance_1 : decode cX8_advance 1 = .ok (.aload_n 0, 1) := by decide +kernel
theorem dX8_advance_2 : decode cX8_advance 2 = .ok (.getfield 93, 3) := by decide +kernel
theorem dX8_advance_5 : decode cX8_advance 5 = .ok (.putfield 96, 3) := by decide +kernel
theorem dX8_advance_8 : decode cX8_advance 8 = .ok (.aload_n 0, 1) := by decide +kernel
theorem dX8_advance_9 : decode cX8_advance 9 = .ok (.aload_n 0, 1) := by decide +kernel
theorem dX8_advance_10 : decode cX8_advance 10 = .ok (.getfield 96, 3) := by decide +kernel
theorem dX8_advance_13 : decode cX8_advance 13 = .ok (.invokevirtual 99, 3) := by decide +kernel
theorem dX8_advance_16 : decode cX8_advance 16 = .ok (.bipush 32, 2) := by decide +kernel
theorem dX8_advance_18 : decode cX8_advance 18 = .ok (.if_icmp .ne 16, 3) := by decide +kernel
theorem dX8_advance_21 : decode cX8_advance 21 = .ok (.aload_n 0, 1) := by decide +kernel
theorem dX8_advance_22 : decode cX8_advance 22 = .ok (.dup, 1) := by decide +kernel
theorem dX8_advance_23 : decode cX8_advance 23 = .ok (.getfield 96, 3) := by decide +kernel
theorem dX8_advance_26 : decode cX8_advance 26 = .ok (.iconst 1, 1) := by decide +kernel
theorem dX8_advance_27 : decode cX8_advance 27 = .ok (.iadd, 1) := by decide +kernel
theorem dX8_advance_28 : decode cX8_advance 28 = .ok (.putfield 96, 3) := by decide +kernel
theorem dX8_advance_31 : decode cX8_advance 31 = .ok (.goto (-23), 3) := by decide +kernel
theorem dX8_advance_34 : decode cX8_advance 34 = .ok (.aload_n 0, 1) := by decide +kernel
theorem dX8_advance_35 : decode cX8_advance 35 = .ok (.aload_n 0, 1) := by decide +kernel
theorem dX8_advance_36 : decode cX8_advance 36 = .ok (.getfield 96, 3) := by decide +kernel
theorem dX8_advance_39 : decode cX8_advance 39 = .ok (.putfield 93, 3) := by decide +kernel
theorem dX8_advance_42 : decode cX8_advance 42 = .ok (.aload_n 0, 1) := by decide +kernel
theorem dX8_advance_43 : decode cX8_advance 43 = .ok (.aload_n 0, 1) := by decide +kernel
theorem dX8_advance_44 : decode cX8_advance 44 = .ok (.getfield 96, 3) := by decide +kernel
theorem dX8_advance_47 : decode cX8_advance 47 = .ok (.invokevirtual 99, 3) := by decide +kernel
theorem dX8_advance_50 : decode cX8_advance 50 = .ok (.istore_n 1, 1) := by decide +kernel
theorem dX8_advance_51 : decode cX8_advance 51 = .ok (.aload_n 0, 1) := by decide +kernel
theorem dX8_advance_52 : decode cX8_advance 52 = .ok (.iload_n 1, 1) := by decide +kernel
theorem dX8_advance_53 : decode cX8_advance 53 = .ok (.ifCond .ge 7, 3) := by decide +kernel
theorem dX8_advance_56 : decode cX8_advance 56 = .ok (.iconst 0, 1) := by decide +kernel
theorem dX8_advance_57 : decode cX8_advance 57 = .ok (.goto 26, 3) := by decide +kernel
theorem dX8_advance_60 : decode cX8_advance 60 = .ok (.iload_n 1, 1) := by decide +kernel
theorem dX8_advance_61 : decode cX8_advance 61 = .ok (.invokestatic 103, 3) := by decide +kernel
theorem dX8_advance_64 : decode cX8_advance 64 = .ok (.ifCond .eq 7, 3) := by decide +kernel
theorem dX8_advance_67 : decode cX8_advance 67 = .ok (.iconst 1, 1) := by decide +kernel
theorem dX8_advance_68 : decode cX8_advance 68 = .ok (.goto 15, 3) := by decide +kernel
theorem dX8_advance_71 : decode cX8_advance 71 = .ok (.iload_n 1, 1) := by decide +kernel
theorem dX8_advance_72 : decode cX8_advance 72 = .ok (.invokestatic 107, 3) := by decide +kernel
theorem dX8_advance_75 : decode cX8_advance 75 = .ok (.ifCond .eq 7, 3) := by decide +kernel
theorem dX8_advance_78 : decode cX8_advance 78 = .ok (.iconst 2, 1) := by decide +kernel
theorem dX8_advance_79 : decode cX8_advance 79 = .ok (.goto 4, 3) := by decide +kernel
theorem dX8_advance_82 : decode cX8_advance 82 = .ok (.iconst 3, 1) := by decide +kernel
theorem dX8_advance_83 : decode cX8_advance 83 = .ok (.putfield 110, 3) := by decide +kernel
theorem dX8_advance_86 : decode cX8_advance 86 = .ok (.aload_n 0, 1) := by decide +kernel
theorem dX8_advance_87 : decode cX8_advance 87 = .ok (.lconst 0, 1) := by decide +kernel
theorem dX8_advance_88 : decode cX8_advance 88 = .ok (.putfield 113, 3) := by decide +kernel
theorem dX8_advance_91 : decode cX8_advance 91 = .ok (.aload_n 0, 1) := by decide +kernel
theorem dX8_advance_92 : decode cX8_advance 92 = .ok (.aload_n 0, 1) := by decide +kernel
theorem dX8_advance_93 : decode cX8_advance 93 = .ok (.getfield 110, 3) := by decide +kernel
theorem dX8_advance_96 : decode cX8_advance 96 = .ok (.iconst 2, 1) := by decide +kernel
theorem dX8_advance_97 : decode cX8_advance 97 = .ok (.if_icmp .ne 7, 3) := by decide +kernel
theorem dX8_advance_100 : decode cX8_advance 100 = .ok (.iconst 0, 1) := by decide +kernel
theorem dX8_advance_101 : decode cX8_advance 101 = .ok (.goto 4, 3) := by decide +kernel
theorem dX8_advance_104 : decode cX8_advance 104 = .ok (.iload_n 1, 1) := by decide +kernel
theorem dX8_advance_105 : decode cX8_advance 105 = .ok (.putfield 117, 3) := by decide +kernel
theorem dX8_advance_108 : decode cX8_advance 108 = .ok (.aload_n 0, 1) := by decide +kernel
theorem dX8_advance_109 : decode cX8_advance 109 = .ok (.getfield 110, 3) := by decide +kernel
theorem dX8_advance_112 : decode cX8_advance 112 = .ok (.iconst 3, 1) := by decide +kernel
theorem dX8_advance_113 : decode cX8_advance 113 = .ok (.if_icmp .ne 13, 3) := by decide +kernel
theorem dX8_advance_116 : decode cX8_advance 116 = .ok (.aload_n 0, 1) := by decide +kernel
theorem dX8_advance_117 : decode cX8_advance 117 = .ok (.dup, 1) := by decide +kernel
theorem dX8_advance_118 : decode cX8_advance 118 = .ok (.getfield 93, 3) := by decide +kernel
theorem dX8_advance_121 : decode cX8_advance 121 = .ok (.iconst 1, 1) := by decide +kernel
theorem dX8_advance_122 : decode cX8_advance 122 = .ok (.iadd, 1) := by decide +kernel
theorem dX8_advance_123 : decode cX8_advance 123 = .ok (.putfield 93, 3) := by decide +kernel
theorem dX8_advance_126 : decode cX8_advance 126 = .ok (.aload_n 0, 1) := by decide +kernel
theorem dX8_advance_127 : decode cX8_advance 127 = .ok (.getfield 110, 3) := by decide +kernel
theorem dX8_advance_130 : decode cX8_advance 130 = .ok (.iconst 1, 1) := by decide +kernel
theorem dX8_advance_131 : decode cX8_advance 131 = .ok (.if_icmp .ne 76, 3) := by decide +kernel
theorem dX8_advance_134 : decode cX8_advance 134 = .ok (.aload_n 0, 1) := by decide +kernel
theorem dX8_advance_135 : decode cX8_advance 135 = .ok (.aload_n 0, 1) := by decide +kernel
theorem dX8_advance_136 : decode cX8_advance 136 = .ok (.getfield 93, 3) := by decide +kernel
theorem dX8_advance_139 : decode cX8_advance 139 = .ok (.invokevirtual 99, 3) := by decide +kernel
theorem dX8_advance_142 : decode cX8_advance 142 = .ok (.invokestatic 103, 3) := by decide +kernel
theorem dX8_advance_145 : decode cX8_advance 145 = .ok (.ifCond .eq 62, 3) := by decide +kernel
theorem dX8_advance_148 : decode cX8_advance 148 = .ok (.aload_n 0, 1) := by decide +kernel
theorem dX8_advance_149 : decode cX8_advance 149 = .ok (.aload_n 0, 1) := by decide +kernel
theorem dX8_advance_150 : decode cX8_advance 150 = .ok (.getfield 93, 3) := by decide +kernel
theorem dX8_advance_153 : decode cX8_advance 153 = .ok (.aload_n 0, 1) := by decide +kernel
theorem dX8_advance_154 : decode cX8_advance 154 = .ok (.getfield 96, 3) := by decide +kernel
theorem dX8_advance_157 : decode cX8_advance 157 = .ok (.isub, 1) := by decide +kernel
theorem dX8_advance_158 : decode cX8_advance 158 = .ok (.bipush 8, 2) := by decide +kernel
theorem dX8_advance_160 : decode cX8_advance 160 = .ok (.if_icmp .ge 28, 3) := by decide +kernel
theorem dX8_advance_163 : decode cX8_advance 163 = .ok (.ldc2_w 120, 3) := by decide +kernel
theorem dX8_advance_166 : decode cX8_advance 166 = .ok (.aload_n 0, 1) := by decide +kernel
theorem dX8_advance_167 : decode cX8_advance 167 = .ok (.getfield 113, 3) := by decide +kernel
theorem dX8_advance_170 : decode cX8_advance 170 = .ok (.lmul, 1) := by decide +kernel
theorem dX8_advance_171 : decode cX8_advance 171 = .ok (.aload_n 0, 1) := by decide +kernel
theorem dX8_advance_172 : decode cX8_advance 172 = .ok (.aload_n 0, 1) := by decide +kernel
theorem dX8_advance_173 : decode cX8_advance 173 = .ok (.getfield 93, 3) := by decide +kernel
theorem dX8_advance_176 : decode cX8_advance 176 = .ok (.invokevirtual 99, 3) := by decide +kernel
theorem dX8_advance_179 : decode cX8_advance 179 = .ok (.i2l, 1) := by decide +kernel
theorem dX8_advance_180 : decode cX8_advance 180 = .ok (.ladd, 1) := by decide +kernel
theorem dX8_advance_181 : decode cX8_advance 181 = .ok (.ldc2_w 122, 3) := by decide +kernel
theorem dX8_advance_184 : decode cX8_advance 184 = .ok (.lsub, 1) := by decide +kernel
theorem dX8_advance_185 : decode cX8_advance 185 = .ok (.goto 6, 3) := by decide +kernel
theorem dX8_advance_188 : decode cX8_advance 188 = .ok (.ldc2_w 124, 3) := by decide +kernel
theorem dX8_advance_191 : decode cX8_advance 191 = .ok (.putfield 113, 3) := by decide +kernel
theorem dX8_advance_194 : decode cX8_advance 194 = .ok (.aload_n 0, 1) := by decide +kernel
theorem dX8_advance_195 : decode cX8_advance 195 = .ok (.dup, 1) := by decide +kernel
theorem dX8_advance_196 : decode cX8_advance 196 = .ok (.getfield 93, 3) := by decide +kernel
theorem dX8_advance_199 : decode cX8_advance 199 = .ok (.iconst 1, 1) := by decide +kernel
theorem dX8_advance_200 : decode cX8_advance 200 = .ok (.iadd, 1) := by decide +kernel
theorem dX8_advance_201 : decode cX8_advance 201 = .ok (.putfield 93, 3) := by decide +kernel
theorem dX8_advance_204 : decode cX8_advance 204 = .ok (.goto (-78), 3) := by decide +kernel
theorem dX8_advance_207 : decode cX8_advance 207 = .ok (.aload_n 0, 1) := by decide +kernel
theorem dX8_advance_208 : decode cX8_advance 208 = .ok (.getfield 110, 3) := by decide +kernel
theorem dX8_advance_211 : decode cX8_advance 211 = .ok (.iconst 2, 1) := by decide +kernel
theorem dX8_advance_212 : decode cX8_advance 212 = .ok (.if_icmp .ne 70, 3) := by decide +kernel
theorem dX8_advance_215 : decode cX8_advance 215 = .ok (.aload_n 0, 1) := by decide +kernel
theorem dX8_advance_216 : decode cX8_advance 216 = .ok (.aload_n 0, 1) := by decide +kernel
theorem dX8_advance_217 : decode cX8_advance 217 = .ok (.getfield 93, 3) := by decide +kernel
theorem dX8_advance_220 : decode cX8_advance 220 = .ok (.invokevirtual 99, 3) := by decide +kernel
theorem dX8_advance_223 : decode cX8_advance 223 = .ok (.invokestatic 107, 3) := by decide +kernel
theorem dX8_advance_226 : decode cX8_advance 226 = .ok (.ifCond .eq 56, 3) := by decide +kernel
theorem dX8_advance_229 : decode cX8_advance 229 = .ok (.aload_n 0, 1) := by decide +kernel
theorem dX8_advance_230 : decode cX8_advance 230 = .ok (.aload_n 0, 1) := by decide +kernel
theorem dX8_advance_231 : decode cX8_advance 231 = .ok (.getfield 93, 3) := by decide +kernel
theorem dX8_advance_234 : decode cX8_advance 234 = .ok (.aload_n 0, 1) := by decide +kernel
theorem dX8_advance_235 : decode cX8_advance 235 = .ok (.getfield 96, 3) := by decide +kernel
theorem dX8_advance_238 : decode cX8_advance 238 = .ok (.isub, 1) := by decide +kernel
theorem dX8_advance_239 : decode cX8_advance 239 = .ok (.iconst 3, 1) := by decide +kernel
theorem dX8_advance_240 : decode cX8_advance 240 = .ok (.if_icmp .ge 25, 3) := by decide +kernel
theorem dX8_advance_243 : decode cX8_advance 243 = .ok (.bipush 10, 2) := by decide +kernel
theorem dX8_advance_245 : decode cX8_advance 245 = .ok (.aload_n 0, 1) := by decide +kernel
theorem dX8_advance_246 : decode cX8_advance 246 = .ok (.getfield 117, 3) := by decide +kernel
theorem dX8_advance_249 : decode cX8_advance 249 = .ok (.imul, 1) := by decide +kernel
theorem dX8_advance_250 : decode cX8_advance 250 = .ok (.aload_n 0, 1) := by decide +kernel
theorem dX8_advance_251 : decode cX8_advance 251 = .ok (.aload_n 0, 1) := by decide +kernel
theorem dX8_advance_252 : decode cX8_advance 252 = .ok (.getfield 93, 3) := by decide +kernel
theorem dX8_advance_255 : decode cX8_advance 255 = .ok (.invokevirtual 99, 3) := by decide +kernel
theorem dX8_advance_258 : decode cX8_advance 258 = .ok (.iadd, 1) := by decide +kernel
theorem dX8_advance_259 : decode cX8_advance 259 = .ok (.bipush 48, 2) := by decide +kernel
theorem dX8_advance_261 : decode cX8_advance 261 = .ok (.isub, 1) := by decide +kernel
theorem dX8_advance_262 : decode cX8_advance 262 = .ok (.goto 4, 3) := by decide +kernel
theorem dX8_advance_265 : decode cX8_advance 265 = .ok (.iconst (-1), 1) := by decide +kernel
theorem dX8_advance_266 : decode cX8_advance 266 = .ok (.putfield 117, 3) := by decide +kernel
theorem dX8_advance_269 : decode cX8_advance 269 = .ok (.aload_n 0, 1) := by decide +kernel
theorem dX8_advance_270 : decode cX8_advance 270 = .ok (.dup, 1) := by decide +kernel
theorem dX8_advance_271 : decode cX8_advance 271 = .ok (.getfield 93, 3) := by decide +kernel
theorem dX8_advance_274 : decode cX8_advance 274 = .ok (.iconst 1, 1) := by decide +kernel
theorem dX8_advance_275 : decode cX8_advance 275 = .ok (.iadd, 1) := by decide +kernel
theorem dX8_advance_276 : decode cX8_advance 276 = .ok (.putfield 93, 3) := by decide +kernel
theorem dX8_advance_279 : decode cX8_advance 279 = .ok (.goto (-72), 3) := by decide +kernel
theorem dX8_advance_282 : decode cX8_advance 282 = .ok (.return_, 1) := by decide +kernel
theorem dX8_isWord_0 : decode cX8_isWord 0 = .ok (.aload_n 0, 1) := by decide +kernel
theorem dX8_isWord_1 : decode cX8_isWord 1 = .ok (.getfield 110, 3) := by decide +kernel
theorem dX8_isWord_4 : decode cX8_isWord 4 = .ok (.iconst 1, 1) := by decide +kernel
theorem dX8_isWord_5 : decode cX8_isWord 5 = .ok (.if_icmp .ne 16, 3) := by decide +kernel
theorem dX8_isWord_8 : decode cX8_isWord 8 = .ok (.aload_n 0, 1) := by decide +kernel
theorem dX8_isWord_9 : decode cX8_isWord 9 = .ok (.getfield 113, 3) := by decide +kernel
theorem dX8_isWord_12 : decode cX8_isWord 12 = .ok (.lload_n 1, 1) := by decide +kernel
theorem dX8_isWord_13 : decode cX8_isWord 13 = .ok (.lcmp, 1) := by decide +kernel
theorem dX8_isWord_14 : decode cX8_isWord 14 = .ok (.ifCond .ne 7, 3) := by decide +kernel
theorem dX8_isWord_17 : decode cX8_isWord 17 = .ok (.iconst 1, 1) := by decide +kernel
theorem dX8_isWord_18 : decode cX8_isWord 18 = .ok (.goto 4, 3) := by decide +kernel
theorem dX8_isWord_21 : decode cX8_isWord 21 = .ok (.iconst 0, 1) := by decide +kernel
theorem dX8_isWord_22 : decode cX8_isWord 22 = .ok (.ireturn, 1) := by decide +kernel
theorem dX8_isMark_0 : decode cX8_isMark 0 = .ok (.aload_n 0, 1) := by decide +kernel
theorem dX8_isMark_1 : decode cX8_isMark 1 = .ok (.getfield 110, 3) := by decide +kernel
theorem dX8_isMark_4 : decode cX8_isMark 4 = .ok (.iconst 3, 1) := by decide +kernel
theorem dX8_isMark_5 : decode cX8_isMark 5 = .ok (.if_icmp .ne 15, 3) := by decide +kernel
theorem dX8_isMark_8 : decode cX8_isMark 8 = .ok (.aload_n 0, 1) := by decide +kernel
theorem dX8_isMark_9 : decode cX8_isMark 9 = .ok (.getfield 117, 3) := by decide +kernel
theorem dX8_isMark_12 : decode cX8_isMark 12 = .ok (.iload_n 1, 1) := by decide +kernel
theorem dX8_isMark_13 : decode cX8_isMark 13 = .ok (.if_icmp .ne 7, 3) := by decide +kernel
theorem dX8_isMark_16 : decode cX8_isMark 16 = .ok (.iconst 1, 1) := by decide +kernel
theorem dX8_isMark_17 : decode cX8_isMark 17 = .ok (.goto 4, 3) := by decide +kernel
theorem dX8_isMark_20 : decode cX8_isMark 20 = .ok (.iconst 0, 1) := by decide +kernel
theorem dX8_isMark_21 : decode cX8_isMark 21 = .ok (.ireturn, 1) := by decide +kernel
theorem dX8_kindHere_0 : decode cX8_kindHere 0 = .ok (.aload_n 0, 1) := by decide +kernel
theorem dX8_kindHere_1 : decode cX8_kindHere 1 = .ok (.ldc2_w 126, 3) := by decide +kernel
theorem dX8_kindHere_4 : decode cX8_kindHere 4 = .ok (.invokevirtual 128, 3) := by decide +kernel
theorem dX8_kindHere_7 : decode cX8_kindHere 7 = .ok (.ifCond .eq 7, 3) := by decide +kernel
theorem dX8_kindHere_10 : decode cX8_kindHere 10 = .ok (.iconst 0, 1) := by decide +kernel
theorem dX8_kindHere_11 : decode cX8_kindHere 11 = .ok (.goto 74, 3) := by decide +kernel
theorem dX8_kindHere_14 : decode cX8_kindHere 14 = .ok (.aload_n 0, 1) := by decide +kernel
theorem dX8_kindHere_15 : decode cX8_kindHere 15 = .ok (.ldc2_w 132, 3) := by decide +kernel
theorem dX8_kindHere_18 : decode cX8_kindHere 18 = .ok (.invokevirtual 128, 3) := by decide +kernel
theorem dX8_kindHere_21 : decode cX8_kindHere 21 = .ok (.ifCond .eq 7, 3) := by decide +kernel
theorem dX8_kindHere_24 : decode cX8_kindHere 24 = .ok (.iconst 1, 1) := by decide +kernel
theorem dX8_kindHere_25 : decode cX8_kindHere 25 = .ok (.goto 60, 3) := by decide +kernel
theorem dX8_kindHere_28 : decode cX8_kindHere 28 = .ok (.aload_n 0, 1) := by decide +kernel
theorem dX8_kindHere_29 : decode cX8_kindHere 29 = .ok (.ldc2_w 134, 3) := by decide +kernel
theorem dX8_kindHere_32 : decode cX8_kindHere 32 = .ok (.invokevirtual 128, 3) := by decide +kernel
theorem dX8_kindHere_35 : decode cX8_kindHere 35 = .ok (.ifCond .eq 7, 3) := by decide +kernel
theorem dX8_kindHere_38 : decode cX8_kindHere 38 = .ok (.iconst 2, 1) := by decide +kernel
theorem dX8_kindHere_39 : decode cX8_kindHere 39 = .ok (.goto 46, 3) := by decide +kernel
theorem dX8_kindHere_42 : decode cX8_kindHere 42 = .ok (.aload_n 0, 1) := by decide +kernel
theorem dX8_kindHere_43 : decode cX8_kindHere 43 = .ok (.ldc2_w 136, 3) := by decide +kernel
theorem dX8_kindHere_46 : decode cX8_kindHere 46 = .ok (.invokevirtual 128, 3) := by decide +kernel
theorem dX8_kindHere_49 : decode cX8_kindHere 49 = .ok (.ifCond .eq 7, 3) := by decide +kernel
theorem dX8_kindHere_52 : decode cX8_kindHere 52 = .ok (.iconst 3, 1) := by decide +kernel
theorem dX8_kindHere_53 : decode cX8_kindHere 53 = .ok (.goto 32, 3) := by decide +kernel
theorem dX8_kindHere_56 : decode cX8_kindHere 56 = .ok (.aload_n 0, 1) := by decide +kernel
theorem dX8_kindHere_57 : decode cX8_kindHere 57 = .ok (.ldc2_w 138, 3) := by decide +kernel
theorem dX8_kindHere_60 : decode cX8_kindHere 60 = .ok (.invokevirtual 128, 3) := by decide +kernel
theorem dX8_kindHere_63 : decode cX8_kindHere 63 = .ok (.ifCond .eq 7, 3) := by decide +kernel
theorem dX8_kindHere_66 : decode cX8_kindHere 66 = .ok (.iconst 4, 1) := by decide +kernel
theorem dX8_kindHere_67 : decode cX8_kindHere 67 = .ok (.goto 18, 3) := by decide +kernel
theorem dX8_kindHere_70 : decode cX8_kindHere 70 = .ok (.aload_n 0, 1) := by decide +kernel
theorem dX8_kindHere_71 : decode cX8_kindHere 71 = .ok (.ldc2_w 140, 3) := by decide +kernel
theorem dX8_kindHere_74 : decode cX8_kindHere 74 = .ok (.invokevirtual 128, 3) := by decide +kernel
theorem dX8_kindHere_77 : decode cX8_kindHere 77 = .ok (.ifCond .eq 7, 3) := by decide +kernel
theorem dX8_kindHere_80 : decode cX8_kindHere 80 = .ok (.iconst 5, 1) := by decide +kernel
theorem dX8_kindHere_81 : decode cX8_kindHere 81 = .ok (.goto 4, 3) := by decide +kernel
theorem dX8_kindHere_84 : decode cX8_kindHere 84 = .ok (.iconst (-1), 1) := by decide +kernel
theorem dX8_kindHere_85 : decode cX8_kindHere 85 = .ok (.ireturn, 1) := by decide +kernel
theorem dX8_wantNumber_0 : decode cX8_wantNumber 0 = .ok (.aload_n 0, 1) := by decide +kernel
theorem dX8_wantNumber_1 : decode cX8_wantNumber 1 = .ok (.getfield 117, 3) := by decide +kernel
theorem dX8_wantNumber_4 : decode cX8_wantNumber 4 = .ok (.istore_n 3, 1) := by decide +kernel
theorem dX8_wantNumber_5 : decode cX8_wantNumber 5 = .ok (.aload_n 0, 1) := by decide +kernel
theorem dX8_wantNumber_6 : decode cX8_wantNumber 6 = .ok (.aload_n 0, 1) := by decide +kernel
theorem dX8_wantNumber_7 : decode cX8_wantNumber 7 = .ok (.getfield 142, 3) := by decide +kernel
theorem dX8_wantNumber_10 : decode cX8_wantNumber 10 = .ok (.ifCond .eq 24, 3) := by decide +kernel
theorem dX8_wantNumber_13 : decode cX8_wantNumber 13 = .ok (.aload_n 0, 1) := by decide +kernel
theorem dX8_wantNumber_14 : decode cX8_wantNumber 14 = .ok (.getfield 110, 3) := by decide +kernel
theorem dX8_wantNumber_17 : decode cX8_wantNumber 17 = .ok (.iconst 2, 1) := by decide +kernel
theorem dX8_wantNumber_18 : decode cX8_wantNumber 18 = .ok (.if_icmp .ne 16, 3) := by decide +kernel
theorem dX8_wantNumber_21 : decode cX8_wantNumber 21 = .ok (.iload_n 3, 1) := by decide +kernel
theorem dX8_wantNumber_22 : decode cX8_wantNumber 22 = .ok (.iload_n 1, 1) := by decide +kernel
theorem dX8_wantNumber_23 : decode cX8_wantNumber 23 = .ok (.iload_n 2, 1) := by decide +kernel
theorem dX8_wantNumber_24 : decode cX8_wantNumber 24 = .ok (.invokestatic 78, 3) := by decide +kernel
theorem dX8_wantNumber_27 : decode cX8_wantNumber 27 = .ok (.ifCond .eq 7, 3) := by decide +kernel
theorem dX8_wantNumber_30 : decode cX8_wantNumber 30 = .ok (.iconst 1, 1) := by decide +kernel
theorem dX8_wantNumber_31 : decode cX8_wantNumber 31 = .ok (.goto 4, 3) := by decide +kernel
theorem dX8_wantNumber_34 : decode cX8_wantNumber 34 = .ok (.iconst 0, 1) := by decide +kernel
theorem dX8_wantNumber_35 : decode cX8_wantNumber 35 = .ok (.putfield 142, 3) := by decide +kernel
theorem dX8_wantNumber_38 : decode cX8_wantNumber 38 = .ok (.aload_n 0, 1) := by decide +kernel
theorem dX8_wantNumber_39 : decode cX8_wantNumber 39 = .ok (.getfield 142, 3) := by decide +kernel
theorem dX8_wantNumber_42 : decode cX8_wantNumber 42 = .ok (.ifCond .eq 7, 3) := by decide +kernel
theorem dX8_wantNumber_45 : decode cX8_wantNumber 45 = .ok (.aload_n 0, 1) := by decide +kernel
theorem dX8_wantNumber_46 : decode cX8_wantNumber 46 = .ok (.invokevirtual 146, 3) := by decide +kernel
theorem dX8_wantNumber_49 : decode cX8_wantNumber 49 = .ok (.iload_n 3, 1) := by decide +kernel
theorem dX8_wantNumber_50 : decode cX8_wantNumber 50 = .ok (.ireturn, 1) := by decide +kernel
theorem dX8_wantEnd_0 : decode cX8_wantEnd 0 = .ok (.aload_n 0, 1) := by decide +kernel
theorem dX8_wantEnd_1 : decode cX8_wantEnd 1 = .ok (.aload_n 0, 1) := by decide +kernel
theorem dX8_wantEnd_2 : decode cX8_wantEnd 2 = .ok (.getfield 142, 3) := by decide +kernel
theorem dX8_wantEnd_5 : decode cX8_wantEnd 5 = .ok (.ifCond .eq 16, 3) := by decide +kernel
theorem dX8_wantEnd_8 : decode cX8_wantEnd 8 = .ok (.aload_n 0, 1) := by decide +kernel
theorem dX8_wantEnd_9 : decode cX8_wantEnd 9 = .ok (.bipush 59, 2) := by decide +kernel
theorem dX8_wantEnd_11 : decode cX8_wantEnd 11 = .ok (.invokevirtual 149, 3) := by decide +kernel
theorem dX8_wantEnd_14 : decode cX8_wantEnd 14 = .ok (.ifCond .eq 7, 3) := by decide +kernel
theorem dX8_wantEnd_17 : decode cX8_wantEnd 17 = .ok (.iconst 1, 1) := by decide +kernel
theorem dX8_wantEnd_18 : decode cX8_wantEnd 18 = .ok (.goto 4, 3) := by decide +kernel
theorem dX8_wantEnd_21 : decode cX8_wantEnd 21 = .ok (.iconst 0, 1) := by decide +kernel
theorem dX8_wantEnd_22 : decode cX8_wantEnd 22 = .ok (.putfield 142, 3) := by decide +kernel
theorem dX8_wantEnd_25 : decode cX8_wantEnd 25 = .ok (.aload_n 0, 1) := by decide +kernel
theorem dX8_wantEnd_26 : decode cX8_wantEnd 26 = .ok (.getfield 142, 3) := by decide +kernel
theorem dX8_wantEnd_29 : decode cX8_wantEnd 29 = .ok (.ifCond .eq 7, 3) := by decide +kernel
theorem dX8_wantEnd_32 : decode cX8_wantEnd 32 = .ok (.aload_n 0, 1) := by decide +kernel
theorem dX8_wantEnd_33 : decode cX8_wantEnd 33 = .ok (.invokevirtual 146, 3) := by decide +kernel
theorem dX8_wantEnd_36 : decode cX8_wantEnd 36 = .ok (.return_, 1) := by decide +kernel
theorem dX8_mayWant_0 : decode cX8_mayWant 0 = .ok (.aload_n 0, 1) := by decide +kernel
theorem dX8_mayWant_1 : decode cX8_mayWant 1 = .ok (.getfield 142, 3) := by decide +kernel
theorem dX8_mayWant_4 : decode cX8_mayWant 4 = .ok (.ifCond .eq 11, 3) := by decide +kernel
theorem dX8_mayWant_7 : decode cX8_mayWant 7 = .ok (.aload_n 0, 1) := by decide +kernel
theorem dX8_mayWant_8 : decode cX8_mayWant 8 = .ok (.lload_n 1, 1) := by decide +kernel
theorem dX8_mayWant_9 : decode cX8_mayWant 9 = .ok (.invokevirtual 128, 3) := by decide +kernel
theorem dX8_mayWant_12 : decode cX8_mayWant 12 = .ok (.ifCond .ne 6, 3) := by decide +kernel
theorem dX8_mayWant_15 : decode cX8_mayWant 15 = .ok (.iload 5, 2) := by decide +kernel
theorem dX8_mayWant_17 : decode cX8_mayWant 17 = .ok (.ireturn, 1) := by decide +kernel
theorem dX8_mayWant_18 : decode cX8_mayWant 18 = .ok (.aload_n 0, 1) := by decide +kernel
theorem dX8_mayWant_19 : decode cX8_mayWant 19 = .ok (.invokevirtual 146, 3) := by decide +kernel
theorem dX8_mayWant_22 : decode cX8_mayWant 22 = .ok (.aload_n 0, 1) := by decide +kernel
theorem dX8_mayWant_23 : decode cX8_mayWant 23 = .ok (.iload_n 3, 1) := by decide +kernel
theorem dX8_mayWant_24 : decode cX8_mayWant 24 = .ok (.iload 4, 2) := by decide +kernel
theorem dX8_mayWant_26 : decode cX8_mayWant 26 = .ok (.invokevirtual 152, 3) := by decide +kernel
theorem dX8_mayWant_29 : decode cX8_mayWant 29 = .ok (.ireturn, 1) := by decide +kernel
theorem dX8_wantBalloon_0 : decode cX8_wantBalloon 0 = .ok (.aload_n 0, 1) := by decide +kernel
theorem dX8_wantBalloon_1 : decode cX8_wantBalloon 1 = .ok (.aload_n 0, 1) := by decide +kernel
theorem dX8_wantBalloon_2 : decode cX8_wantBalloon 2 = .ok (.getfield 156, 3) := by decide +kernel
theorem dX8_wantBalloon_5 : decode cX8_wantBalloon 5 = .ok (.bipush 6, 2) := by decide +kernel
theorem dX8_wantBalloon_7 : decode cX8_wantBalloon 7 = .ok (.if_icmp .ge 7, 3) := by decide +kernel
theorem dX8_wantBalloon_10 : decode cX8_wantBalloon 10 = .ok (.iconst 1, 1) := by decide +kernel
theorem dX8_wantBalloon_11 : decode cX8_wantBalloon 11 = .ok (.goto 4, 3) := by decide +kernel
theorem dX8_wantBalloon_14 : decode cX8_wantBalloon 14 = .ok (.iconst 0, 1) := by decide +kernel
theorem dX8_wantBalloon_15 : decode cX8_wantBalloon 15 = .ok (.putfield 142, 3) := by decide +kernel
theorem dX8_wantBalloon_18 : decode cX8_wantBalloon 18 = .ok (.aload_n 0, 1) := by decide +kernel
theorem dX8_wantBalloon_19 : decode cX8_wantBalloon 19 = .ok (.getfield 142, 3) := by decide +kernel
theorem dX8_wantBalloon_22 : decode cX8_wantBalloon 22 = .ok (.ifCond .eq 7, 3) := by decide +kernel
theorem dX8_wantBalloon_25 : decode cX8_wantBalloon 25 = .ok (.aload_n 0, 1) := by decide +kernel
theorem dX8_wantBalloon_26 : decode cX8_wantBalloon 26 = .ok (.invokevirtual 146, 3) := by decide +kernel
theorem dX8_wantBalloon_29 : decode cX8_wantBalloon 29 = .ok (.aload_n 0, 1) := by decide +kernel
theorem dX8_wantBalloon_30 : decode cX8_wantBalloon 30 = .ok (.iconst 0, 1) := by decide +kernel
theorem dX8_wantBalloon_31 : decode cX8_wantBalloon 31 = .ok (.bipush 9, 2) := by decide +kernel
theorem dX8_wantBalloon_33 : decode cX8_wantBalloon 33 = .ok (.invokevirtual 152, 3) := by decide +kernel
theorem dX8_wantBalloon_36 : decode cX8_wantBalloon 36 = .ok (.istore_n 2, 1) := by decide +kernel
theorem dX8_wantBalloon_37 : decode cX8_wantBalloon 37 = .ok (.aload_n 0, 1) := by decide +kernel
theorem dX8_wantBalloon_38 : decode cX8_wantBalloon 38 = .ok (.aload_n 0, 1) := by decide +kernel
theorem dX8_wantBalloon_39 : decode cX8_wantBalloon 39 = .ok (.getfield 142, 3) := by decide +kernel
theorem dX8_wantBalloon_42 : decode cX8_wantBalloon 42 = .ok (.ifCond .eq 17, 3) := by decide +kernel
theorem dX8_wantBalloon_45 : decode cX8_wantBalloon 45 = .ok (.aload_n 0, 1) := by decide +kernel
theorem dX8_wantBalloon_46 : decode cX8_wantBalloon 46 = .ok (.ldc2_w 159, 3) := by decide +kernel
theorem dX8_wantBalloon_49 : decode cX8_wantBalloon 49 = .ok (.invokevirtual 128, 3) := by decide +kernel
theorem dX8_wantBalloon_52 : decode cX8_wantBalloon 52 = .ok (.ifCond .eq 7, 3) := by decide +kernel
theorem dX8_wantBalloon_55 : decode cX8_wantBalloon 55 = .ok (.iconst 1, 1) := by decide +kernel
theorem dX8_wantBalloon_56 : decode cX8_wantBalloon 56 = .ok (.goto 4, 3) := by decide +kernel
theorem dX8_wantBalloon_59 : decode cX8_wantBalloon 59 = .ok (.iconst 0, 1) := by decide +kernel
theorem dX8_wantBalloon_60 : decode cX8_wantBalloon 60 = .ok (.putfield 142, 3) := by decide +kernel
theorem dX8_wantBalloon_63 : decode cX8_wantBalloon 63 = .ok (.aload_n 0, 1) := by decide +kernel
theorem dX8_wantBalloon_64 : decode cX8_wantBalloon 64 = .ok (.getfield 142, 3) := by decide +kernel
theorem dX8_wantBalloon_67 : decode cX8_wantBalloon 67 = .ok (.ifCond .eq 7, 3) := by decide +kernel
theorem dX8_wantBalloon_70 : decode cX8_wantBalloon 70 = .ok (.aload_n 0, 1) := by decide +kernel
theorem dX8_wantBalloon_71 : decode cX8_wantBalloon 71 = .ok (.invokevirtual 146, 3) := by decide +kernel
theorem dX8_wantBalloon_74 : decode cX8_wantBalloon 74 = .ok (.aload_n 0, 1) := by decide +kernel
theorem dX8_wantBalloon_75 : decode cX8_wantBalloon 75 = .ok (.iconst 0, 1) := by decide +kernel
theorem dX8_wantBalloon_76 : decode cX8_wantBalloon 76 = .ok (.iconst 5, 1) := by decide +kernel
theorem dX8_wantBalloon_77 : decode cX8_wantBalloon 77 = .ok (.invokevirtual 152, 3) := by decide +kernel
theorem dX8_wantBalloon_80 : decode cX8_wantBalloon 80 = .ok (.istore_n 3, 1) := by decide +kernel
theorem dX8_wantBalloon_81 : decode cX8_wantBalloon 81 = .ok (.aload_n 0, 1) := by decide +kernel
theorem dX8_wantBalloon_82 : decode cX8_wantBalloon 82 = .ok (.ldc2_w 161, 3) := by decide +kernel
theorem dX8_wantBalloon_85 : decode cX8_wantBalloon 85 = .ok (.iconst 0, 1) := by decide +kernel
theorem dX8_wantBalloon_86 : decode cX8_wantBalloon 86 = .ok (.sipush 999, 3) := by decide +kernel
theorem dX8_wantBalloon_89 : decode cX8_wantBalloon 89 = .ok (.bipush 100, 2) := by decide +kernel
theorem dX8_wantBalloon_91 : decode cX8_wantBalloon 91 = .ok (.invokevirtual 163, 3) := by decide +kernel
theorem dX8_wantBalloon_94 : decode cX8_wantBalloon 94 = .ok (.istore 4, 2) := by decide +kernel
theorem dX8_wantBalloon_96 : decode cX8_wantBalloon 96 = .ok (.aload_n 0, 1) := by decide +kernel
theorem dX8_wantBalloon_97 : decode cX8_wantBalloon 97 = .ok (.ldc2_w 167, 3) := by decide +kernel
theorem dX8_wantBalloon_100 : decode cX8_wantBalloon 100 = .ok (.iconst 0, 1) := by decide +kernel
theorem dX8_wantBalloon_101 : decode cX8_wantBalloon 101 = .ok (.sipush 999, 3) := by decide +kernel
theorem dX8_wantBalloon_104 : decode cX8_wantBalloon 104 = .ok (.bipush 50, 2) := by decide +kernel
theorem dX8_wantBalloon_106 : decode cX8_wantBalloon 106 = .ok (.invokevirtual 163, 3) := by decide +kernel
theorem dX8_wantBalloon_109 : decode cX8_wantBalloon 109 = .ok (.istore 5, 2) := by decide +kernel
theorem dX8_wantBalloon_111 : decode cX8_wantBalloon 111 = .ok (.aload_n 0, 1) := by decide +kernel
theorem dX8_wantBalloon_112 : decode cX8_wantBalloon 112 = .ok (.ldc2_w 169, 3) := by decide +kernel
theorem dX8_wantBalloon_115 : decode cX8_wantBalloon 115 = .ok (.iconst 1, 1) := by decide +kernel
theorem dX8_wantBalloon_116 : decode cX8_wantBalloon 116 = .ok (.bipush 99, 2) := by decide +kernel
theorem dX8_wantBalloon_118 : decode cX8_wantBalloon 118 = .ok (.bipush 50, 2) := by decide +kernel
theorem dX8_wantBalloon_120 : decode cX8_wantBalloon 120 = .ok (.invokevirtual 163, 3) := by decide +kernel
theorem dX8_wantBalloon_123 : decode cX8_wantBalloon 123 = .ok (.istore 6, 2) := by decide +kernel
theorem dX8_wantBalloon_125 : decode cX8_wantBalloon 125 = .ok (.aload_n 0, 1) := by decide +kernel
theorem dX8_wantBalloon_126 : decode cX8_wantBalloon 126 = .ok (.ldc2_w 171, 3) := by decide +kernel
theorem dX8_wantBalloon_129 : decode cX8_wantBalloon 129 = .ok (.iconst 0, 1) := by decide +kernel
theorem dX8_wantBalloon_130 : decode cX8_wantBalloon 130 = .ok (.bipush 99, 2) := by decide +kernel
theorem dX8_wantBalloon_132 : decode cX8_wantBalloon 132 = .ok (.bipush 20, 2) := by decide +kernel
theorem dX8_wantBalloon_134 : decode cX8_wantBalloon 134 = .ok (.invokevirtual 163, 3) := by decide +kernel
theorem dX8_wantBalloon_137 : decode cX8_wantBalloon 137 = .ok (.istore 7, 2) := by decide +kernel
theorem dX8_wantBalloon_139 : decode cX8_wantBalloon 139 = .ok (.aload_n 0, 1) := by decide +kernel
theorem dX8_wantBalloon_140 : decode cX8_wantBalloon 140 = .ok (.ldc2_w 173, 3) := by decide +kernel
theorem dX8_wantBalloon_143 : decode cX8_wantBalloon 143 = .ok (.iconst 0, 1) := by decide +kernel
theorem dX8_wantBalloon_144 : decode cX8_wantBalloon 144 = .ok (.bipush 9, 2) := by decide +kernel
theorem dX8_wantBalloon_146 : decode cX8_wantBalloon 146 = .ok (.iconst 1, 1) := by decide +kernel
theorem dX8_wantBalloon_147 : decode cX8_wantBalloon 147 = .ok (.invokevirtual 163, 3) := by decide +kernel
theorem dX8_wantBalloon_150 : decode cX8_wantBalloon 150 = .ok (.istore 8, 2) := by decide +kernel
theorem dX8_wantBalloon_152 : decode cX8_wantBalloon 152 = .ok (.aload_n 0, 1) := by decide +kernel
theorem dX8_wantBalloon_153 : decode cX8_wantBalloon 153 = .ok (.invokevirtual 175, 3) := by decide +kernel
theorem dX8_wantBalloon_156 : decode cX8_wantBalloon 156 = .ok (.aload_n 0, 1) := by decide +kernel
theorem dX8_wantBalloon_157 : decode cX8_wantBalloon 157 = .ok (.getfield 142, 3) := by decide +kernel
theorem dX8_wantBalloon_160 : decode cX8_wantBalloon 160 = .ok (.ifCond .eq 119, 3) := by decide +kernel
theorem dX8_wantBalloon_163 : decode cX8_wantBalloon 163 = .ok (.aload_n 0, 1) := by decide +kernel
theorem dX8_wantBalloon_164 : decode cX8_wantBalloon 164 = .ok (.getfield 32, 3) := by decide +kernel
theorem dX8_wantBalloon_167 : decode cX8_wantBalloon 167 = .ok (.aload_n 0, 1) := by decide +kernel
theorem dX8_wantBalloon_168 : decode cX8_wantBalloon 168 = .ok (.getfield 156, 3) := by decide +kernel
theorem dX8_wantBalloon_171 : decode cX8_wantBalloon 171 = .ok (.iload_n 1, 1) := by decide +kernel
theorem dX8_wantBalloon_172 : decode cX8_wantBalloon 172 = .ok (.iastore, 1) := by decide +kernel
theorem dX8_wantBalloon_173 : decode cX8_wantBalloon 173 = .ok (.aload_n 0, 1) := by decide +kernel
theorem dX8_wantBalloon_174 : decode cX8_wantBalloon 174 = .ok (.getfield 35, 3) := by decide +kernel
theorem dX8_wantBalloon_177 : decode cX8_wantBalloon 177 = .ok (.aload_n 0, 1) := by decide +kernel
theorem dX8_wantBalloon_178 : decode cX8_wantBalloon 178 = .ok (.getfield 156, 3) := by decide +kernel
theorem dX8_wantBalloon_181 : decode cX8_wantBalloon 181 = .ok (.iload_n 2, 1) := by decide +kernel
theorem dX8_wantBalloon_182 : decode cX8_wantBalloon 182 = .ok (.iastore, 1) := by decide +kernel
theorem dX8_wantBalloon_183 : decode cX8_wantBalloon 183 = .ok (.bipush 7, 2) := by decide +kernel
theorem dX8_wantBalloon_185 : decode cX8_wantBalloon 185 = .ok (.aload_n 0, 1) := by decide +kernel
theorem dX8_wantBalloon_186 : decode cX8_wantBalloon 186 = .ok (.getfield 156, 3) := by decide +kernel
theorem dX8_wantBalloon_189 : decode cX8_wantBalloon 189 = .ok (.imul, 1) := by decide +kernel
theorem dX8_wantBalloon_190 : decode cX8_wantBalloon 190 = .ok (.istore 9, 2) := by decide +kernel
theorem dX8_wantBalloon_192 : decode cX8_wantBalloon 192 = .ok (.aload_n 0, 1) := by decide +kernel
end
section
theorem dX8_wantBalloon_193 : decode cX8_wantBalloon 193 = .ok (.getfield 38, 3) := by decide +kernel
theorem dX8_wantBalloon_196 : decode cX8_wantBalloon 196 = .ok (.iload 9, 2) := by decide +kernel
theorem dX8_wantBalloon_198 : decode cX8_wantBalloon 198 = .ok (.iconst 1, 1) := by decide +kernel
theorem dX8_wantBalloon_199 : decode cX8_wantBalloon 199 = .ok (.iadd, 1) := by decide +kernel
theorem dX8_wantBalloon_200 : decode cX8_wantBalloon 200 = .ok (.iload_n 3, 1) := by decide +kernel
theorem dX8_wantBalloon_201 : decode cX8_wantBalloon 201 = .ok (.iastore, 1) := by decide +kernel
theorem dX8_wantBalloon_202 : decode cX8_wantBalloon 202 = .ok (.aload_n 0, 1) := by decide +kernel
theorem dX8_wantBalloon_203 : decode cX8_wantBalloon 203 = .ok (.getfield 38, 3) := by decide +kernel
theorem dX8_wantBalloon_206 : decode cX8_wantBalloon 206 = .ok (.iload 9, 2) := by decide +kernel
theorem dX8_wantBalloon_208 : decode cX8_wantBalloon 208 = .ok (.iconst 2, 1) := by decide +kernel
theorem dX8_wantBalloon_209 : decode cX8_wantBalloon 209 = .ok (.iadd, 1) := by decide +kernel
theorem dX8_wantBalloon_210 : decode cX8_wantBalloon 210 = .ok (.iconst 0, 1) := by decide +kernel
theorem dX8_wantBalloon_211 : decode cX8_wantBalloon 211 = .ok (.iastore, 1) := by decide +kernel
theorem dX8_wantBalloon_212 : decode cX8_wantBalloon 212 = .ok (.aload_n 0, 1) := by decide +kernel
theorem dX8_wantBalloon_213 : decode cX8_wantBalloon 213 = .ok (.getfield 38, 3) := by decide +kernel
theorem dX8_wantBalloon_216 : decode cX8_wantBalloon 216 = .ok (.iload 9, 2) := by decide +kernel
theorem dX8_wantBalloon_218 : decode cX8_wantBalloon 218 = .ok (.iconst 3, 1) := by decide +kernel
theorem dX8_wantBalloon_219 : decode cX8_wantBalloon 219 = .ok (.iadd, 1) := by decide +kernel
theorem dX8_wantBalloon_220 : decode cX8_wantBalloon 220 = .ok (.iload 6, 2) := by decide +kernel
theorem dX8_wantBalloon_222 : decode cX8_wantBalloon 222 = .ok (.iastore, 1) := by decide +kernel
theorem dX8_wantBalloon_223 : decode cX8_wantBalloon 223 = .ok (.aload_n 0, 1) := by decide +kernel
theorem dX8_wantBalloon_224 : decode cX8_wantBalloon 224 = .ok (.getfield 38, 3) := by decide +kernel
theorem dX8_wantBalloon_227 : decode cX8_wantBalloon 227 = .ok (.iload 9, 2) := by decide +kernel
theorem dX8_wantBalloon_229 : decode cX8_wantBalloon 229 = .ok (.iconst 4, 1) := by decide +kernel
theorem dX8_wantBalloon_230 : decode cX8_wantBalloon 230 = .ok (.iadd, 1) := by decide +kernel
theorem dX8_wantBalloon_231 : decode cX8_wantBalloon 231 = .ok (.iload 4, 2) := by decide +kernel
theorem dX8_wantBalloon_233 : decode cX8_wantBalloon 233 = .ok (.iastore, 1) := by decide +kernel
theorem dX8_wantBalloon_234 : decode cX8_wantBalloon 234 = .ok (.aload_n 0, 1) := by decide +kernel
theorem dX8_wantBalloon_235 : decode cX8_wantBalloon 235 = .ok (.getfield 38, 3) := by decide +kernel
theorem dX8_wantBalloon_238 : decode cX8_wantBalloon 238 = .ok (.iload 9, 2) := by decide +kernel
theorem dX8_wantBalloon_240 : decode cX8_wantBalloon 240 = .ok (.iconst 5, 1) := by decide +kernel
theorem dX8_wantBalloon_241 : decode cX8_wantBalloon 241 = .ok (.iadd, 1) := by decide +kernel
theorem dX8_wantBalloon_242 : decode cX8_wantBalloon 242 = .ok (.iload 5, 2) := by decide +kernel
theorem dX8_wantBalloon_244 : decode cX8_wantBalloon 244 = .ok (.iastore, 1) := by decide +kernel
theorem dX8_wantBalloon_245 : decode cX8_wantBalloon 245 = .ok (.aload_n 0, 1) := by decide +kernel
theorem dX8_wantBalloon_246 : decode cX8_wantBalloon 246 = .ok (.getfield 38, 3) := by decide +kernel
theorem dX8_wantBalloon_249 : decode cX8_wantBalloon 249 = .ok (.iload 9, 2) := by decide +kernel
theorem dX8_wantBalloon_251 : decode cX8_wantBalloon 251 = .ok (.bipush 6, 2) := by decide +kernel
theorem dX8_wantBalloon_253 : decode cX8_wantBalloon 253 = .ok (.iadd, 1) := by decide +kernel
theorem dX8_wantBalloon_254 : decode cX8_wantBalloon 254 = .ok (.iload 7, 2) := by decide +kernel
theorem dX8_wantBalloon_256 : decode cX8_wantBalloon 256 = .ok (.iastore, 1) := by decide +kernel
theorem dX8_wantBalloon_257 : decode cX8_wantBalloon 257 = .ok (.aload_n 0, 1) := by decide +kernel
theorem dX8_wantBalloon_258 : decode cX8_wantBalloon 258 = .ok (.getfield 38, 3) := by decide +kernel
theorem dX8_wantBalloon_261 : decode cX8_wantBalloon 261 = .ok (.iload 9, 2) := by decide +kernel
theorem dX8_wantBalloon_263 : decode cX8_wantBalloon 263 = .ok (.bipush 7, 2) := by decide +kernel
theorem dX8_wantBalloon_265 : decode cX8_wantBalloon 265 = .ok (.iadd, 1) := by decide +kernel
theorem dX8_wantBalloon_266 : decode cX8_wantBalloon 266 = .ok (.iload 8, 2) := by decide +kernel
theorem dX8_wantBalloon_268 : decode cX8_wantBalloon 268 = .ok (.iastore, 1) := by decide +kernel
theorem dX8_wantBalloon_269 : decode cX8_wantBalloon 269 = .ok (.aload_n 0, 1) := by decide +kernel
theorem dX8_wantBalloon_270 : decode cX8_wantBalloon 270 = .ok (.dup, 1) := by decide +kernel
theorem dX8_wantBalloon_271 : decode cX8_wantBalloon 271 = .ok (.getfield 156, 3) := by decide +kernel
theorem dX8_wantBalloon_274 : decode cX8_wantBalloon 274 = .ok (.iconst 1, 1) := by decide +kernel
theorem dX8_wantBalloon_275 : decode cX8_wantBalloon 275 = .ok (.iadd, 1) := by decide +kernel
theorem dX8_wantBalloon_276 : decode cX8_wantBalloon 276 = .ok (.putfield 156, 3) := by decide +kernel
theorem dX8_wantBalloon_279 : decode cX8_wantBalloon 279 = .ok (.return_, 1) := by decide +kernel
theorem dX8_wantWarmth_0 : decode cX8_wantWarmth 0 = .ok (.aload_n 0, 1) := by decide +kernel
theorem dX8_wantWarmth_1 : decode cX8_wantWarmth 1 = .ok (.invokevirtual 146, 3) := by decide +kernel
theorem dX8_wantWarmth_4 : decode cX8_wantWarmth 4 = .ok (.aload_n 0, 1) := by decide +kernel
theorem dX8_wantWarmth_5 : decode cX8_wantWarmth 5 = .ok (.iconst 0, 1) := by decide +kernel
theorem dX8_wantWarmth_6 : decode cX8_wantWarmth 6 = .ok (.bipush 23, 2) := by decide +kernel
theorem dX8_wantWarmth_8 : decode cX8_wantWarmth 8 = .ok (.invokevirtual 152, 3) := by decide +kernel
theorem dX8_wantWarmth_11 : decode cX8_wantWarmth 11 = .ok (.istore_n 2, 1) := by decide +kernel
theorem dX8_wantWarmth_12 : decode cX8_wantWarmth 12 = .ok (.aload_n 0, 1) := by decide +kernel
theorem dX8_wantWarmth_13 : decode cX8_wantWarmth 13 = .ok (.iconst 0, 1) := by decide +kernel
theorem dX8_wantWarmth_14 : decode cX8_wantWarmth 14 = .ok (.iload_n 1, 1) := by decide +kernel
theorem dX8_wantWarmth_15 : decode cX8_wantWarmth 15 = .ok (.ifCond .eq 8, 3) := by decide +kernel
theorem dX8_wantWarmth_18 : decode cX8_wantWarmth 18 = .ok (.bipush 20, 2) := by decide +kernel
theorem dX8_wantWarmth_20 : decode cX8_wantWarmth 20 = .ok (.goto 5, 3) := by decide +kernel
theorem dX8_wantWarmth_23 : decode cX8_wantWarmth 23 = .ok (.bipush 40, 2) := by decide +kernel
theorem dX8_wantWarmth_25 : decode cX8_wantWarmth 25 = .ok (.invokevirtual 152, 3) := by decide +kernel
theorem dX8_wantWarmth_28 : decode cX8_wantWarmth 28 = .ok (.istore_n 3, 1) := by decide +kernel
theorem dX8_wantWarmth_29 : decode cX8_wantWarmth 29 = .ok (.aload_n 0, 1) := by decide +kernel
theorem dX8_wantWarmth_30 : decode cX8_wantWarmth 30 = .ok (.invokevirtual 175, 3) := by decide +kernel
theorem dX8_wantWarmth_33 : decode cX8_wantWarmth 33 = .ok (.aload_n 0, 1) := by decide +kernel
theorem dX8_wantWarmth_34 : decode cX8_wantWarmth 34 = .ok (.getfield 142, 3) := by decide +kernel
theorem dX8_wantWarmth_37 : decode cX8_wantWarmth 37 = .ok (.ifCond .eq 20, 3) := by decide +kernel
theorem dX8_wantWarmth_40 : decode cX8_wantWarmth 40 = .ok (.aload_n 0, 1) := by decide +kernel
theorem dX8_wantWarmth_41 : decode cX8_wantWarmth 41 = .ok (.getfield 41, 3) := by decide +kernel
theorem dX8_wantWarmth_44 : decode cX8_wantWarmth 44 = .ok (.iload_n 2, 1) := by decide +kernel
theorem dX8_wantWarmth_45 : decode cX8_wantWarmth 45 = .ok (.iload_n 1, 1) := by decide +kernel
theorem dX8_wantWarmth_46 : decode cX8_wantWarmth 46 = .ok (.ifCond .eq 9, 3) := by decide +kernel
theorem dX8_wantWarmth_49 : decode cX8_wantWarmth 49 = .ok (.iconst 0, 1) := by decide +kernel
theorem dX8_wantWarmth_50 : decode cX8_wantWarmth 50 = .ok (.iload_n 3, 1) := by decide +kernel
theorem dX8_wantWarmth_51 : decode cX8_wantWarmth 51 = .ok (.isub, 1) := by decide +kernel
theorem dX8_wantWarmth_52 : decode cX8_wantWarmth 52 = .ok (.goto 4, 3) := by decide +kernel
theorem dX8_wantWarmth_55 : decode cX8_wantWarmth 55 = .ok (.iload_n 3, 1) := by decide +kernel
theorem dX8_wantWarmth_56 : decode cX8_wantWarmth 56 = .ok (.iastore, 1) := by decide +kernel
theorem dX8_wantWarmth_57 : decode cX8_wantWarmth 57 = .ok (.return_, 1) := by decide +kernel
theorem dX8_wantClause_0 : decode cX8_wantClause 0 = .ok (.aload_n 0, 1) := by decide +kernel
theorem dX8_wantClause_1 : decode cX8_wantClause 1 = .ok (.invokevirtual 178, 3) := by decide +kernel
theorem dX8_wantClause_4 : decode cX8_wantClause 4 = .ok (.ifCond .lt 14, 3) := by decide +kernel
theorem dX8_wantClause_7 : decode cX8_wantClause 7 = .ok (.aload_n 0, 1) := by decide +kernel
theorem dX8_wantClause_8 : decode cX8_wantClause 8 = .ok (.aload_n 0, 1) := by decide +kernel
theorem dX8_wantClause_9 : decode cX8_wantClause 9 = .ok (.invokevirtual 178, 3) := by decide +kernel
theorem dX8_wantClause_12 : decode cX8_wantClause 12 = .ok (.invokevirtual 182, 3) := by decide +kernel
theorem dX8_wantClause_15 : decode cX8_wantClause 15 = .ok (.goto 74, 3) := by decide +kernel
theorem dX8_wantClause_18 : decode cX8_wantClause 18 = .ok (.aload_n 0, 1) := by decide +kernel
theorem dX8_wantClause_19 : decode cX8_wantClause 19 = .ok (.ldc2_w 186, 3) := by decide +kernel
theorem dX8_wantClause_22 : decode cX8_wantClause 22 = .ok (.invokevirtual 128, 3) := by decide +kernel
theorem dX8_wantClause_25 : decode cX8_wantClause 25 = .ok (.ifCond .ne 13, 3) := by decide +kernel
theorem dX8_wantClause_28 : decode cX8_wantClause 28 = .ok (.aload_n 0, 1) := by decide +kernel
theorem dX8_wantClause_29 : decode cX8_wantClause 29 = .ok (.ldc2_w 188, 3) := by decide +kernel
theorem dX8_wantClause_32 : decode cX8_wantClause 32 = .ok (.invokevirtual 128, 3) := by decide +kernel
theorem dX8_wantClause_35 : decode cX8_wantClause 35 = .ok (.ifCond .eq 17, 3) := by decide +kernel
theorem dX8_wantClause_38 : decode cX8_wantClause 38 = .ok (.aload_n 0, 1) := by decide +kernel
theorem dX8_wantClause_39 : decode cX8_wantClause 39 = .ok (.aload_n 0, 1) := by decide +kernel
theorem dX8_wantClause_40 : decode cX8_wantClause 40 = .ok (.ldc2_w 188, 3) := by decide +kernel
theorem dX8_wantClause_43 : decode cX8_wantClause 43 = .ok (.invokevirtual 128, 3) := by decide +kernel
theorem dX8_wantClause_46 : decode cX8_wantClause 46 = .ok (.invokevirtual 190, 3) := by decide +kernel
theorem dX8_wantClause_49 : decode cX8_wantClause 49 = .ok (.goto 40, 3) := by decide +kernel
theorem dX8_wantClause_52 : decode cX8_wantClause 52 = .ok (.aload_n 0, 1) := by decide +kernel
theorem dX8_wantClause_53 : decode cX8_wantClause 53 = .ok (.ldc2_w 194, 3) := by decide +kernel
theorem dX8_wantClause_56 : decode cX8_wantClause 56 = .ok (.invokevirtual 128, 3) := by decide +kernel
theorem dX8_wantClause_59 : decode cX8_wantClause 59 = .ok (.ifCond .eq 25, 3) := by decide +kernel
theorem dX8_wantClause_62 : decode cX8_wantClause 62 = .ok (.aload_n 0, 1) := by decide +kernel
theorem dX8_wantClause_63 : decode cX8_wantClause 63 = .ok (.invokevirtual 146, 3) := by decide +kernel
theorem dX8_wantClause_66 : decode cX8_wantClause 66 = .ok (.aload_n 0, 1) := by decide +kernel
theorem dX8_wantClause_67 : decode cX8_wantClause 67 = .ok (.aload_n 0, 1) := by decide +kernel
theorem dX8_wantClause_68 : decode cX8_wantClause 68 = .ok (.iconst 1, 1) := by decide +kernel
theorem dX8_wantClause_69 : decode cX8_wantClause 69 = .ok (.bipush 20, 2) := by decide +kernel
theorem dX8_wantClause_71 : decode cX8_wantClause 71 = .ok (.invokevirtual 152, 3) := by decide +kernel
theorem dX8_wantClause_74 : decode cX8_wantClause 74 = .ok (.putfield 196, 3) := by decide +kernel
theorem dX8_wantClause_77 : decode cX8_wantClause 77 = .ok (.aload_n 0, 1) := by decide +kernel
theorem dX8_wantClause_78 : decode cX8_wantClause 78 = .ok (.invokevirtual 175, 3) := by decide +kernel
theorem dX8_wantClause_81 : decode cX8_wantClause 81 = .ok (.goto 8, 3) := by decide +kernel
theorem dX8_wantClause_84 : decode cX8_wantClause 84 = .ok (.aload_n 0, 1) := by decide +kernel
theorem dX8_wantClause_85 : decode cX8_wantClause 85 = .ok (.iconst 0, 1) := by decide +kernel
theorem dX8_wantClause_86 : decode cX8_wantClause 86 = .ok (.putfield 142, 3) := by decide +kernel
theorem dX8_wantClause_89 : decode cX8_wantClause 89 = .ok (.return_, 1) := by decide +kernel
theorem dX8_town_0 : decode cX8_town 0 = .ok (.aload_n 0, 1) := by decide +kernel
theorem dX8_town_1 : decode cX8_town 1 = .ok (.iconst 0, 1) := by decide +kernel
theorem dX8_town_2 : decode cX8_town 2 = .ok (.putfield 93, 3) := by decide +kernel
theorem dX8_town_5 : decode cX8_town 5 = .ok (.aload_n 0, 1) := by decide +kernel
theorem dX8_town_6 : decode cX8_town 6 = .ok (.iconst 1, 1) := by decide +kernel
theorem dX8_town_7 : decode cX8_town 7 = .ok (.putfield 142, 3) := by decide +kernel
theorem dX8_town_10 : decode cX8_town 10 = .ok (.aload_n 0, 1) := by decide +kernel
theorem dX8_town_11 : decode cX8_town 11 = .ok (.iconst 0, 1) := by decide +kernel
theorem dX8_town_12 : decode cX8_town 12 = .ok (.putfield 156, 3) := by decide +kernel
theorem dX8_town_15 : decode cX8_town 15 = .ok (.aload_n 0, 1) := by decide +kernel
theorem dX8_town_16 : decode cX8_town 16 = .ok (.iconst 3, 1) := by decide +kernel
theorem dX8_town_17 : decode cX8_town 17 = .ok (.putfield 196, 3) := by decide +kernel
theorem dX8_town_20 : decode cX8_town 20 = .ok (.iconst 0, 1) := by decide +kernel
theorem dX8_town_21 : decode cX8_town 21 = .ok (.istore_n 1, 1) := by decide +kernel
theorem dX8_town_22 : decode cX8_town 22 = .ok (.iload_n 1, 1) := by decide +kernel
theorem dX8_town_23 : decode cX8_town 23 = .ok (.bipush 24, 2) := by decide +kernel
theorem dX8_town_25 : decode cX8_town 25 = .ok (.if_icmp .ge 16, 3) := by decide +kernel
theorem dX8_town_28 : decode cX8_town 28 = .ok (.aload_n 0, 1) := by decide +kernel
theorem dX8_town_29 : decode cX8_town 29 = .ok (.getfield 41, 3) := by decide +kernel
theorem dX8_town_32 : decode cX8_town 32 = .ok (.iload_n 1, 1) := by decide +kernel
theorem dX8_town_33 : decode cX8_town 33 = .ok (.iconst 0, 1) := by decide +kernel
theorem dX8_town_34 : decode cX8_town 34 = .ok (.iastore, 1) := by decide +kernel
theorem dX8_town_35 : decode cX8_town 35 = .ok (.iinc 1 1, 3) := by decide +kernel
theorem dX8_town_38 : decode cX8_town 38 = .ok (.goto (-16), 3) := by decide +kernel
theorem dX8_town_41 : decode cX8_town 41 = .ok (.aload_n 0, 1) := by decide +kernel
theorem dX8_town_42 : decode cX8_town 42 = .ok (.invokevirtual 146, 3) := by decide +kernel
theorem dX8_town_45 : decode cX8_town 45 = .ok (.aload_n 0, 1) := by decide +kernel
theorem dX8_town_46 : decode cX8_town 46 = .ok (.getfield 142, 3) := by decide +kernel
theorem dX8_town_49 : decode cX8_town 49 = .ok (.ifCond .eq 17, 3) := by decide +kernel
theorem dX8_town_52 : decode cX8_town 52 = .ok (.aload_n 0, 1) := by decide +kernel
theorem dX8_town_53 : decode cX8_town 53 = .ok (.getfield 110, 3) := by decide +kernel
theorem dX8_town_56 : decode cX8_town 56 = .ok (.ifCond .eq 10, 3) := by decide +kernel
theorem dX8_town_59 : decode cX8_town 59 = .ok (.aload_n 0, 1) := by decide +kernel
theorem dX8_town_60 : decode cX8_town 60 = .ok (.invokevirtual 199, 3) := by decide +kernel
theorem dX8_town_63 : decode cX8_town 63 = .ok (.goto (-18), 3) := by decide +kernel
theorem dX8_town_66 : decode cX8_town 66 = .ok (.aload_n 0, 1) := by decide +kernel
theorem dX8_town_67 : decode cX8_town 67 = .ok (.iconst 0, 1) := by decide +kernel
theorem dX8_town_68 : decode cX8_town 68 = .ok (.putfield 88, 3) := by decide +kernel
theorem dX8_town_71 : decode cX8_town 71 = .ok (.aload_n 0, 1) := by decide +kernel
theorem dX8_town_72 : decode cX8_town 72 = .ok (.getfield 142, 3) := by decide +kernel
theorem dX8_town_75 : decode cX8_town 75 = .ok (.ifCond .ne 11, 3) := by decide +kernel
theorem dX8_town_78 : decode cX8_town 78 = .ok (.bipush (-100), 2) := by decide +kernel
theorem dX8_town_80 : decode cX8_town 80 = .ok (.aload_n 0, 1) := by decide +kernel
theorem dX8_town_81 : decode cX8_town 81 = .ok (.getfield 96, 3) := by decide +kernel
theorem dX8_town_84 : decode cX8_town 84 = .ok (.isub, 1) := by decide +kernel
theorem dX8_town_85 : decode cX8_town 85 = .ok (.ireturn, 1) := by decide +kernel
theorem dX8_town_86 : decode cX8_town 86 = .ok (.aload_n 0, 1) := by decide +kernel
theorem dX8_town_87 : decode cX8_town 87 = .ok (.aload_n 0, 1) := by decide +kernel
theorem dX8_town_88 : decode cX8_town 88 = .ok (.getfield 156, 3) := by decide +kernel
theorem dX8_town_91 : decode cX8_town 91 = .ok (.putfield 82, 3) := by decide +kernel
theorem dX8_town_94 : decode cX8_town 94 = .ok (.aload_n 0, 1) := by decide +kernel
theorem dX8_town_95 : decode cX8_town 95 = .ok (.aload_n 0, 1) := by decide +kernel
theorem dX8_town_96 : decode cX8_town 96 = .ok (.getfield 196, 3) := by decide +kernel
theorem dX8_town_99 : decode cX8_town 99 = .ok (.putfield 13, 3) := by decide +kernel
theorem dX8_town_102 : decode cX8_town 102 = .ok (.iconst 0, 1) := by decide +kernel
theorem dX8_town_103 : decode cX8_town 103 = .ok (.istore_n 1, 1) := by decide +kernel
theorem dX8_town_104 : decode cX8_town 104 = .ok (.iload_n 1, 1) := by decide +kernel
theorem dX8_town_105 : decode cX8_town 105 = .ok (.bipush 24, 2) := by decide +kernel
theorem dX8_town_107 : decode cX8_town 107 = .ok (.if_icmp .ge 21, 3) := by decide +kernel
theorem dX8_town_110 : decode cX8_town 110 = .ok (.aload_n 0, 1) := by decide +kernel
theorem dX8_town_111 : decode cX8_town 111 = .ok (.getfield 7, 3) := by decide +kernel
theorem dX8_town_114 : decode cX8_town 114 = .ok (.iload_n 1, 1) := by decide +kernel
theorem dX8_town_115 : decode cX8_town 115 = .ok (.aload_n 0, 1) := by decide +kernel
theorem dX8_town_116 : decode cX8_town 116 = .ok (.getfield 41, 3) := by decide +kernel
theorem dX8_town_119 : decode cX8_town 119 = .ok (.iload_n 1, 1) := by decide +kernel
theorem dX8_town_120 : decode cX8_town 120 = .ok (.iaload, 1) := by decide +kernel
theorem dX8_town_121 : decode cX8_town 121 = .ok (.iastore, 1) := by decide +kernel
theorem dX8_town_122 : decode cX8_town 122 = .ok (.iinc 1 1, 3) := by decide +kernel
theorem dX8_town_125 : decode cX8_town 125 = .ok (.goto (-21), 3) := by decide +kernel
theorem dX8_town_128 : decode cX8_town 128 = .ok (.iconst 0, 1) := by decide +kernel
theorem dX8_town_129 : decode cX8_town 129 = .ok (.istore_n 1, 1) := by decide +kernel
theorem dX8_town_130 : decode cX8_town 130 = .ok (.iload_n 1, 1) := by decide +kernel
theorem dX8_town_131 : decode cX8_town 131 = .ok (.bipush 6, 2) := by decide +kernel
theorem dX8_town_133 : decode cX8_town 133 = .ok (.if_icmp .ge 33, 3) := by decide +kernel
theorem dX8_town_136 : decode cX8_town 136 = .ok (.aload_n 0, 1) := by decide +kernel
theorem dX8_town_137 : decode cX8_town 137 = .ok (.getfield 17, 3) := by decide +kernel
theorem dX8_town_140 : decode cX8_town 140 = .ok (.iload_n 1, 1) := by decide +kernel
theorem dX8_town_141 : decode cX8_town 141 = .ok (.aload_n 0, 1) := by decide +kernel
theorem dX8_town_142 : decode cX8_town 142 = .ok (.getfield 32, 3) := by decide +kernel
theorem dX8_town_145 : decode cX8_town 145 = .ok (.iload_n 1, 1) := by decide +kernel
theorem dX8_town_146 : decode cX8_town 146 = .ok (.iaload, 1) := by decide +kernel
theorem dX8_town_147 : decode cX8_town 147 = .ok (.iastore, 1) := by decide +kernel
theorem dX8_town_148 : decode cX8_town 148 = .ok (.aload_n 0, 1) := by decide +kernel
theorem dX8_town_149 : decode cX8_town 149 = .ok (.getfield 20, 3) := by decide +kernel
theorem dX8_town_152 : decode cX8_town 152 = .ok (.iload_n 1, 1) := by decide +kernel
theorem dX8_town_153 : decode cX8_town 153 = .ok (.aload_n 0, 1) := by decide +kernel
theorem dX8_town_154 : decode cX8_town 154 = .ok (.getfield 35, 3) := by decide +kernel
theorem dX8_town_157 : decode cX8_town 157 = .ok (.iload_n 1, 1) := by decide +kernel
theorem dX8_town_158 : decode cX8_town 158 = .ok (.iaload, 1) := by decide +kernel
theorem dX8_town_159 : decode cX8_town 159 = .ok (.iastore, 1) := by decide +kernel
theorem dX8_town_160 : decode cX8_town 160 = .ok (.iinc 1 1, 3) := by decide +kernel
theorem dX8_town_163 : decode cX8_town 163 = .ok (.goto (-33), 3) := by decide +kernel
theorem dX8_town_166 : decode cX8_town 166 = .ok (.iconst 1, 1) := by decide +kernel
theorem dX8_town_167 : decode cX8_town 167 = .ok (.istore_n 1, 1) := by decide +kernel
theorem dX8_town_168 : decode cX8_town 168 = .ok (.iload_n 1, 1) := by decide +kernel
theorem dX8_town_169 : decode cX8_town 169 = .ok (.bipush 43, 2) := by decide +kernel
theorem dX8_town_171 : decode cX8_town 171 = .ok (.if_icmp .ge 21, 3) := by decide +kernel
theorem dX8_town_174 : decode cX8_town 174 = .ok (.aload_n 0, 1) := by decide +kernel
theorem dX8_town_175 : decode cX8_town 175 = .ok (.getfield 23, 3) := by decide +kernel
theorem dX8_town_178 : decode cX8_town 178 = .ok (.iload_n 1, 1) := by decide +kernel
theorem dX8_town_179 : decode cX8_town 179 = .ok (.aload_n 0, 1) := by decide +kernel
theorem dX8_town_180 : decode cX8_town 180 = .ok (.getfield 38, 3) := by decide +kernel
theorem dX8_town_183 : decode cX8_town 183 = .ok (.iload_n 1, 1) := by decide +kernel
theorem dX8_town_184 : decode cX8_town 184 = .ok (.iaload, 1) := by decide +kernel
theorem dX8_town_185 : decode cX8_town 185 = .ok (.iastore, 1) := by decide +kernel
theorem dX8_town_186 : decode cX8_town 186 = .ok (.iinc 1 1, 3) := by decide +kernel
theorem dX8_town_189 : decode cX8_town 189 = .ok (.goto (-21), 3) := by decide +kernel
theorem dX8_town_192 : decode cX8_town 192 = .ok (.aload_n 0, 1) := by decide +kernel
theorem dX8_town_193 : decode cX8_town 193 = .ok (.getfield 23, 3) := by decide +kernel
theorem dX8_town_196 : decode cX8_town 196 = .ok (.iconst 0, 1) := by decide +kernel
theorem dX8_town_197 : decode cX8_town 197 = .ok (.iconst 0, 1) := by decide +kernel
theorem dX8_town_198 : decode cX8_town 198 = .ok (.iastore, 1) := by decide +kernel
theorem dX8_town_199 : decode cX8_town 199 = .ok (.aload_n 0, 1) := by decide +kernel
theorem dX8_town_200 : decode cX8_town 200 = .ok (.iconst 0, 1) := by decide +kernel
theorem dX8_town_201 : decode cX8_town 201 = .ok (.putfield 202, 3) := by decide +kernel
theorem dX8_town_204 : decode cX8_town 204 = .ok (.aload_n 0, 1) := by decide +kernel
theorem dX8_town_205 : decode cX8_town 205 = .ok (.getfield 82, 3) := by decide +kernel
theorem dX8_town_208 : decode cX8_town 208 = .ok (.ireturn, 1) := by decide +kernel
theorem dX8_isWarmth_0 : decode cX8_isWarmth 0 = .ok (.iload_n 0, 1) := by decide +kernel
theorem dX8_isWarmth_1 : decode cX8_isWarmth 1 = .ok (.bipush (-20), 2) := by decide +kernel
theorem dX8_isWarmth_3 : decode cX8_isWarmth 3 = .ok (.bipush 40, 2) := by decide +kernel
theorem dX8_isWarmth_5 : decode cX8_isWarmth 5 = .ok (.invokestatic 78, 3) := by decide +kernel
theorem dX8_isWarmth_8 : decode cX8_isWarmth 8 = .ok (.ireturn, 1) := by decide +kernel
theorem dX8_warmth_0 : decode cX8_warmth 0 = .ok (.iload_n 1, 1) := by decide +kernel
theorem dX8_warmth_1 : decode cX8_warmth 1 = .ok (.invokestatic 205, 3) := by decide +kernel
theorem dX8_warmth_4 : decode cX8_warmth 4 = .ok (.ifCond .eq 15, 3) := by decide +kernel
theorem dX8_warmth_7 : decode cX8_warmth 7 = .ok (.bipush 100, 2) := by decide +kernel
theorem dX8_warmth_9 : decode cX8_warmth 9 = .ok (.aload_n 0, 1) := by decide +kernel
theorem dX8_warmth_10 : decode cX8_warmth 10 = .ok (.getfield 7, 3) := by decide +kernel
theorem dX8_warmth_13 : decode cX8_warmth 13 = .ok (.iload_n 1, 1) := by decide +kernel
theorem dX8_warmth_14 : decode cX8_warmth 14 = .ok (.iaload, 1) := by decide +kernel
theorem dX8_warmth_15 : decode cX8_warmth 15 = .ok (.iadd, 1) := by decide +kernel
theorem dX8_warmth_16 : decode cX8_warmth 16 = .ok (.goto 4, 3) := by decide +kernel
theorem dX8_warmth_19 : decode cX8_warmth 19 = .ok (.iconst (-1), 1) := by decide +kernel
theorem dX8_warmth_20 : decode cX8_warmth 20 = .ok (.ireturn, 1) := by decide +kernel
theorem dX8_warm_0 : decode cX8_warm 0 = .ok (.iload_n 1, 1) := by decide +kernel
theorem dX8_warm_1 : decode cX8_warm 1 = .ok (.invokestatic 205, 3) := by decide +kernel
theorem dX8_warm_4 : decode cX8_warm 4 = .ok (.ifCond .eq 10, 3) := by decide +kernel
theorem dX8_warm_7 : decode cX8_warm 7 = .ok (.iload_n 2, 1) := by decide +kernel
theorem dX8_warm_8 : decode cX8_warm 8 = .ok (.invokestatic 208, 3) := by decide +kernel
theorem dX8_warm_11 : decode cX8_warm 11 = .ok (.ifCond .ne 5, 3) := by decide +kernel
theorem dX8_warm_14 : decode cX8_warm 14 = .ok (.iconst (-1), 1) := by decide +kernel
theorem dX8_warm_15 : decode cX8_warm 15 = .ok (.ireturn, 1) := by decide +kernel
theorem dX8_warm_16 : decode cX8_warm 16 = .ok (.aload_n 0, 1) := by decide +kernel
theorem dX8_warm_17 : decode cX8_warm 17 = .ok (.getfield 7, 3) := by decide +kernel
theorem dX8_warm_20 : decode cX8_warm 20 = .ok (.iload_n 1, 1) := by decide +kernel
theorem dX8_warm_21 : decode cX8_warm 21 = .ok (.iaload, 1) := by decide +kernel
theorem dX8_warm_22 : decode cX8_warm 22 = .ok (.istore_n 3, 1) := by decide +kernel
theorem dX8_warm_23 : decode cX8_warm 23 = .ok (.aload_n 0, 1) := by decide +kernel
theorem dX8_warm_24 : decode cX8_warm 24 = .ok (.getfield 7, 3) := by decide +kernel
theorem dX8_warm_27 : decode cX8_warm 27 = .ok (.iload_n 1, 1) := by decide +kernel
theorem dX8_warm_28 : decode cX8_warm 28 = .ok (.iload_n 2, 1) := by decide +kernel
theorem dX8_warm_29 : decode cX8_warm 29 = .ok (.iastore, 1) := by decide +kernel
theorem dX8_warm_30 : decode cX8_warm 30 = .ok (.bipush 100, 2) := by decide +kernel
theorem dX8_warm_32 : decode cX8_warm 32 = .ok (.iload_n 3, 1) := by decide +kernel
theorem dX8_warm_33 : decode cX8_warm 33 = .ok (.iadd, 1) := by decide +kernel
theorem dX8_warm_34 : decode cX8_warm 34 = .ok (.ireturn, 1) := by decide +kernel
theorem dX8_gap_0 : decode cX8_gap 0 = .ok (.iload_n 1, 1) := by decide +kernel
theorem dX8_gap_1 : decode cX8_gap 1 = .ok (.iconst 1, 1) := by decide +kernel
theorem dX8_gap_2 : decode cX8_gap 2 = .ok (.bipush 20, 2) := by decide +kernel
theorem dX8_gap_4 : decode cX8_gap 4 = .ok (.invokestatic 78, 3) := by decide +kernel
theorem dX8_gap_7 : decode cX8_gap 7 = .ok (.ifCond .ne 5, 3) := by decide +kernel
theorem dX8_gap_10 : decode cX8_gap 10 = .ok (.iconst (-1), 1) := by decide +kernel
theorem dX8_gap_11 : decode cX8_gap 11 = .ok (.ireturn, 1) := by decide +kernel
theorem dX8_gap_12 : decode cX8_gap 12 = .ok (.aload_n 0, 1) := by decide +kernel
theorem dX8_gap_13 : decode cX8_gap 13 = .ok (.getfield 13, 3) := by decide +kernel
theorem dX8_gap_16 : decode cX8_gap 16 = .ok (.istore_n 2, 1) := by decide +kernel
theorem dX8_gap_17 : decode cX8_gap 17 = .ok (.aload_n 0, 1) := by decide +kernel
theorem dX8_gap_18 : decode cX8_gap 18 = .ok (.iload_n 1, 1) := by decide +kernel
theorem dX8_gap_19 : decode cX8_gap 19 = .ok (.putfield 13, 3) := by decide +kernel
theorem dX8_gap_22 : decode cX8_gap 22 = .ok (.iload_n 2, 1) := by decide +kernel
theorem dX8_gap_23 : decode cX8_gap 23 = .ok (.ireturn, 1) := by decide +kernel
theorem dX8_balloon_0 : decode cX8_balloon 0 = .ok (.iload_n 1, 1) := by decide +kernel
theorem dX8_balloon_1 : decode cX8_balloon 1 = .ok (.iload_n 2, 1) := by decide +kernel
theorem dX8_balloon_2 : decode cX8_balloon 2 = .ok (.invokestatic 211, 3) := by decide +kernel
theorem dX8_balloon_5 : decode cX8_balloon 5 = .ok (.ifCond .eq 12, 3) := by decide +kernel
theorem dX8_balloon_8 : decode cX8_balloon 8 = .ok (.iload_n 3, 1) := by decide +kernel
theorem dX8_balloon_9 : decode cX8_balloon 9 = .ok (.iconst 0, 1) := by decide +kernel
theorem dX8_balloon_10 : decode cX8_balloon 10 = .ok (.iconst 5, 1) := by decide +kernel
theorem dX8_balloon_11 : decode cX8_balloon 11 = .ok (.invokestatic 78, 3) := by decide +kernel
theorem dX8_balloon_14 : decode cX8_balloon 14 = .ok (.ifCond .ne 5, 3) := by decide +kernel
theorem dX8_balloon_17 : decode cX8_balloon 17 = .ok (.iconst (-1), 1) := by decide +kernel
theorem dX8_balloon_18 : decode cX8_balloon 18 = .ok (.ireturn, 1) := by decide +kernel
theorem dX8_balloon_19 : decode cX8_balloon 19 = .ok (.aload_n 0, 1) := by decide +kernel
theorem dX8_balloon_20 : decode cX8_balloon 20 = .ok (.getfield 82, 3) := by decide +kernel
theorem dX8_balloon_23 : decode cX8_balloon 23 = .ok (.bipush 6, 2) := by decide +kernel
theorem dX8_balloon_25 : decode cX8_balloon 25 = .ok (.if_icmp .ne 6, 3) := by decide +kernel
theorem dX8_balloon_28 : decode cX8_balloon 28 = .ok (.bipush (-2), 2) := by decide +kernel
theorem dX8_balloon_30 : decode cX8_balloon 30 = .ok (.ireturn, 1) := by decide +kernel
theorem dX8_balloon_31 : decode cX8_balloon 31 = .ok (.aload_n 0, 1) := by decide +kernel
theorem dX8_balloon_32 : decode cX8_balloon 32 = .ok (.getfield 82, 3) := by decide +kernel
theorem dX8_balloon_35 : decode cX8_balloon 35 = .ok (.istore 4, 2) := by decide +kernel
theorem dX8_balloon_37 : decode cX8_balloon 37 = .ok (.aload_n 0, 1) := by decide +kernel
theorem dX8_balloon_38 : decode cX8_balloon 38 = .ok (.getfield 17, 3) := by decide +kernel
theorem dX8_balloon_41 : decode cX8_balloon 41 = .ok (.iload 4, 2) := by decide +kernel
theorem dX8_balloon_43 : decode cX8_balloon 43 = .ok (.iload_n 1, 1) := by decide +kernel
theorem dX8_balloon_44 : decode cX8_balloon 44 = .ok (.iastore, 1) := by decide +kernel
theorem dX8_balloon_45 : decode cX8_balloon 45 = .ok (.aload_n 0, 1) := by decide +kernel
theorem dX8_balloon_46 : decode cX8_balloon 46 = .ok (.getfield 20, 3) := by decide +kernel
theorem dX8_balloon_49 : decode cX8_balloon 49 = .ok (.iload 4, 2) := by decide +kernel
theorem dX8_balloon_51 : decode cX8_balloon 51 = .ok (.iload_n 2, 1) := by decide +kernel
theorem dX8_balloon_52 : decode cX8_balloon 52 = .ok (.iastore, 1) := by decide +kernel
theorem dX8_balloon_53 : decode cX8_balloon 53 = .ok (.aload_n 0, 1) := by decide +kernel
theorem dX8_balloon_54 : decode cX8_balloon 54 = .ok (.iload 4, 2) := by decide +kernel
theorem dX8_balloon_56 : decode cX8_balloon 56 = .ok (.iconst 1, 1) := by decide +kernel
theorem dX8_balloon_57 : decode cX8_balloon 57 = .ok (.iload_n 3, 1) := by decide +kernel
theorem dX8_balloon_58 : decode cX8_balloon 58 = .ok (.invokevirtual 215, 3) := by decide +kernel
theorem dX8_balloon_61 : decode cX8_balloon 61 = .ok (.aload_n 0, 1) := by decide +kernel
theorem dX8_balloon_62 : decode cX8_balloon 62 = .ok (.iload 4, 2) := by decide +kernel
theorem dX8_balloon_64 : decode cX8_balloon 64 = .ok (.iconst 2, 1) := by decide +kernel
theorem dX8_balloon_65 : decode cX8_balloon 65 = .ok (.iconst 0, 1) := by decide +kernel
theorem dX8_balloon_66 : decode cX8_balloon 66 = .ok (.invokevirtual 215, 3) := by decide +kernel
theorem dX8_balloon_69 : decode cX8_balloon 69 = .ok (.aload_n 0, 1) := by decide +kernel
theorem dX8_balloon_70 : decode cX8_balloon 70 = .ok (.iload 4, 2) := by decide +kernel
theorem dX8_balloon_72 : decode cX8_balloon 72 = .ok (.iconst 3, 1) := by decide +kernel
theorem dX8_balloon_73 : decode cX8_balloon 73 = .ok (.bipush 50, 2) := by decide +kernel
theorem dX8_balloon_75 : decode cX8_balloon 75 = .ok (.invokevirtual 215, 3) := by decide +kernel
theorem dX8_balloon_78 : decode cX8_balloon 78 = .ok (.aload_n 0, 1) := by decide +kernel
theorem dX8_balloon_79 : decode cX8_balloon 79 = .ok (.iload 4, 2) := by decide +kernel
theorem dX8_balloon_81 : decode cX8_balloon 81 = .ok (.iconst 4, 1) := by decide +kernel
theorem dX8_balloon_82 : decode cX8_balloon 82 = .ok (.bipush 100, 2) := by decide +kernel
theorem dX8_balloon_84 : decode cX8_balloon 84 = .ok (.invokevirtual 215, 3) := by decide +kernel
theorem dX8_balloon_87 : decode cX8_balloon 87 = .ok (.aload_n 0, 1) := by decide +kernel
theorem dX8_balloon_88 : decode cX8_balloon 88 = .ok (.iload 4, 2) := by decide +kernel
theorem dX8_balloon_90 : decode cX8_balloon 90 = .ok (.iconst 5, 1) := by decide +kernel
theorem dX8_balloon_91 : decode cX8_balloon 91 = .ok (.bipush 50, 2) := by decide +kernel
theorem dX8_balloon_93 : decode cX8_balloon 93 = .ok (.invokevirtual 215, 3) := by decide +kernel
theorem dX8_balloon_96 : decode cX8_balloon 96 = .ok (.aload_n 0, 1) := by decide +kernel
theorem dX8_balloon_97 : decode cX8_balloon 97 = .ok (.iload 4, 2) := by decide +kernel
theorem dX8_balloon_99 : decode cX8_balloon 99 = .ok (.bipush 6, 2) := by decide +kernel
theorem dX8_balloon_101 : decode cX8_balloon 101 = .ok (.bipush 20, 2) := by decide +kernel
theorem dX8_balloon_103 : decode cX8_balloon 103 = .ok (.invokevirtual 215, 3) := by decide +kernel
theorem dX8_balloon_106 : decode cX8_balloon 106 = .ok (.aload_n 0, 1) := by decide +kernel
theorem dX8_balloon_107 : decode cX8_balloon 107 = .ok (.iload 4, 2) := by decide +kernel
theorem dX8_balloon_109 : decode cX8_balloon 109 = .ok (.bipush 7, 2) := by decide +kernel
theorem dX8_balloon_111 : decode cX8_balloon 111 = .ok (.iconst 1, 1) := by decide +kernel
theorem dX8_balloon_112 : decode cX8_balloon 112 = .ok (.invokevirtual 215, 3) := by decide +kernel
theorem dX8_balloon_115 : decode cX8_balloon 115 = .ok (.aload_n 0, 1) := by decide +kernel
theorem dX8_balloon_116 : decode cX8_balloon 116 = .ok (.dup, 1) := by decide +kernel
theorem dX8_balloon_117 : decode cX8_balloon 117 = .ok (.getfield 82, 3) := by decide +kernel
theorem dX8_balloon_120 : decode cX8_balloon 120 = .ok (.iconst 1, 1) := by decide +kernel
theorem dX8_balloon_121 : decode cX8_balloon 121 = .ok (.iadd, 1) := by decide +kernel
theorem dX8_balloon_122 : decode cX8_balloon 122 = .ok (.putfield 82, 3) := by decide +kernel
theorem dX8_balloon_125 : decode cX8_balloon 125 = .ok (.iload 4, 2) := by decide +kernel
theorem dX8_balloon_127 : decode cX8_balloon 127 = .ok (.ireturn, 1) := by decide +kernel
theorem dX8_weight_0 : decode cX8_weight 0 = .ok (.aload_n 0, 1) := by decide +kernel
theorem dX8_weight_1 : decode cX8_weight 1 = .ok (.iload_n 1, 1) := by decide +kernel
theorem dX8_weight_2 : decode cX8_weight 2 = .ok (.iconst 5, 1) := by decide +kernel
theorem dX8_weight_3 : decode cX8_weight 3 = .ok (.invokevirtual 219, 3) := by decide +kernel
theorem dX8_weight_6 : decode cX8_weight 6 = .ok (.aload_n 0, 1) := by decide +kernel
theorem dX8_weight_7 : decode cX8_weight 7 = .ok (.iload_n 1, 1) := by decide +kernel
theorem dX8_weight_8 : decode cX8_weight 8 = .ok (.bipush 6, 2) := by decide +kernel
theorem dX8_weight_10 : decode cX8_weight 10 = .ok (.invokevirtual 219, 3) := by decide +kernel
theorem dX8_weight_13 : decode cX8_weight 13 = .ok (.iadd, 1) := by decide +kernel
theorem dX8_weight_14 : decode cX8_weight 14 = .ok (.aload_n 0, 1) := by decide +kernel
theorem dX8_weight_15 : decode cX8_weight 15 = .ok (.iload_n 1, 1) := by decide +kernel
theorem dX8_weight_16 : decode cX8_weight 16 = .ok (.bipush 7, 2) := by decide +kernel
theorem dX8_weight_18 : decode cX8_weight 18 = .ok (.invokevirtual 219, 3) := by decide +kernel
theorem dX8_weight_21 : decode cX8_weight 21 = .ok (.iadd, 1) := by decide +kernel
theorem dX8_weight_22 : decode cX8_weight 22 = .ok (.aload_n 0, 1) := by decide +kernel
theorem dX8_weight_23 : decode cX8_weight 23 = .ok (.getfield 20, 3) := by decide +kernel
theorem dX8_weight_26 : decode cX8_weight 26 = .ok (.iload_n 1, 1) := by decide +kernel
theorem dX8_weight_27 : decode cX8_weight 27 = .ok (.iaload, 1) := by decide +kernel
theorem dX8_weight_28 : decode cX8_weight 28 = .ok (.iadd, 1) := by decide +kernel
theorem dX8_weight_29 : decode cX8_weight 29 = .ok (.ireturn, 1) := by decide +kernel
theorem dX8_hourNow_0 : decode cX8_hourNow 0 = .ok (.aload_n 0, 1) := by decide +kernel
theorem dX8_hourNow_1 : decode cX8_hourNow 1 = .ok (.getfield 23, 3) := by decide +kernel
theorem dX8_hourNow_4 : decode cX8_hourNow 4 = .ok (.aload_n 0, 1) := by decide +kernel
theorem dX8_hourNow_5 : decode cX8_hourNow 5 = .ok (.getfield 85, 3) := by decide +kernel
theorem dX8_hourNow_8 : decode cX8_hourNow 8 = .ok (.iconst 0, 1) := by decide +kernel
theorem dX8_hourNow_9 : decode cX8_hourNow 9 = .ok (.iadd, 1) := by decide +kernel
theorem dX8_hourNow_10 : decode cX8_hourNow 10 = .ok (.iaload, 1) := by decide +kernel
theorem dX8_hourNow_11 : decode cX8_hourNow 11 = .ok (.bipush 24, 2) := by decide +kernel
theorem dX8_hourNow_13 : decode cX8_hourNow 13 = .ok (.irem, 1) := by decide +kernel
theorem dX8_hourNow_14 : decode cX8_hourNow 14 = .ok (.ireturn, 1) := by decide +kernel
theorem dX8_lift_0 : decode cX8_lift 0 = .ok (.aload_n 0, 1) := by decide +kernel
theorem dX8_lift_1 : decode cX8_lift 1 = .ok (.getfield 7, 3) := by decide +kernel
theorem dX8_lift_4 : decode cX8_lift 4 = .ok (.aload_n 0, 1) := by decide +kernel
theorem dX8_lift_5 : decode cX8_lift 5 = .ok (.invokevirtual 222, 3) := by decide +kernel
theorem dX8_lift_8 : decode cX8_lift 8 = .ok (.iaload, 1) := by decide +kernel
theorem dX8_lift_9 : decode cX8_lift 9 = .ok (.aload_n 0, 1) := by decide +kernel
theorem dX8_lift_10 : decode cX8_lift 10 = .ok (.getfield 225, 3) := by decide +kernel
theorem dX8_lift_13 : decode cX8_lift 13 = .ok (.isub, 1) := by decide +kernel
theorem dX8_lift_14 : decode cX8_lift 14 = .ok (.istore_n 2, 1) := by decide +kernel
theorem dX8_lift_15 : decode cX8_lift 15 = .ok (.aload_n 0, 1) := by decide +kernel
theorem dX8_lift_16 : decode cX8_lift 16 = .ok (.getfield 17, 3) := by decide +kernel
theorem dX8_lift_19 : decode cX8_lift 19 = .ok (.iload_n 1, 1) := by decide +kernel
theorem dX8_lift_20 : decode cX8_lift 20 = .ok (.iaload, 1) := by decide +kernel
theorem dX8_lift_21 : decode cX8_lift 21 = .ok (.iconst 1, 1) := by decide +kernel
theorem dX8_lift_22 : decode cX8_lift 22 = .ok (.if_icmp .eq 13, 3) := by decide +kernel
theorem dX8_lift_25 : decode cX8_lift 25 = .ok (.aload_n 0, 1) := by decide +kernel
theorem dX8_lift_26 : decode cX8_lift 26 = .ok (.getfield 17, 3) := by decide +kernel
theorem dX8_lift_29 : decode cX8_lift 29 = .ok (.iload_n 1, 1) := by decide +kernel
theorem dX8_lift_30 : decode cX8_lift 30 = .ok (.iaload, 1) := by decide +kernel
theorem dX8_lift_31 : decode cX8_lift 31 = .ok (.iconst 4, 1) := by decide +kernel
theorem dX8_lift_32 : decode cX8_lift 32 = .ok (.if_icmp .ne 7, 3) := by decide +kernel
theorem dX8_lift_35 : decode cX8_lift 35 = .ok (.iconst 1, 1) := by decide +kernel
theorem dX8_lift_36 : decode cX8_lift 36 = .ok (.goto 4, 3) := by decide +kernel
theorem dX8_lift_39 : decode cX8_lift 39 = .ok (.iconst 0, 1) := by decide +kernel
theorem dX8_lift_40 : decode cX8_lift 40 = .ok (.istore_n 3, 1) := by decide +kernel
theorem dX8_lift_41 : decode cX8_lift 41 = .ok (.aload_n 0, 1) := by decide +kernel
theorem dX8_lift_42 : decode cX8_lift 42 = .ok (.iload_n 1, 1) := by decide +kernel
theorem dX8_lift_43 : decode cX8_lift 43 = .ok (.iconst 4, 1) := by decide +kernel
theorem dX8_lift_44 : decode cX8_lift 44 = .ok (.invokevirtual 219, 3) := by decide +kernel
theorem dX8_lift_47 : decode cX8_lift 47 = .ok (.istore 4, 2) := by decide +kernel
theorem dX8_lift_49 : decode cX8_lift 49 = .ok (.iload 4, 2) := by decide +kernel
theorem dX8_lift_51 : decode cX8_lift 51 = .ok (.iload 4, 2) := by decide +kernel
theorem dX8_lift_53 : decode cX8_lift 53 = .ok (.iload_n 3, 1) := by decide +kernel
theorem dX8_lift_54 : decode cX8_lift 54 = .ok (.ifCond .eq 9, 3) := by decide +kernel
theorem dX8_lift_57 : decode cX8_lift 57 = .ok (.iconst 2, 1) := by decide +kernel
theorem dX8_lift_58 : decode cX8_lift 58 = .ok (.iload_n 2, 1) := by decide +kernel
theorem dX8_lift_59 : decode cX8_lift 59 = .ok (.imul, 1) := by decide +kernel
theorem dX8_lift_60 : decode cX8_lift 60 = .ok (.goto 4, 3) := by decide +kernel
theorem dX8_lift_63 : decode cX8_lift 63 = .ok (.iload_n 2, 1) := by decide +kernel
theorem dX8_lift_64 : decode cX8_lift 64 = .ok (.imul, 1) := by decide +kernel
theorem dX8_lift_65 : decode cX8_lift 65 = .ok (.bipush 100, 2) := by decide +kernel
theorem dX8_lift_67 : decode cX8_lift 67 = .ok (.idiv, 1) := by decide +kernel
theorem dX8_lift_68 : decode cX8_lift 68 = .ok (.iadd, 1) := by decide +kernel
theorem dX8_lift_69 : decode cX8_lift 69 = .ok (.aload_n 0, 1) := by decide +kernel
theorem dX8_lift_70 : decode cX8_lift 70 = .ok (.getfield 17, 3) := by decide +kernel
theorem dX8_lift_73 : decode cX8_lift 73 = .ok (.iload_n 1, 1) := by decide +kernel
theorem dX8_lift_74 : decode cX8_lift 74 = .ok (.iaload, 1) := by decide +kernel
theorem dX8_lift_75 : decode cX8_lift 75 = .ok (.iconst 4, 1) := by decide +kernel
theorem dX8_lift_76 : decode cX8_lift 76 = .ok (.if_icmp .ne 7, 3) := by decide +kernel
theorem dX8_lift_79 : decode cX8_lift 79 = .ok (.iconst 5, 1) := by decide +kernel
theorem dX8_lift_80 : decode cX8_lift 80 = .ok (.goto 4, 3) := by decide +kernel
theorem dX8_lift_83 : decode cX8_lift 83 = .ok (.iconst 0, 1) := by decide +kernel
theorem dX8_lift_84 : decode cX8_lift 84 = .ok (.iadd, 1) := by decide +kernel
theorem dX8_lift_85 : decode cX8_lift 85 = .ok (.ireturn, 1) := by decide +kernel
theorem dX8_target_0 : decode cX8_target 0 = .ok (.aload_n 0, 1) := by decide +kernel
theorem dX8_target_1 : decode cX8_target 1 = .ok (.iload_n 1, 1) := by decide +kernel
theorem dX8_target_2 : decode cX8_target 2 = .ok (.invokevirtual 228, 3) := by decide +kernel
theorem dX8_target_5 : decode cX8_target 5 = .ok (.aload_n 0, 1) := by decide +kernel
theorem dX8_target_6 : decode cX8_target 6 = .ok (.iload_n 1, 1) := by decide +kernel
theorem dX8_target_7 : decode cX8_target 7 = .ok (.invokevirtual 231, 3) := by decide +kernel
theorem dX8_target_10 : decode cX8_target 10 = .ok (.isub, 1) := by decide +kernel
theorem dX8_target_11 : decode cX8_target 11 = .ok (.istore_n 2, 1) := by decide +kernel
theorem dX8_target_12 : decode cX8_target 12 = .ok (.aload_n 0, 1) := by decide +kernel
theorem dX8_target_13 : decode cX8_target 13 = .ok (.getfield 17, 3) := by decide +kernel
theorem dX8_target_16 : decode cX8_target 16 = .ok (.iload_n 1, 1) := by decide +kernel
theorem dX8_target_17 : decode cX8_target 17 = .ok (.iaload, 1) := by decide +kernel
theorem dX8_target_18 : decode cX8_target 18 = .ok (.iconst 5, 1) := by decide +kernel
theorem dX8_target_19 : decode cX8_target 19 = .ok (.if_icmp .ne 9, 3) := by decide +kernel
theorem dX8_target_22 : decode cX8_target 22 = .ok (.iload_n 2, 1) := by decide +kernel
theorem dX8_target_23 : decode cX8_target 23 = .ok (.iconst 2, 1) := by decide +kernel
theorem dX8_target_24 : decode cX8_target 24 = .ok (.idiv, 1) := by decide +kernel
theorem dX8_target_25 : decode cX8_target 25 = .ok (.goto 4, 3) := by decide +kernel
theorem dX8_target_28 : decode cX8_target 28 = .ok (.iload_n 2, 1) := by decide +kernel
theorem dX8_target_29 : decode cX8_target 29 = .ok (.istore_n 2, 1) := by decide +kernel
theorem dX8_target_30 : decode cX8_target 30 = .ok (.iload_n 2, 1) := by decide +kernel
theorem dX8_target_31 : decode cX8_target 31 = .ok (.ifCond .ge 7, 3) := by decide +kernel
theorem dX8_target_34 : decode cX8_target 34 = .ok (.iconst 0, 1) := by decide +kernel
theorem dX8_target_35 : decode cX8_target 35 = .ok (.goto 23, 3) := by decide +kernel
theorem dX8_target_38 : decode cX8_target 38 = .ok (.iload_n 2, 1) := by decide +kernel
theorem dX8_target_39 : decode cX8_target 39 = .ok (.aload_n 0, 1) := by decide +kernel
theorem dX8_target_40 : decode cX8_target 40 = .ok (.iload_n 1, 1) := by decide +kernel
theorem dX8_target_41 : decode cX8_target 41 = .ok (.iconst 3, 1) := by decide +kernel
theorem dX8_target_42 : decode cX8_target 42 = .ok (.invokevirtual 219, 3) := by decide +kernel
theorem dX8_target_45 : decode cX8_target 45 = .ok (.if_icmp .le 12, 3) := by decide +kernel
theorem dX8_target_48 : decode cX8_target 48 = .ok (.aload_n 0, 1) := by decide +kernel
theorem dX8_target_49 : decode cX8_target 49 = .ok (.iload_n 1, 1) := by decide +kernel
theorem dX8_target_50 : decode cX8_target 50 = .ok (.iconst 3, 1) := by decide +kernel
theorem dX8_target_51 : decode cX8_target 51 = .ok (.invokevirtual 219, 3) := by decide +kernel
theorem dX8_target_54 : decode cX8_target 54 = .ok (.goto 4, 3) := by decide +kernel
theorem dX8_target_57 : decode cX8_target 57 = .ok (.iload_n 2, 1) := by decide +kernel
theorem dX8_target_58 : decode cX8_target 58 = .ok (.ireturn, 1) := by decide +kernel
theorem dX8_leaks_0 : decode cX8_leaks 0 = .ok (.aload_n 0, 1) := by decide +kernel
theorem dX8_leaks_1 : decode cX8_leaks 1 = .ok (.getfield 17, 3) := by decide +kernel
theorem dX8_leaks_4 : decode cX8_leaks 4 = .ok (.iload_n 1, 1) := by decide +kernel
theorem dX8_leaks_5 : decode cX8_leaks 5 = .ok (.iaload, 1) := by decide +kernel
theorem dX8_leaks_6 : decode cX8_leaks 6 = .ok (.iconst 2, 1) := by decide +kernel
theorem dX8_leaks_7 : decode cX8_leaks 7 = .ok (.if_icmp .ne 7, 3) := by decide +kernel
theorem dX8_leaks_10 : decode cX8_leaks 10 = .ok (.iconst 2, 1) := by decide +kernel
theorem dX8_leaks_11 : decode cX8_leaks 11 = .ok (.goto 27, 3) := by decide +kernel
theorem dX8_leaks_14 : decode cX8_leaks 14 = .ok (.aload_n 0, 1) := by decide +kernel
theorem dX8_leaks_15 : decode cX8_leaks 15 = .ok (.getfield 17, 3) := by decide +kernel
theorem dX8_leaks_18 : decode cX8_leaks 18 = .ok (.iload_n 1, 1) := by decide +kernel
theorem dX8_leaks_19 : decode cX8_leaks 19 = .ok (.iaload, 1) := by decide +kernel
theorem dX8_leaks_20 : decode cX8_leaks 20 = .ok (.iconst 3, 1) := by decide +kernel
theorem dX8_leaks_21 : decode cX8_leaks 21 = .ok (.if_icmp .ne 16, 3) := by decide +kernel
theorem dX8_leaks_24 : decode cX8_leaks 24 = .ok (.aload_n 0, 1) := by decide +kernel
theorem dX8_leaks_25 : decode cX8_leaks 25 = .ok (.invokevirtual 222, 3) := by decide +kernel
theorem dX8_leaks_28 : decode cX8_leaks 28 = .ok (.iconst 2, 1) := by decide +kernel
theorem dX8_leaks_29 : decode cX8_leaks 29 = .ok (.irem, 1) := by decide +kernel
theorem dX8_leaks_30 : decode cX8_leaks 30 = .ok (.ifCond .ne 7, 3) := by decide +kernel
theorem dX8_leaks_33 : decode cX8_leaks 33 = .ok (.iconst 1, 1) := by decide +kernel
theorem dX8_leaks_34 : decode cX8_leaks 34 = .ok (.goto 4, 3) := by decide +kernel
theorem dX8_leaks_37 : decode cX8_leaks 37 = .ok (.iconst 0, 1) := by decide +kernel
theorem dX8_leaks_38 : decode cX8_leaks 38 = .ok (.ireturn, 1) := by decide +kernel
theorem dX8_balloonOf_0 : decode cX8_balloonOf 0 = .ok (.aload_n 0, 1) := by decide +kernel
theorem dX8_balloonOf_1 : decode cX8_balloonOf 1 = .ok (.iload_n 1, 1) := by decide +kernel
theorem dX8_balloonOf_2 : decode cX8_balloonOf 2 = .ok (.invokevirtual 234, 3) := by decide +kernel
theorem dX8_balloonOf_5 : decode cX8_balloonOf 5 = .ok (.ifCond .eq 13, 3) := by decide +kernel
theorem dX8_balloonOf_8 : decode cX8_balloonOf 8 = .ok (.iload_n 2, 1) := by decide +kernel
theorem dX8_balloonOf_9 : decode cX8_balloonOf 9 = .ok (.iconst 0, 1) := by decide +kernel
theorem dX8_balloonOf_10 : decode cX8_balloonOf 10 = .ok (.bipush 11, 2) := by decide +kernel
theorem dX8_balloonOf_12 : decode cX8_balloonOf 12 = .ok (.invokestatic 78, 3) := by decide +kernel
theorem dX8_balloonOf_15 : decode cX8_balloonOf 15 = .ok (.ifCond .ne 5, 3) := by decide +kernel
theorem dX8_balloonOf_18 : decode cX8_balloonOf 18 = .ok (.iconst (-1), 1) := by decide +kernel
theorem dX8_balloonOf_19 : decode cX8_balloonOf 19 = .ok (.ireturn, 1) := by decide +kernel
theorem dX8_balloonOf_20 : decode cX8_balloonOf 20 = .ok (.iload_n 2, 1) := by decide +kernel
theorem dX8_balloonOf_21 : decode cX8_balloonOf 21 = .ok (.tableswitch 95 0 11 #[63, 70, 95, 95, 95, 95, 95, 95, 95, 77, 83, 89], 63) := by decide +kernel
theorem dX8_balloonOf_84 : decode cX8_balloonOf 84 = .ok (.aload_n 0, 1) := by decide +kernel
theorem dX8_balloonOf_85 : decode cX8_balloonOf 85 = .ok (.getfield 17, 3) := by decide +kernel
theorem dX8_balloonOf_88 : decode cX8_balloonOf 88 = .ok (.iload_n 1, 1) := by decide +kernel
theorem dX8_balloonOf_89 : decode cX8_balloonOf 89 = .ok (.iaload, 1) := by decide +kernel
theorem dX8_balloonOf_90 : decode cX8_balloonOf 90 = .ok (.ireturn, 1) := by decide +kernel
theorem dX8_balloonOf_91 : decode cX8_balloonOf 91 = .ok (.aload_n 0, 1) := by decide +kernel
theorem dX8_balloonOf_92 : decode cX8_balloonOf 92 = .ok (.getfield 20, 3) := by decide +kernel
theorem dX8_balloonOf_95 : decode cX8_balloonOf 95 = .ok (.iload_n 1, 1) := by decide +kernel
theorem dX8_balloonOf_96 : decode cX8_balloonOf 96 = .ok (.iaload, 1) := by decide +kernel
theorem dX8_balloonOf_97 : decode cX8_balloonOf 97 = .ok (.ireturn, 1) := by decide +kernel
theorem dX8_balloonOf_98 : decode cX8_balloonOf 98 = .ok (.aload_n 0, 1) := by decide +kernel
theorem dX8_balloonOf_99 : decode cX8_balloonOf 99 = .ok (.iload_n 1, 1) := by decide +kernel
theorem dX8_balloonOf_100 : decode cX8_balloonOf 100 = .ok (.invokevirtual 231, 3) := by decide +kernel
theorem dX8_balloonOf_103 : decode cX8_balloonOf 103 = .ok (.ireturn, 1) := by decide +kernel
theorem dX8_balloonOf_104 : decode cX8_balloonOf 104 = .ok (.aload_n 0, 1) := by decide +kernel
theorem dX8_balloonOf_105 : decode cX8_balloonOf 105 = .ok (.iload_n 1, 1) := by decide +kernel
theorem dX8_balloonOf_106 : decode cX8_balloonOf 106 = .ok (.invokevirtual 237, 3) := by decide +kernel
theorem dX8_balloonOf_109 : decode cX8_balloonOf 109 = .ok (.ireturn, 1) := by decide +kernel
theorem dX8_balloonOf_110 : decode cX8_balloonOf 110 = .ok (.aload_n 0, 1) := by decide +kernel
theorem dX8_balloonOf_111 : decode cX8_balloonOf 111 = .ok (.iload_n 1, 1) := by decide +kernel
theorem dX8_balloonOf_112 : decode cX8_balloonOf 112 = .ok (.invokevirtual 240, 3) := by decide +kernel
theorem dX8_balloonOf_115 : decode cX8_balloonOf 115 = .ok (.ireturn, 1) := by decide +kernel
theorem dX8_balloonOf_116 : decode cX8_balloonOf 116 = .ok (.aload_n 0, 1) := by decide +kernel
theorem dX8_balloonOf_117 : decode cX8_balloonOf 117 = .ok (.iload_n 1, 1) := by decide +kernel
theorem dX8_balloonOf_118 : decode cX8_balloonOf 118 = .ok (.iload_n 2, 1) := by decide +kernel
theorem dX8_balloonOf_119 : decode cX8_balloonOf 119 = .ok (.iconst 1, 1) := by decide +kernel
theorem dX8_balloonOf_120 : decode cX8_balloonOf 120 = .ok (.isub, 1) := by decide +kernel
theorem dX8_balloonOf_121 : decode cX8_balloonOf 121 = .ok (.invokevirtual 219, 3) := by decide +kernel
theorem dX8_balloonOf_124 : decode cX8_balloonOf 124 = .ok (.ireturn, 1) := by decide +kernel
theorem dX8_becomes_0 : decode cX8_becomes 0 = .ok (.aload_n 0, 1) := by decide +kernel
theorem dX8_becomes_1 : decode cX8_becomes 1 = .ok (.iload_n 1, 1) := by decide +kernel
theorem dX8_becomes_2 : decode cX8_becomes 2 = .ok (.invokevirtual 234, 3) := by decide +kernel
theorem dX8_becomes_5 : decode cX8_becomes 5 = .ok (.ifCond .eq 11, 3) := by decide +kernel
theorem dX8_becomes_8 : decode cX8_becomes 8 = .ok (.iload_n 2, 1) := by decide +kernel
theorem dX8_becomes_9 : decode cX8_becomes 9 = .ok (.iload_n 3, 1) := by decide +kernel
theorem dX8_becomes_10 : decode cX8_becomes 10 = .ok (.invokestatic 243, 3) := by decide +kernel
theorem dX8_becomes_13 : decode cX8_becomes 13 = .ok (.ifCond .ne 5, 3) := by decide +kernel
theorem dX8_becomes_16 : decode cX8_becomes 16 = .ok (.iconst (-1), 1) := by decide +kernel
theorem dX8_becomes_17 : decode cX8_becomes 17 = .ok (.ireturn, 1) := by decide +kernel
theorem dX8_becomes_18 : decode cX8_becomes 18 = .ok (.aload_n 0, 1) := by decide +kernel
theorem dX8_becomes_19 : decode cX8_becomes 19 = .ok (.iload_n 1, 1) := by decide +kernel
theorem dX8_becomes_20 : decode cX8_becomes 20 = .ok (.iload_n 2, 1) := by decide +kernel
theorem dX8_becomes_21 : decode cX8_becomes 21 = .ok (.iconst 1, 1) := by decide +kernel
theorem dX8_becomes_22 : decode cX8_becomes 22 = .ok (.isub, 1) := by decide +kernel
theorem dX8_becomes_23 : decode cX8_becomes 23 = .ok (.invokevirtual 219, 3) := by decide +kernel
theorem dX8_becomes_26 : decode cX8_becomes 26 = .ok (.istore 4, 2) := by decide +kernel
theorem dX8_becomes_28 : decode cX8_becomes 28 = .ok (.aload_n 0, 1) := by decide +kernel
theorem dX8_becomes_29 : decode cX8_becomes 29 = .ok (.iload_n 1, 1) := by decide +kernel
theorem dX8_becomes_30 : decode cX8_becomes 30 = .ok (.iload_n 2, 1) := by decide +kernel
theorem dX8_becomes_31 : decode cX8_becomes 31 = .ok (.iconst 1, 1) := by decide +kernel
theorem dX8_becomes_32 : decode cX8_becomes 32 = .ok (.isub, 1) := by decide +kernel
theorem dX8_becomes_33 : decode cX8_becomes 33 = .ok (.iload_n 3, 1) := by decide +kernel
theorem dX8_becomes_34 : decode cX8_becomes 34 = .ok (.invokevirtual 215, 3) := by decide +kernel
theorem dX8_becomes_37 : decode cX8_becomes 37 = .ok (.iload 4, 2) := by decide +kernel
theorem dX8_becomes_39 : decode cX8_becomes 39 = .ok (.ireturn, 1) := by decide +kernel
theorem dX8_mind_0 : decode cX8_mind 0 = .ok (.aload_n 0, 1) := by decide +kernel
theorem dX8_mind_1 : decode cX8_mind 1 = .ok (.iload_n 1, 1) := by decide +kernel
theorem dX8_mind_2 : decode cX8_mind 2 = .ok (.invokevirtual 234, 3) := by decide +kernel
theorem dX8_mind_5 : decode cX8_mind 5 = .ok (.ifCond .eq 11, 3) := by decide +kernel
theorem dX8_mind_8 : decode cX8_mind 8 = .ok (.iload_n 2, 1) := by decide +kernel
theorem dX8_mind_9 : decode cX8_mind 9 = .ok (.iload_n 3, 1) := by decide +kernel
theorem dX8_mind_10 : decode cX8_mind 10 = .ok (.invokestatic 211, 3) := by decide +kernel
theorem dX8_mind_13 : decode cX8_mind 13 = .ok (.ifCond .ne 5, 3) := by decide +kernel
theorem dX8_mind_16 : decode cX8_mind 16 = .ok (.iconst (-1), 1) := by decide +kernel
theorem dX8_mind_17 : decode cX8_mind 17 = .ok (.ireturn, 1) := by decide +kernel
theorem dX8_mind_18 : decode cX8_mind 18 = .ok (.aload_n 0, 1) := by decide +kernel
theorem dX8_mind_19 : decode cX8_mind 19 = .ok (.getfield 17, 3) := by decide +kernel
theorem dX8_mind_22 : decode cX8_mind 22 = .ok (.iload_n 1, 1) := by decide +kernel
theorem dX8_mind_23 : decode cX8_mind 23 = .ok (.iaload, 1) := by decide +kernel
theorem dX8_mind_24 : decode cX8_mind 24 = .ok (.istore 4, 2) := by decide +kernel
theorem dX8_mind_26 : decode cX8_mind 26 = .ok (.aload_n 0, 1) := by decide +kernel
theorem dX8_mind_27 : decode cX8_mind 27 = .ok (.getfield 17, 3) := by decide +kernel
theorem dX8_mind_30 : decode cX8_mind 30 = .ok (.iload_n 1, 1) := by decide +kernel
theorem dX8_mind_31 : decode cX8_mind 31 = .ok (.iload_n 2, 1) := by decide +kernel
theorem dX8_mind_32 : decode cX8_mind 32 = .ok (.iastore, 1) := by decide +kernel
theorem dX8_mind_33 : decode cX8_mind 33 = .ok (.aload_n 0, 1) := by decide +kernel
theorem dX8_mind_34 : decode cX8_mind 34 = .ok (.getfield 20, 3) := by decide +kernel
theorem dX8_mind_37 : decode cX8_mind 37 = .ok (.iload_n 1, 1) := by decide +kernel
theorem dX8_mind_38 : decode cX8_mind 38 = .ok (.iload_n 3, 1) := by decide +kernel
theorem dX8_mind_39 : decode cX8_mind 39 = .ok (.iastore, 1) := by decide +kernel
theorem dX8_mind_40 : decode cX8_mind 40 = .ok (.iload 4, 2) := by decide +kernel
theorem dX8_mind_42 : decode cX8_mind 42 = .ok (.ireturn, 1) := by decide +kernel
theorem dX8_pour_0 : decode cX8_pour 0 = .ok (.aload_n 0, 1) := by decide +kernel
theorem dX8_pour_1 : decode cX8_pour 1 = .ok (.iload_n 1, 1) := by decide +kernel
theorem dX8_pour_2 : decode cX8_pour 2 = .ok (.invokevirtual 234, 3) := by decide +kernel
theorem dX8_pour_5 : decode cX8_pour 5 = .ok (.ifCond .eq 14, 3) := by decide +kernel
theorem dX8_pour_8 : decode cX8_pour 8 = .ok (.iload_n 2, 1) := by decide +kernel
theorem dX8_pour_9 : decode cX8_pour 9 = .ok (.iconst 1, 1) := by decide +kernel
theorem dX8_pour_10 : decode cX8_pour 10 = .ok (.sipush 999, 3) := by decide +kernel
theorem dX8_pour_13 : decode cX8_pour 13 = .ok (.invokestatic 78, 3) := by decide +kernel
theorem dX8_pour_16 : decode cX8_pour 16 = .ok (.ifCond .ne 5, 3) := by decide +kernel
theorem dX8_pour_19 : decode cX8_pour 19 = .ok (.iconst (-1), 1) := by decide +kernel
theorem dX8_pour_20 : decode cX8_pour 20 = .ok (.ireturn, 1) := by decide +kernel
theorem dX8_pour_21 : decode cX8_pour 21 = .ok (.aload_n 0, 1) := by decide +kernel
theorem dX8_pour_22 : decode cX8_pour 22 = .ok (.iload_n 1, 1) := by decide +kernel
theorem dX8_pour_23 : decode cX8_pour 23 = .ok (.iconst 5, 1) := by decide +kernel
theorem dX8_pour_24 : decode cX8_pour 24 = .ok (.invokevirtual 219, 3) := by decide +kernel
theorem dX8_pour_27 : decode cX8_pour 27 = .ok (.iload_n 2, 1) := by decide +kernel
theorem dX8_pour_28 : decode cX8_pour 28 = .ok (.if_icmp .ge 6, 3) := by decide +kernel
theorem dX8_pour_31 : decode cX8_pour 31 = .ok (.bipush (-4), 2) := by decide +kernel
theorem dX8_pour_33 : decode cX8_pour 33 = .ok (.ireturn, 1) := by decide +kernel
theorem dX8_pour_34 : decode cX8_pour 34 = .ok (.aload_n 0, 1) := by decide +kernel
theorem dX8_pour_35 : decode cX8_pour 35 = .ok (.iload_n 1, 1) := by decide +kernel
theorem dX8_pour_36 : decode cX8_pour 36 = .ok (.iconst 5, 1) := by decide +kernel
theorem dX8_pour_37 : decode cX8_pour 37 = .ok (.aload_n 0, 1) := by decide +kernel
theorem dX8_pour_38 : decode cX8_pour 38 = .ok (.iload_n 1, 1) := by decide +kernel
theorem dX8_pour_39 : decode cX8_pour 39 = .ok (.iconst 5, 1) := by decide +kernel
theorem dX8_pour_40 : decode cX8_pour 40 = .ok (.invokevirtual 219, 3) := by decide +kernel
theorem dX8_pour_43 : decode cX8_pour 43 = .ok (.iload_n 2, 1) := by decide +kernel
theorem dX8_pour_44 : decode cX8_pour 44 = .ok (.isub, 1) := by decide +kernel
theorem dX8_pour_45 : decode cX8_pour 45 = .ok (.invokevirtual 215, 3) := by decide +kernel
theorem dX8_pour_48 : decode cX8_pour 48 = .ok (.aload_n 0, 1) := by decide +kernel
theorem dX8_pour_49 : decode cX8_pour 49 = .ok (.iload_n 1, 1) := by decide +kernel
theorem dX8_pour_50 : decode cX8_pour 50 = .ok (.iconst 5, 1) := by decide +kernel
theorem dX8_pour_51 : decode cX8_pour 51 = .ok (.invokevirtual 219, 3) := by decide +kernel
theorem dX8_pour_54 : decode cX8_pour 54 = .ok (.ireturn, 1) := by decide +kernel
theorem dX8_isOver_0 : decode cX8_isOver 0 = .ok (.aload_n 0, 1) := by decide +kernel
theorem dX8_isOver_1 : decode cX8_isOver 1 = .ok (.iload_n 1, 1) := by decide +kernel
theorem dX8_isOver_2 : decode cX8_isOver 2 = .ok (.iconst 2, 1) := by decide +kernel
theorem dX8_isOver_3 : decode cX8_isOver 3 = .ok (.invokevirtual 219, 3) := by decide +kernel
theorem dX8_isOver_6 : decode cX8_isOver 6 = .ok (.istore_n 3, 1) := by decide +kernel
theorem dX8_isOver_7 : decode cX8_isOver 7 = .ok (.aload_n 0, 1) := by decide +kernel
theorem dX8_isOver_8 : decode cX8_isOver 8 = .ok (.iload_n 2, 1) := by decide +kernel
theorem dX8_isOver_9 : decode cX8_isOver 9 = .ok (.iconst 2, 1) := by decide +kernel
theorem dX8_isOver_10 : decode cX8_isOver 10 = .ok (.invokevirtual 219, 3) := by decide +kernel
theorem dX8_isOver_13 : decode cX8_isOver 13 = .ok (.istore 4, 2) := by decide +kernel
theorem dX8_isOver_15 : decode cX8_isOver 15 = .ok (.iload_n 3, 1) := by decide +kernel
theorem dX8_isOver_16 : decode cX8_isOver 16 = .ok (.iload 4, 2) := by decide +kernel
theorem dX8_isOver_18 : decode cX8_isOver 18 = .ok (.if_icmp .gt 14, 3) := by decide +kernel
theorem dX8_isOver_21 : decode cX8_isOver 21 = .ok (.iload_n 3, 1) := by decide +kernel
theorem dX8_isOver_22 : decode cX8_isOver 22 = .ok (.iload 4, 2) := by decide +kernel
theorem dX8_isOver_24 : decode cX8_isOver 24 = .ok (.if_icmp .ne 12, 3) := by decide +kernel
theorem dX8_isOver_27 : decode cX8_isOver 27 = .ok (.iload_n 1, 1) := by decide +kernel
theorem dX8_isOver_28 : decode cX8_isOver 28 = .ok (.iload_n 2, 1) := by decide +kernel
theorem dX8_isOver_29 : decode cX8_isOver 29 = .ok (.if_icmp .le 7, 3) := by decide +kernel
theorem dX8_isOver_32 : decode cX8_isOver 32 = .ok (.iconst 1, 1) := by decide +kernel
theorem dX8_isOver_33 : decode cX8_isOver 33 = .ok (.goto 4, 3) := by decide +kernel
theorem dX8_isOver_36 : decode cX8_isOver 36 = .ok (.iconst 0, 1) := by decide +kernel
theorem dX8_isOver_37 : decode cX8_isOver 37 = .ok (.ireturn, 1) := by decide +kernel
theorem dX8_nextTo_0 : decode cX8_nextTo 0 = .ok (.bipush (-3), 2) := by decide +kernel
theorem dX8_nextTo_2 : decode cX8_nextTo 2 = .ok (.istore_n 3, 1) := by decide +kernel
theorem dX8_nextTo_3 : decode cX8_nextTo 3 = .ok (.iconst 0, 1) := by decide +kernel
theorem dX8_nextTo_4 : decode cX8_nextTo 4 = .ok (.istore 4, 2) := by decide +kernel
theorem dX8_nextTo_6 : decode cX8_nextTo 6 = .ok (.iload 4, 2) := by decide +kernel
theorem dX8_nextTo_8 : decode cX8_nextTo 8 = .ok (.aload_n 0, 1) := by decide +kernel
theorem dX8_nextTo_9 : decode cX8_nextTo 9 = .ok (.getfield 82, 3) := by decide +kernel
theorem dX8_nextTo_12 : decode cX8_nextTo 12 = .ok (.if_icmp .ge 76, 3) := by decide +kernel
theorem dX8_nextTo_15 : decode cX8_nextTo 15 = .ok (.iload 4, 2) := by decide +kernel
theorem dX8_nextTo_17 : decode cX8_nextTo 17 = .ok (.iload_n 1, 1) := by decide +kernel
theorem dX8_nextTo_18 : decode cX8_nextTo 18 = .ok (.if_icmp .eq 34, 3) := by decide +kernel
theorem dX8_nextTo_21 : decode cX8_nextTo 21 = .ok (.aload_n 0, 1) := by decide +kernel
theorem dX8_nextTo_22 : decode cX8_nextTo 22 = .ok (.iload 4, 2) := by decide +kernel
theorem dX8_nextTo_24 : decode cX8_nextTo 24 = .ok (.iconst 1, 1) := by decide +kernel
theorem dX8_nextTo_25 : decode cX8_nextTo 25 = .ok (.invokevirtual 219, 3) := by decide +kernel
theorem dX8_nextTo_28 : decode cX8_nextTo 28 = .ok (.aload_n 0, 1) := by decide +kernel
theorem dX8_nextTo_29 : decode cX8_nextTo 29 = .ok (.iload_n 1, 1) := by decide +kernel
theorem dX8_nextTo_30 : decode cX8_nextTo 30 = .ok (.iconst 1, 1) := by decide +kernel
theorem dX8_nextTo_31 : decode cX8_nextTo 31 = .ok (.invokevirtual 219, 3) := by decide +kernel
theorem dX8_nextTo_34 : decode cX8_nextTo 34 = .ok (.if_icmp .ne 18, 3) := by decide +kernel
theorem dX8_nextTo_37 : decode cX8_nextTo 37 = .ok (.aload_n 0, 1) := by decide +kernel
theorem dX8_nextTo_38 : decode cX8_nextTo 38 = .ok (.iload 4, 2) := by decide +kernel
theorem dX8_nextTo_40 : decode cX8_nextTo 40 = .ok (.iload_n 1, 1) := by decide +kernel
theorem dX8_nextTo_41 : decode cX8_nextTo 41 = .ok (.invokevirtual 246, 3) := by decide +kernel
theorem dX8_nextTo_44 : decode cX8_nextTo 44 = .ok (.iload_n 2, 1) := by decide +kernel
theorem dX8_nextTo_45 : decode cX8_nextTo 45 = .ok (.if_icmp .ne 7, 3) := by decide +kernel
theorem dX8_nextTo_48 : decode cX8_nextTo 48 = .ok (.iconst 1, 1) := by decide +kernel
theorem dX8_nextTo_49 : decode cX8_nextTo 49 = .ok (.goto 4, 3) := by decide +kernel
theorem dX8_nextTo_52 : decode cX8_nextTo 52 = .ok (.iconst 0, 1) := by decide +kernel
theorem dX8_nextTo_53 : decode cX8_nextTo 53 = .ok (.istore 5, 2) := by decide +kernel
theorem dX8_nextTo_55 : decode cX8_nextTo 55 = .ok (.iload 5, 2) := by decide +kernel
theorem dX8_nextTo_57 : decode cX8_nextTo 57 = .ok (.ifCond .eq 23, 3) := by decide +kernel
theorem dX8_nextTo_60 : decode cX8_nextTo 60 = .ok (.iload_n 3, 1) := by decide +kernel
theorem dX8_nextTo_61 : decode cX8_nextTo 61 = .ok (.ifCond .lt 14, 3) := by decide +kernel
theorem dX8_nextTo_64 : decode cX8_nextTo 64 = .ok (.aload_n 0, 1) := by decide +kernel
theorem dX8_nextTo_65 : decode cX8_nextTo 65 = .ok (.iload_n 3, 1) := by decide +kernel
theorem dX8_nextTo_66 : decode cX8_nextTo 66 = .ok (.iload 4, 2) := by decide +kernel
theorem dX8_nextTo_68 : decode cX8_nextTo 68 = .ok (.invokevirtual 246, 3) := by decide +kernel
theorem dX8_nextTo_71 : decode cX8_nextTo 71 = .ok (.iload_n 2, 1) := by decide +kernel
theorem dX8_nextTo_72 : decode cX8_nextTo 72 = .ok (.if_icmp .ne 8, 3) := by decide +kernel
theorem dX8_nextTo_75 : decode cX8_nextTo 75 = .ok (.iload 4, 2) := by decide +kernel
theorem dX8_nextTo_77 : decode cX8_nextTo 77 = .ok (.goto 4, 3) := by decide +kernel
theorem dX8_nextTo_80 : decode cX8_nextTo 80 = .ok (.iload_n 3, 1) := by decide +kernel
theorem dX8_nextTo_81 : decode cX8_nextTo 81 = .ok (.istore_n 3, 1) := by decide +kernel
theorem dX8_nextTo_82 : decode cX8_nextTo 82 = .ok (.iinc 4 1, 3) := by decide +kernel
theorem dX8_nextTo_85 : decode cX8_nextTo 85 = .ok (.goto (-79), 3) := by decide +kernel
theorem dX8_nextTo_88 : decode cX8_nextTo 88 = .ok (.iload_n 3, 1) := by decide +kernel
theorem dX8_nextTo_89 : decode cX8_nextTo 89 = .ok (.ireturn, 1) := by decide +kernel
theorem dX8_above_0 : decode cX8_above 0 = .ok (.aload_n 0, 1) := by decide +kernel
theorem dX8_above_1 : decode cX8_above 1 = .ok (.iload_n 1, 1) := by decide +kernel
theorem dX8_above_2 : decode cX8_above 2 = .ok (.invokevirtual 234, 3) := by decide +kernel
theorem dX8_above_5 : decode cX8_above 5 = .ok (.ifCond .eq 29, 3) := by decide +kernel
theorem dX8_above_8 : decode cX8_above 8 = .ok (.iload_n 2, 1) := by decide +kernel
theorem dX8_above_9 : decode cX8_above 9 = .ok (.iconst 0, 1) := by decide +kernel
theorem dX8_above_10 : decode cX8_above 10 = .ok (.iconst 1, 1) := by decide +kernel
theorem dX8_above_11 : decode cX8_above 11 = .ok (.invokestatic 78, 3) := by decide +kernel
theorem dX8_above_14 : decode cX8_above 14 = .ok (.ifCond .eq 20, 3) := by decide +kernel
theorem dX8_above_17 : decode cX8_above 17 = .ok (.aload_n 0, 1) := by decide +kernel
theorem dX8_above_18 : decode cX8_above 18 = .ok (.iload_n 1, 1) := by decide +kernel
theorem dX8_above_19 : decode cX8_above 19 = .ok (.iload_n 2, 1) := by decide +kernel
theorem dX8_above_20 : decode cX8_above 20 = .ok (.ifCond .ne 7, 3) := by decide +kernel
theorem dX8_above_23 : decode cX8_above 23 = .ok (.iconst 1, 1) := by decide +kernel
theorem dX8_above_24 : decode cX8_above 24 = .ok (.goto 4, 3) := by decide +kernel
theorem dX8_above_27 : decode cX8_above 27 = .ok (.iconst 0, 1) := by decide +kernel
theorem dX8_above_28 : decode cX8_above 28 = .ok (.invokevirtual 249, 3) := by decide +kernel
theorem dX8_above_31 : decode cX8_above 31 = .ok (.goto 4, 3) := by decide +kernel
theorem dX8_above_34 : decode cX8_above 34 = .ok (.iconst (-1), 1) := by decide +kernel
theorem dX8_above_35 : decode cX8_above 35 = .ok (.ireturn, 1) := by decide +kernel
theorem dX8_apart_0 : decode cX8_apart 0 = .ok (.aload_n 0, 1) := by decide +kernel
theorem dX8_apart_1 : decode cX8_apart 1 = .ok (.iload_n 1, 1) := by decide +kernel
theorem dX8_apart_2 : decode cX8_apart 2 = .ok (.iconst 2, 1) := by decide +kernel
theorem dX8_apart_3 : decode cX8_apart 3 = .ok (.invokevirtual 219, 3) := by decide +kernel
theorem dX8_apart_6 : decode cX8_apart 6 = .ok (.aload_n 0, 1) := by decide +kernel
theorem dX8_apart_7 : decode cX8_apart 7 = .ok (.iload_n 2, 1) := by decide +kernel
theorem dX8_apart_8 : decode cX8_apart 8 = .ok (.iconst 2, 1) := by decide +kernel
theorem dX8_apart_9 : decode cX8_apart 9 = .ok (.invokevirtual 219, 3) := by decide +kernel
theorem dX8_apart_12 : decode cX8_apart 12 = .ok (.isub, 1) := by decide +kernel
theorem dX8_apart_13 : decode cX8_apart 13 = .ok (.istore_n 3, 1) := by decide +kernel
theorem dX8_apart_14 : decode cX8_apart 14 = .ok (.iload_n 3, 1) := by decide +kernel
theorem dX8_apart_15 : decode cX8_apart 15 = .ok (.ifCond .ge 9, 3) := by decide +kernel
theorem dX8_apart_18 : decode cX8_apart 18 = .ok (.iconst 0, 1) := by decide +kernel
theorem dX8_apart_19 : decode cX8_apart 19 = .ok (.iload_n 3, 1) := by decide +kernel
theorem dX8_apart_20 : decode cX8_apart 20 = .ok (.isub, 1) := by decide +kernel
theorem dX8_apart_21 : decode cX8_apart 21 = .ok (.goto 4, 3) := by decide +kernel
theorem dX8_apart_24 : decode cX8_apart 24 = .ok (.iload_n 3, 1) := by decide +kernel
theorem dX8_apart_25 : decode cX8_apart 25 = .ok (.ireturn, 1) := by decide +kernel
theorem dX8_reach_0 : decode cX8_reach 0 = .ok (.iconst 0, 1) := by decide +kernel
theorem dX8_reach_1 : decode cX8_reach 1 = .ok (.istore_n 2, 1) := by decide +kernel
theorem dX8_reach_2 : decode cX8_reach 2 = .ok (.aload_n 0, 1) := by decide +kernel
theorem dX8_reach_3 : decode cX8_reach 3 = .ok (.iload_n 1, 1) := by decide +kernel
theorem dX8_reach_4 : decode cX8_reach 4 = .ok (.iconst 1, 1) := by decide +kernel
theorem dX8_reach_5 : decode cX8_reach 5 = .ok (.invokevirtual 249, 3) := by decide +kernel
theorem dX8_reach_8 : decode cX8_reach 8 = .ok (.istore_n 3, 1) := by decide +kernel
theorem dX8_reach_9 : decode cX8_reach 9 = .ok (.aload_n 0, 1) := by decide +kernel
theorem dX8_reach_10 : decode cX8_reach 10 = .ok (.iload_n 1, 1) := by decide +kernel
theorem dX8_reach_11 : decode cX8_reach 11 = .ok (.iconst 0, 1) := by decide +kernel
theorem dX8_reach_12 : decode cX8_reach 12 = .ok (.invokevirtual 249, 3) := by decide +kernel
theorem dX8_reach_15 : decode cX8_reach 15 = .ok (.istore 4, 2) := by decide +kernel
theorem dX8_reach_17 : decode cX8_reach 17 = .ok (.iload_n 2, 1) := by decide +kernel
theorem dX8_reach_18 : decode cX8_reach 18 = .ok (.iload_n 3, 1) := by decide +kernel
theorem dX8_reach_19 : decode cX8_reach 19 = .ok (.ifCond .lt 28, 3) := by decide +kernel
theorem dX8_reach_22 : decode cX8_reach 22 = .ok (.aload_n 0, 1) := by decide +kernel
theorem dX8_reach_23 : decode cX8_reach 23 = .ok (.iload_n 3, 1) := by decide +kernel
theorem dX8_reach_24 : decode cX8_reach 24 = .ok (.ifCond .lt 7, 3) := by decide +kernel
theorem dX8_reach_27 : decode cX8_reach 27 = .ok (.iload_n 3, 1) := by decide +kernel
theorem dX8_reach_28 : decode cX8_reach 28 = .ok (.goto 4, 3) := by decide +kernel
theorem dX8_reach_31 : decode cX8_reach 31 = .ok (.iconst 0, 1) := by decide +kernel
theorem dX8_reach_32 : decode cX8_reach 32 = .ok (.iload_n 1, 1) := by decide +kernel
theorem dX8_reach_33 : decode cX8_reach 33 = .ok (.invokevirtual 253, 3) := by decide +kernel
theorem dX8_reach_36 : decode cX8_reach 36 = .ok (.bipush 20, 2) := by decide +kernel
theorem dX8_reach_38 : decode cX8_reach 38 = .ok (.if_icmp .gt 9, 3) := by decide +kernel
theorem dX8_reach_41 : decode cX8_reach 41 = .ok (.iconst 1, 1) := by decide +kernel
theorem dX8_reach_42 : decode cX8_reach 42 = .ok (.iload_n 3, 1) := by decide +kernel
theorem dX8_reach_43 : decode cX8_reach 43 = .ok (.ishl, 1) := by decide +kernel
theorem dX8_reach_44 : decode cX8_reach 44 = .ok (.goto 4, 3) := by decide +kernel
theorem dX8_reach_47 : decode cX8_reach 47 = .ok (.iconst 0, 1) := by decide +kernel
theorem dX8_reach_48 : decode cX8_reach 48 = .ok (.ior, 1) := by decide +kernel
theorem dX8_reach_49 : decode cX8_reach 49 = .ok (.istore_n 2, 1) := by decide +kernel
theorem dX8_reach_50 : decode cX8_reach 50 = .ok (.iload_n 2, 1) := by decide +kernel
theorem dX8_reach_51 : decode cX8_reach 51 = .ok (.iload 4, 2) := by decide +kernel
theorem dX8_reach_53 : decode cX8_reach 53 = .ok (.ifCond .lt 31, 3) := by decide +kernel
theorem dX8_reach_56 : decode cX8_reach 56 = .ok (.aload_n 0, 1) := by decide +kernel
theorem dX8_reach_57 : decode cX8_reach 57 = .ok (.iload 4, 2) := by decide +kernel
theorem dX8_reach_59 : decode cX8_reach 59 = .ok (.ifCond .lt 8, 3) := by decide +kernel
theorem dX8_reach_62 : decode cX8_reach 62 = .ok (.iload 4, 2) := by decide +kernel
theorem dX8_reach_64 : decode cX8_reach 64 = .ok (.goto 4, 3) := by decide +kernel
theorem dX8_reach_67 : decode cX8_reach 67 = .ok (.iconst 0, 1) := by decide +kernel
theorem dX8_reach_68 : decode cX8_reach 68 = .ok (.iload_n 1, 1) := by decide +kernel
theorem dX8_reach_69 : decode cX8_reach 69 = .ok (.invokevirtual 253, 3) := by decide +kernel
theorem dX8_reach_72 : decode cX8_reach 72 = .ok (.bipush 20, 2) := by decide +kernel
theorem dX8_reach_74 : decode cX8_reach 74 = .ok (.if_icmp .gt 10, 3) := by decide +kernel
theorem dX8_reach_77 : decode cX8_reach 77 = .ok (.iconst 1, 1) := by decide +kernel
theorem dX8_reach_78 : decode cX8_reach 78 = .ok (.iload 4, 2) := by decide +kernel
theorem dX8_reach_80 : decode cX8_reach 80 = .ok (.ishl, 1) := by decide +kernel
theorem dX8_reach_81 : decode cX8_reach 81 = .ok (.goto 4, 3) := by decide +kernel
theorem dX8_reach_84 : decode cX8_reach 84 = .ok (.iconst 0, 1) := by decide +kernel
theorem dX8_reach_85 : decode cX8_reach 85 = .ok (.ior, 1) := by decide +kernel
theorem dX8_reach_86 : decode cX8_reach 86 = .ok (.istore_n 2, 1) := by decide +kernel
theorem dX8_reach_87 : decode cX8_reach 87 = .ok (.iload_n 2, 1) := by decide +kernel
theorem dX8_reach_88 : decode cX8_reach 88 = .ok (.ireturn, 1) := by decide +kernel
theorem dX8_reached_0 : decode cX8_reached 0 = .ok (.aload_n 0, 1) := by decide +kernel
theorem dX8_reached_1 : decode cX8_reached 1 = .ok (.iload_n 1, 1) := by decide +kernel
theorem dX8_reached_2 : decode cX8_reached 2 = .ok (.invokevirtual 234, 3) := by decide +kernel
theorem dX8_reached_5 : decode cX8_reached 5 = .ok (.ifCond .eq 11, 3) := by decide +kernel
theorem dX8_reached_8 : decode cX8_reached 8 = .ok (.aload_n 0, 1) := by decide +kernel
theorem dX8_reached_9 : decode cX8_reached 9 = .ok (.iload_n 1, 1) := by decide +kernel
theorem dX8_reached_10 : decode cX8_reached 10 = .ok (.invokevirtual 256, 3) := by decide +kernel
theorem dX8_reached_13 : decode cX8_reached 13 = .ok (.goto 4, 3) := by decide +kernel
theorem dX8_reached_16 : decode cX8_reached 16 = .ok (.iconst (-1), 1) := by decide +kernel
theorem dX8_reached_17 : decode cX8_reached 17 = .ok (.ireturn, 1) := by decide +kernel
theorem dX8_canGive_0 : decode cX8_canGive 0 = .ok (.aload_n 0, 1) := by decide +kernel
theorem dX8_canGive_1 : decode cX8_canGive 1 = .ok (.iload_n 1, 1) := by decide +kernel
theorem dX8_canGive_2 : decode cX8_canGive 2 = .ok (.invokevirtual 256, 3) := by decide +kernel
theorem dX8_canGive_5 : decode cX8_canGive 5 = .ok (.iload_n 2, 1) := by decide +kernel
theorem dX8_canGive_6 : decode cX8_canGive 6 = .ok (.ishr, 1) := by decide +kernel
theorem dX8_canGive_7 : decode cX8_canGive 7 = .ok (.iconst 1, 1) := by decide +kernel
theorem dX8_canGive_8 : decode cX8_canGive 8 = .ok (.iand, 1) := by decide +kernel
theorem dX8_canGive_9 : decode cX8_canGive 9 = .ok (.iconst 1, 1) := by decide +kernel
theorem dX8_canGive_10 : decode cX8_canGive 10 = .ok (.if_icmp .ne 43, 3) := by decide +kernel
theorem dX8_canGive_13 : decode cX8_canGive 13 = .ok (.aload_n 0, 1) := by decide +kernel
theorem dX8_canGive_14 : decode cX8_canGive 14 = .ok (.iload_n 1, 1) := by decide +kernel
theorem dX8_canGive_15 : decode cX8_canGive 15 = .ok (.iload_n 3, 1) := by decide +kernel
theorem dX8_canGive_16 : decode cX8_canGive 16 = .ok (.invokevirtual 219, 3) := by decide +kernel
theorem dX8_canGive_19 : decode cX8_canGive 19 = .ok (.iload 4, 2) := by decide +kernel
theorem dX8_canGive_21 : decode cX8_canGive 21 = .ok (.if_icmp .lt 32, 3) := by decide +kernel
theorem dX8_canGive_24 : decode cX8_canGive 24 = .ok (.aload_n 0, 1) := by decide +kernel
theorem dX8_canGive_25 : decode cX8_canGive 25 = .ok (.iload_n 2, 1) := by decide +kernel
theorem dX8_canGive_26 : decode cX8_canGive 26 = .ok (.iload_n 3, 1) := by decide +kernel
theorem dX8_canGive_27 : decode cX8_canGive 27 = .ok (.invokevirtual 219, 3) := by decide +kernel
theorem dX8_canGive_30 : decode cX8_canGive 30 = .ok (.iload 4, 2) := by decide +kernel
theorem dX8_canGive_32 : decode cX8_canGive 32 = .ok (.iadd, 1) := by decide +kernel
theorem dX8_canGive_33 : decode cX8_canGive 33 = .ok (.iload_n 3, 1) := by decide +kernel
theorem dX8_canGive_34 : decode cX8_canGive 34 = .ok (.iconst 5, 1) := by decide +kernel
theorem dX8_canGive_35 : decode cX8_canGive 35 = .ok (.if_icmp .ne 9, 3) := by decide +kernel
theorem dX8_canGive_38 : decode cX8_canGive 38 = .ok (.sipush 999, 3) := by decide +kernel
theorem dX8_canGive_41 : decode cX8_canGive 41 = .ok (.goto 5, 3) := by decide +kernel
theorem dX8_canGive_44 : decode cX8_canGive 44 = .ok (.bipush 99, 2) := by decide +kernel
theorem dX8_canGive_46 : decode cX8_canGive 46 = .ok (.if_icmp .gt 7, 3) := by decide +kernel
theorem dX8_canGive_49 : decode cX8_canGive 49 = .ok (.iconst 1, 1) := by decide +kernel
theorem dX8_canGive_50 : decode cX8_canGive 50 = .ok (.goto 4, 3) := by decide +kernel
theorem dX8_canGive_53 : decode cX8_canGive 53 = .ok (.iconst 0, 1) := by decide +kernel
theorem dX8_canGive_54 : decode cX8_canGive 54 = .ok (.ireturn, 1) := by decide +kernel
theorem dX8_gives_0 : decode cX8_gives 0 = .ok (.aload_n 0, 1) := by decide +kernel
theorem dX8_gives_1 : decode cX8_gives 1 = .ok (.iload_n 1, 1) := by decide +kernel
theorem dX8_gives_2 : decode cX8_gives 2 = .ok (.iload_n 3, 1) := by decide +kernel
theorem dX8_gives_3 : decode cX8_gives 3 = .ok (.aload_n 0, 1) := by decide +kernel
theorem dX8_gives_4 : decode cX8_gives 4 = .ok (.iload_n 1, 1) := by decide +kernel
theorem dX8_gives_5 : decode cX8_gives 5 = .ok (.iload_n 3, 1) := by decide +kernel
theorem dX8_gives_6 : decode cX8_gives 6 = .ok (.invokevirtual 219, 3) := by decide +kernel
theorem dX8_gives_9 : decode cX8_gives 9 = .ok (.iload 4, 2) := by decide +kernel
theorem dX8_gives_11 : decode cX8_gives 11 = .ok (.isub, 1) := by decide +kernel
theorem dX8_gives_12 : decode cX8_gives 12 = .ok (.invokevirtual 215, 3) := by decide +kernel
theorem dX8_gives_15 : decode cX8_gives 15 = .ok (.aload_n 0, 1) := by decide +kernel
theorem dX8_gives_16 : decode cX8_gives 16 = .ok (.iload_n 2, 1) := by decide +kernel
theorem dX8_gives_17 : decode cX8_gives 17 = .ok (.iload_n 3, 1) := by decide +kernel
theorem dX8_gives_18 : decode cX8_gives 18 = .ok (.aload_n 0, 1) := by decide +kernel
theorem dX8_gives_19 : decode cX8_gives 19 = .ok (.iload_n 2, 1) := by decide +kernel
theorem dX8_gives_20 : decode cX8_gives 20 = .ok (.iload_n 3, 1) := by decide +kernel
theorem dX8_gives_21 : decode cX8_gives 21 = .ok (.invokevirtual 219, 3) := by decide +kernel
theorem dX8_gives_24 : decode cX8_gives 24 = .ok (.iload 4, 2) := by decide +kernel
theorem dX8_gives_26 : decode cX8_gives 26 = .ok (.iadd, 1) := by decide +kernel
theorem dX8_gives_27 : decode cX8_gives 27 = .ok (.invokevirtual 215, 3) := by decide +kernel
theorem dX8_gives_30 : decode cX8_gives 30 = .ok (.return_, 1) := by decide +kernel
theorem dX8_give_0 : decode cX8_give 0 = .ok (.aload_n 0, 1) := by decide +kernel
theorem dX8_give_1 : decode cX8_give 1 = .ok (.iload_n 1, 1) := by decide +kernel
theorem dX8_give_2 : decode cX8_give 2 = .ok (.invokevirtual 234, 3) := by decide +kernel
theorem dX8_give_5 : decode cX8_give 5 = .ok (.ifCond .eq 36, 3) := by decide +kernel
theorem dX8_give_8 : decode cX8_give 8 = .ok (.aload_n 0, 1) := by decide +kernel
theorem dX8_give_9 : decode cX8_give 9 = .ok (.iload_n 2, 1) := by decide +kernel
theorem dX8_give_10 : decode cX8_give 10 = .ok (.invokevirtual 234, 3) := by decide +kernel
theorem dX8_give_13 : decode cX8_give 13 = .ok (.ifCond .eq 28, 3) := by decide +kernel
theorem dX8_give_16 : decode cX8_give 16 = .ok (.iload_n 1, 1) := by decide +kernel
theorem dX8_give_17 : decode cX8_give 17 = .ok (.iload_n 2, 1) := by decide +kernel
theorem dX8_give_18 : decode cX8_give 18 = .ok (.if_icmp .eq 23, 3) := by decide +kernel
theorem dX8_give_21 : decode cX8_give 21 = .ok (.iload_n 3, 1) := by decide +kernel
theorem dX8_give_22 : decode cX8_give 22 = .ok (.iconst 0, 1) := by decide +kernel
theorem dX8_give_23 : decode cX8_give 23 = .ok (.iconst 1, 1) := by decide +kernel
theorem dX8_give_24 : decode cX8_give 24 = .ok (.invokestatic 78, 3) := by decide +kernel
theorem dX8_give_27 : decode cX8_give 27 = .ok (.ifCond .eq 14, 3) := by decide +kernel
theorem dX8_give_30 : decode cX8_give 30 = .ok (.iload 4, 2) := by decide +kernel
theorem dX8_give_32 : decode cX8_give 32 = .ok (.iconst 1, 1) := by decide +kernel
theorem dX8_give_33 : decode cX8_give 33 = .ok (.bipush 99, 2) := by decide +kernel
theorem dX8_give_35 : decode cX8_give 35 = .ok (.invokestatic 78, 3) := by decide +kernel
theorem dX8_give_38 : decode cX8_give 38 = .ok (.ifCond .ne 5, 3) := by decide +kernel
theorem dX8_give_41 : decode cX8_give 41 = .ok (.iconst (-1), 1) := by decide +kernel
theorem dX8_give_42 : decode cX8_give 42 = .ok (.ireturn, 1) := by decide +kernel
theorem dX8_give_43 : decode cX8_give 43 = .ok (.iload_n 3, 1) := by decide +kernel
theorem dX8_give_44 : decode cX8_give 44 = .ok (.ifCond .ne 7, 3) := by decide +kernel
theorem dX8_give_47 : decode cX8_give 47 = .ok (.iconst 5, 1) := by decide +kernel
theorem dX8_give_48 : decode cX8_give 48 = .ok (.goto 5, 3) := by decide +kernel
theorem dX8_give_51 : decode cX8_give 51 = .ok (.bipush 6, 2) := by decide +kernel
theorem dX8_give_53 : decode cX8_give 53 = .ok (.istore 5, 2) := by decide +kernel
theorem dX8_give_55 : decode cX8_give 55 = .ok (.aload_n 0, 1) := by decide +kernel
theorem dX8_give_56 : decode cX8_give 56 = .ok (.iload_n 1, 1) := by decide +kernel
theorem dX8_give_57 : decode cX8_give 57 = .ok (.iload_n 2, 1) := by decide +kernel
theorem dX8_give_58 : decode cX8_give 58 = .ok (.iload 5, 2) := by decide +kernel
theorem dX8_give_60 : decode cX8_give 60 = .ok (.iload 4, 2) := by decide +kernel
theorem dX8_give_62 : decode cX8_give 62 = .ok (.invokevirtual 259, 3) := by decide +kernel
theorem dX8_give_65 : decode cX8_give 65 = .ok (.ifCond .ne 6, 3) := by decide +kernel
theorem dX8_give_68 : decode cX8_give 68 = .ok (.bipush (-4), 2) := by decide +kernel
theorem dX8_give_70 : decode cX8_give 70 = .ok (.ireturn, 1) := by decide +kernel
theorem dX8_give_71 : decode cX8_give 71 = .ok (.aload_n 0, 1) := by decide +kernel
theorem dX8_give_72 : decode cX8_give 72 = .ok (.iload_n 1, 1) := by decide +kernel
theorem dX8_give_73 : decode cX8_give 73 = .ok (.iload_n 2, 1) := by decide +kernel
theorem dX8_give_74 : decode cX8_give 74 = .ok (.iload 5, 2) := by decide +kernel
theorem dX8_give_76 : decode cX8_give 76 = .ok (.iload 4, 2) := by decide +kernel
theorem dX8_give_78 : decode cX8_give 78 = .ok (.invokevirtual 263, 3) := by decide +kernel
theorem dX8_give_81 : decode cX8_give 81 = .ok (.aload_n 0, 1) := by decide +kernel
theorem dX8_give_82 : decode cX8_give 82 = .ok (.iload_n 2, 1) := by decide +kernel
theorem dX8_give_83 : decode cX8_give 83 = .ok (.iload 5, 2) := by decide +kernel
theorem dX8_give_85 : decode cX8_give 85 = .ok (.invokevirtual 219, 3) := by decide +kernel
theorem dX8_give_88 : decode cX8_give 88 = .ok (.ireturn, 1) := by decide +kernel
theorem dX8_isTouch_0 : decode cX8_isTouch 0 = .ok (.iload_n 1, 1) := by decide +kernel
theorem dX8_isTouch_1 : decode cX8_isTouch 1 = .ok (.iload_n 2, 1) := by decide +kernel
theorem dX8_isTouch_2 : decode cX8_isTouch 2 = .ok (.if_icmp .eq 53, 3) := by decide +kernel
theorem dX8_isTouch_5 : decode cX8_isTouch 5 = .ok (.aload_n 0, 1) := by decide +kernel
theorem dX8_isTouch_6 : decode cX8_isTouch 6 = .ok (.iload_n 1, 1) := by decide +kernel
theorem dX8_isTouch_7 : decode cX8_isTouch 7 = .ok (.iconst 1, 1) := by decide +kernel
theorem dX8_isTouch_8 : decode cX8_isTouch 8 = .ok (.invokevirtual 219, 3) := by decide +kernel
theorem dX8_isTouch_11 : decode cX8_isTouch 11 = .ok (.aload_n 0, 1) := by decide +kernel
theorem dX8_isTouch_12 : decode cX8_isTouch 12 = .ok (.iload_n 2, 1) := by decide +kernel
theorem dX8_isTouch_13 : decode cX8_isTouch 13 = .ok (.iconst 1, 1) := by decide +kernel
theorem dX8_isTouch_14 : decode cX8_isTouch 14 = .ok (.invokevirtual 219, 3) := by decide +kernel
theorem dX8_isTouch_17 : decode cX8_isTouch 17 = .ok (.if_icmp .ne 38, 3) := by decide +kernel
theorem dX8_isTouch_20 : decode cX8_isTouch 20 = .ok (.aload_n 0, 1) := by decide +kernel
theorem dX8_isTouch_21 : decode cX8_isTouch 21 = .ok (.iload_n 1, 1) := by decide +kernel
theorem dX8_isTouch_22 : decode cX8_isTouch 22 = .ok (.iconst 2, 1) := by decide +kernel
theorem dX8_isTouch_23 : decode cX8_isTouch 23 = .ok (.invokevirtual 219, 3) := by decide +kernel
theorem dX8_isTouch_26 : decode cX8_isTouch 26 = .ok (.ifCond .le 29, 3) := by decide +kernel
theorem dX8_isTouch_29 : decode cX8_isTouch 29 = .ok (.aload_n 0, 1) := by decide +kernel
theorem dX8_isTouch_30 : decode cX8_isTouch 30 = .ok (.iload_n 2, 1) := by decide +kernel
theorem dX8_isTouch_31 : decode cX8_isTouch 31 = .ok (.iconst 2, 1) := by decide +kernel
theorem dX8_isTouch_32 : decode cX8_isTouch 32 = .ok (.invokevirtual 219, 3) := by decide +kernel
theorem dX8_isTouch_35 : decode cX8_isTouch 35 = .ok (.ifCond .le 20, 3) := by decide +kernel
theorem dX8_isTouch_38 : decode cX8_isTouch 38 = .ok (.aload_n 0, 1) := by decide +kernel
theorem dX8_isTouch_39 : decode cX8_isTouch 39 = .ok (.iload_n 1, 1) := by decide +kernel
theorem dX8_isTouch_40 : decode cX8_isTouch 40 = .ok (.iload_n 2, 1) := by decide +kernel
theorem dX8_isTouch_41 : decode cX8_isTouch 41 = .ok (.invokevirtual 253, 3) := by decide +kernel
theorem dX8_isTouch_44 : decode cX8_isTouch 44 = .ok (.aload_n 0, 1) := by decide +kernel
theorem dX8_isTouch_45 : decode cX8_isTouch 45 = .ok (.getfield 13, 3) := by decide +kernel
theorem dX8_isTouch_48 : decode cX8_isTouch 48 = .ok (.if_icmp .ge 7, 3) := by decide +kernel
theorem dX8_isTouch_51 : decode cX8_isTouch 51 = .ok (.iconst 1, 1) := by decide +kernel
theorem dX8_isTouch_52 : decode cX8_isTouch 52 = .ok (.goto 4, 3) := by decide +kernel
theorem dX8_isTouch_55 : decode cX8_isTouch 55 = .ok (.iconst 0, 1) := by decide +kernel
theorem dX8_isTouch_56 : decode cX8_isTouch 56 = .ok (.ireturn, 1) := by decide +kernel
theorem dX8_touchSet_0 : decode cX8_touchSet 0 = .ok (.iconst 0, 1) := by decide +kernel
theorem dX8_touchSet_1 : decode cX8_touchSet 1 = .ok (.istore_n 2, 1) := by decide +kernel
theorem dX8_touchSet_2 : decode cX8_touchSet 2 = .ok (.iconst 0, 1) := by decide +kernel
theorem dX8_touchSet_3 : decode cX8_touchSet 3 = .ok (.istore_n 3, 1) := by decide +kernel
theorem dX8_touchSet_4 : decode cX8_touchSet 4 = .ok (.iload_n 3, 1) := by decide +kernel
theorem dX8_touchSet_5 : decode cX8_touchSet 5 = .ok (.aload_n 0, 1) := by decide +kernel
theorem dX8_touchSet_6 : decode cX8_touchSet 6 = .ok (.getfield 82, 3) := by decide +kernel
theorem dX8_touchSet_9 : decode cX8_touchSet 9 = .ok (.if_icmp .ge 28, 3) := by decide +kernel
theorem dX8_touchSet_12 : decode cX8_touchSet 12 = .ok (.iload_n 2, 1) := by decide +kernel
theorem dX8_touchSet_13 : decode cX8_touchSet 13 = .ok (.aload_n 0, 1) := by decide +kernel
theorem dX8_touchSet_14 : decode cX8_touchSet 14 = .ok (.iload_n 1, 1) := by decide +kernel
theorem dX8_touchSet_15 : decode cX8_touchSet 15 = .ok (.iload_n 3, 1) := by decide +kernel
theorem dX8_touchSet_16 : decode cX8_touchSet 16 = .ok (.invokevirtual 267, 3) := by decide +kernel
theorem dX8_touchSet_19 : decode cX8_touchSet 19 = .ok (.ifCond .eq 9, 3) := by decide +kernel
theorem dX8_touchSet_22 : decode cX8_touchSet 22 = .ok (.iconst 1, 1) := by decide +kernel
theorem dX8_touchSet_23 : decode cX8_touchSet 23 = .ok (.iload_n 3, 1) := by decide +kernel
theorem dX8_touchSet_24 : decode cX8_touchSet 24 = .ok (.ishl, 1) := by decide +kernel
theorem dX8_touchSet_25 : decode cX8_touchSet 25 = .ok (.goto 4, 3) := by decide +kernel
theorem dX8_touchSet_28 : decode cX8_touchSet 28 = .ok (.iconst 0, 1) := by decide +kernel
theorem dX8_touchSet_29 : decode cX8_touchSet 29 = .ok (.ior, 1) := by decide +kernel
theorem dX8_touchSet_30 : decode cX8_touchSet 30 = .ok (.istore_n 2, 1) := by decide +kernel
theorem dX8_touchSet_31 : decode cX8_touchSet 31 = .ok (.iinc 3 1, 3) := by decide +kernel
theorem dX8_touchSet_34 : decode cX8_touchSet 34 = .ok (.goto (-30), 3) := by decide +kernel
theorem dX8_touchSet_37 : decode cX8_touchSet 37 = .ok (.iload_n 2, 1) := by decide +kernel
theorem dX8_touchSet_38 : decode cX8_touchSet 38 = .ok (.ireturn, 1) := by decide +kernel
theorem dX8_ones_0 : decode cX8_ones 0 = .ok (.iconst 0, 1) := by decide +kernel
theorem dX8_ones_1 : decode cX8_ones 1 = .ok (.istore_n 1, 1) := by decide +kernel
theorem dX8_ones_2 : decode cX8_ones 2 = .ok (.iload_n 0, 1) := by decide +kernel
theorem dX8_ones_3 : decode cX8_ones 3 = .ok (.istore_n 2, 1) := by decide +kernel
theorem dX8_ones_4 : decode cX8_ones 4 = .ok (.iload_n 2, 1) := by decide +kernel
theorem dX8_ones_5 : decode cX8_ones 5 = .ok (.ifCond .eq 15, 3) := by decide +kernel
theorem dX8_ones_8 : decode cX8_ones 8 = .ok (.iinc 1 1, 3) := by decide +kernel
theorem dX8_ones_11 : decode cX8_ones 11 = .ok (.iload_n 2, 1) := by decide +kernel
theorem dX8_ones_12 : decode cX8_ones 12 = .ok (.iload_n 2, 1) := by decide +kernel
theorem dX8_ones_13 : decode cX8_ones 13 = .ok (.iconst 1, 1) := by decide +kernel
theorem dX8_ones_14 : decode cX8_ones 14 = .ok (.isub, 1) := by decide +kernel
theorem dX8_ones_15 : decode cX8_ones 15 = .ok (.iand, 1) := by decide +kernel
theorem dX8_ones_16 : decode cX8_ones 16 = .ok (.istore_n 2, 1) := by decide +kernel
theorem dX8_ones_17 : decode cX8_ones 17 = .ok (.goto (-13), 3) := by decide +kernel
theorem dX8_ones_20 : decode cX8_ones 20 = .ok (.iload_n 1, 1) := by decide +kernel
theorem dX8_ones_21 : decode cX8_ones 21 = .ok (.ireturn, 1) := by decide +kernel
theorem dX8_pairs_0 : decode cX8_pairs 0 = .ok (.iconst 0, 1) := by decide +kernel
theorem dX8_pairs_1 : decode cX8_pairs 1 = .ok (.istore_n 1, 1) := by decide +kernel
theorem dX8_pairs_2 : decode cX8_pairs 2 = .ok (.iconst 0, 1) := by decide +kernel
theorem dX8_pairs_3 : decode cX8_pairs 3 = .ok (.istore_n 2, 1) := by decide +kernel
theorem dX8_pairs_4 : decode cX8_pairs 4 = .ok (.iload_n 2, 1) := by decide +kernel
theorem dX8_pairs_5 : decode cX8_pairs 5 = .ok (.aload_n 0, 1) := by decide +kernel
theorem dX8_pairs_6 : decode cX8_pairs 6 = .ok (.getfield 82, 3) := by decide +kernel
theorem dX8_pairs_9 : decode cX8_pairs 9 = .ok (.if_icmp .ge 20, 3) := by decide +kernel
theorem dX8_pairs_12 : decode cX8_pairs 12 = .ok (.iload_n 1, 1) := by decide +kernel
theorem dX8_pairs_13 : decode cX8_pairs 13 = .ok (.aload_n 0, 1) := by decide +kernel
theorem dX8_pairs_14 : decode cX8_pairs 14 = .ok (.iload_n 2, 1) := by decide +kernel
theorem dX8_pairs_15 : decode cX8_pairs 15 = .ok (.invokevirtual 270, 3) := by decide +kernel
theorem dX8_pairs_18 : decode cX8_pairs 18 = .ok (.invokestatic 273, 3) := by decide +kernel
theorem dX8_pairs_21 : decode cX8_pairs 21 = .ok (.iadd, 1) := by decide +kernel
theorem dX8_pairs_22 : decode cX8_pairs 22 = .ok (.istore_n 1, 1) := by decide +kernel
theorem dX8_pairs_23 : decode cX8_pairs 23 = .ok (.iinc 2 1, 3) := by decide +kernel
theorem dX8_pairs_26 : decode cX8_pairs 26 = .ok (.goto (-22), 3) := by decide +kernel
theorem dX8_pairs_29 : decode cX8_pairs 29 = .ok (.iload_n 1, 1) := by decide +kernel
theorem dX8_pairs_30 : decode cX8_pairs 30 = .ok (.iconst 2, 1) := by decide +kernel
theorem dX8_pairs_31 : decode cX8_pairs 31 = .ok (.idiv, 1) := by decide +kernel
theorem dX8_pairs_32 : decode cX8_pairs 32 = .ok (.ireturn, 1) := by decide +kernel
theorem dX8_touches_0 : decode cX8_touches 0 = .ok (.aload_n 0, 1) := by decide +kernel
theorem dX8_touches_1 : decode cX8_touches 1 = .ok (.iload_n 1, 1) := by decide +kernel
theorem dX8_touches_2 : decode cX8_touches 2 = .ok (.invokevirtual 234, 3) := by decide +kernel
theorem dX8_touches_5 : decode cX8_touches 5 = .ok (.ifCond .eq 11, 3) := by decide +kernel
theorem dX8_touches_8 : decode cX8_touches 8 = .ok (.aload_n 0, 1) := by decide +kernel
theorem dX8_touches_9 : decode cX8_touches 9 = .ok (.iload_n 1, 1) := by decide +kernel
theorem dX8_touches_10 : decode cX8_touches 10 = .ok (.invokevirtual 270, 3) := by decide +kernel
theorem dX8_touches_13 : decode cX8_touches 13 = .ok (.goto 4, 3) := by decide +kernel
theorem dX8_touches_16 : decode cX8_touches 16 = .ok (.iconst (-1), 1) := by decide +kernel
theorem dX8_touches_17 : decode cX8_touches 17 = .ok (.ireturn, 1) := by decide +kernel
theorem dX8_nearer_0 : decode cX8_nearer 0 = .ok (.iload_n 0, 1) := by decide +kernel
theorem dX8_nearer_1 : decode cX8_nearer 1 = .ok (.iload_n 1, 1) := by decide +kernel
theorem dX8_nearer_2 : decode cX8_nearer 2 = .ok (.if_icmp .ge 22, 3) := by decide +kernel
theorem dX8_nearer_5 : decode cX8_nearer 5 = .ok (.iload_n 0, 1) := by decide +kernel
theorem dX8_nearer_6 : decode cX8_nearer 6 = .ok (.bipush 10, 2) := by decide +kernel
theorem dX8_nearer_8 : decode cX8_nearer 8 = .ok (.iadd, 1) := by decide +kernel
theorem dX8_nearer_9 : decode cX8_nearer 9 = .ok (.iload_n 1, 1) := by decide +kernel
theorem dX8_nearer_10 : decode cX8_nearer 10 = .ok (.if_icmp .ge 10, 3) := by decide +kernel
theorem dX8_nearer_13 : decode cX8_nearer 13 = .ok (.iload_n 0, 1) := by decide +kernel
theorem dX8_nearer_14 : decode cX8_nearer 14 = .ok (.bipush 10, 2) := by decide +kernel
theorem dX8_nearer_16 : decode cX8_nearer 16 = .ok (.iadd, 1) := by decide +kernel
theorem dX8_nearer_17 : decode cX8_nearer 17 = .ok (.goto 23, 3) := by decide +kernel
theorem dX8_nearer_20 : decode cX8_nearer 20 = .ok (.iload_n 1, 1) := by decide +kernel
theorem dX8_nearer_21 : decode cX8_nearer 21 = .ok (.goto 19, 3) := by decide +kernel
theorem dX8_nearer_24 : decode cX8_nearer 24 = .ok (.iload_n 0, 1) := by decide +kernel
theorem dX8_nearer_25 : decode cX8_nearer 25 = .ok (.bipush 10, 2) := by decide +kernel
theorem dX8_nearer_27 : decode cX8_nearer 27 = .ok (.isub, 1) := by decide +kernel
theorem dX8_nearer_28 : decode cX8_nearer 28 = .ok (.iload_n 1, 1) := by decide +kernel
theorem dX8_nearer_29 : decode cX8_nearer 29 = .ok (.if_icmp .le 10, 3) := by decide +kernel
theorem dX8_nearer_32 : decode cX8_nearer 32 = .ok (.iload_n 0, 1) := by decide +kernel
theorem dX8_nearer_33 : decode cX8_nearer 33 = .ok (.bipush 10, 2) := by decide +kernel
theorem dX8_nearer_35 : decode cX8_nearer 35 = .ok (.isub, 1) := by decide +kernel
theorem dX8_nearer_36 : decode cX8_nearer 36 = .ok (.goto 4, 3) := by decide +kernel
theorem dX8_nearer_39 : decode cX8_nearer 39 = .ok (.iload_n 1, 1) := by decide +kernel
theorem dX8_nearer_40 : decode cX8_nearer 40 = .ok (.ireturn, 1) := by decide +kernel
theorem dX8_hourGoes_0 : decode cX8_hourGoes 0 = .ok (.iconst 0, 1) := by decide +kernel
theorem dX8_hourGoes_1 : decode cX8_hourGoes 1 = .ok (.istore_n 1, 1) := by decide +kernel
theorem dX8_hourGoes_2 : decode cX8_hourGoes 2 = .ok (.iload_n 1, 1) := by decide +kernel
theorem dX8_hourGoes_3 : decode cX8_hourGoes 3 = .ok (.aload_n 0, 1) := by decide +kernel
theorem dX8_hourGoes_4 : decode cX8_hourGoes 4 = .ok (.getfield 82, 3) := by decide +kernel
theorem dX8_hourGoes_7 : decode cX8_hourGoes 7 = .ok (.if_icmp .ge 89, 3) := by decide +kernel
theorem dX8_hourGoes_10 : decode cX8_hourGoes 10 = .ok (.aload_n 0, 1) := by decide +kernel
theorem dX8_hourGoes_11 : decode cX8_hourGoes 11 = .ok (.iload_n 1, 1) := by decide +kernel
theorem dX8_hourGoes_12 : decode cX8_hourGoes 12 = .ok (.iconst 2, 1) := by decide +kernel
theorem dX8_hourGoes_13 : decode cX8_hourGoes 13 = .ok (.aload_n 0, 1) := by decide +kernel
theorem dX8_hourGoes_14 : decode cX8_hourGoes 14 = .ok (.iload_n 1, 1) := by decide +kernel
theorem dX8_hourGoes_15 : decode cX8_hourGoes 15 = .ok (.iconst 2, 1) := by decide +kernel
theorem dX8_hourGoes_16 : decode cX8_hourGoes 16 = .ok (.invokevirtual 219, 3) := by decide +kernel
theorem dX8_hourGoes_19 : decode cX8_hourGoes 19 = .ok (.aload_n 0, 1) := by decide +kernel
theorem dX8_hourGoes_20 : decode cX8_hourGoes 20 = .ok (.iload_n 1, 1) := by decide +kernel
theorem dX8_hourGoes_21 : decode cX8_hourGoes 21 = .ok (.invokevirtual 237, 3) := by decide +kernel
theorem dX8_hourGoes_24 : decode cX8_hourGoes 24 = .ok (.invokestatic 276, 3) := by decide +kernel
theorem dX8_hourGoes_27 : decode cX8_hourGoes 27 = .ok (.invokevirtual 215, 3) := by decide +kernel
theorem dX8_hourGoes_30 : decode cX8_hourGoes 30 = .ok (.aload_n 0, 1) := by decide +kernel
theorem dX8_hourGoes_31 : decode cX8_hourGoes 31 = .ok (.iload_n 1, 1) := by decide +kernel
theorem dX8_hourGoes_32 : decode cX8_hourGoes 32 = .ok (.iconst 4, 1) := by decide +kernel
theorem dX8_hourGoes_33 : decode cX8_hourGoes 33 = .ok (.invokevirtual 219, 3) := by decide +kernel
theorem dX8_hourGoes_36 : decode cX8_hourGoes 36 = .ok (.aload_n 0, 1) := by decide +kernel
theorem dX8_hourGoes_37 : decode cX8_hourGoes 37 = .ok (.iload_n 1, 1) := by decide +kernel
theorem dX8_hourGoes_38 : decode cX8_hourGoes 38 = .ok (.invokevirtual 240, 3) := by decide +kernel
theorem dX8_hourGoes_41 : decode cX8_hourGoes 41 = .ok (.isub, 1) := by decide +kernel
theorem dX8_hourGoes_42 : decode cX8_hourGoes 42 = .ok (.istore_n 2, 1) := by decide +kernel
theorem dX8_hourGoes_43 : decode cX8_hourGoes 43 = .ok (.aload_n 0, 1) := by decide +kernel
theorem dX8_hourGoes_44 : decode cX8_hourGoes 44 = .ok (.iload_n 1, 1) := by decide +kernel
theorem dX8_hourGoes_45 : decode cX8_hourGoes 45 = .ok (.iconst 4, 1) := by decide +kernel
theorem dX8_hourGoes_46 : decode cX8_hourGoes 46 = .ok (.iload_n 2, 1) := by decide +kernel
theorem dX8_hourGoes_47 : decode cX8_hourGoes 47 = .ok (.ifCond .ge 7, 3) := by decide +kernel
theorem dX8_hourGoes_50 : decode cX8_hourGoes 50 = .ok (.iconst 0, 1) := by decide +kernel
theorem dX8_hourGoes_51 : decode cX8_hourGoes 51 = .ok (.goto 4, 3) := by decide +kernel
theorem dX8_hourGoes_54 : decode cX8_hourGoes 54 = .ok (.iload_n 2, 1) := by decide +kernel
theorem dX8_hourGoes_55 : decode cX8_hourGoes 55 = .ok (.invokevirtual 215, 3) := by decide +kernel
theorem dX8_hourGoes_58 : decode cX8_hourGoes 58 = .ok (.aload_n 0, 1) := by decide +kernel
theorem dX8_hourGoes_59 : decode cX8_hourGoes 59 = .ok (.iload_n 1, 1) := by decide +kernel
theorem dX8_hourGoes_60 : decode cX8_hourGoes 60 = .ok (.bipush 6, 2) := by decide +kernel
theorem dX8_hourGoes_62 : decode cX8_hourGoes 62 = .ok (.invokevirtual 219, 3) := by decide +kernel
theorem dX8_hourGoes_65 : decode cX8_hourGoes 65 = .ok (.aload_n 0, 1) := by decide +kernel
theorem dX8_hourGoes_66 : decode cX8_hourGoes 66 = .ok (.iload_n 1, 1) := by decide +kernel
theorem dX8_hourGoes_67 : decode cX8_hourGoes 67 = .ok (.bipush 7, 2) := by decide +kernel
theorem dX8_hourGoes_69 : decode cX8_hourGoes 69 = .ok (.invokevirtual 219, 3) := by decide +kernel
theorem dX8_hourGoes_72 : decode cX8_hourGoes 72 = .ok (.isub, 1) := by decide +kernel
theorem dX8_hourGoes_73 : decode cX8_hourGoes 73 = .ok (.istore_n 3, 1) := by decide +kernel
theorem dX8_hourGoes_74 : decode cX8_hourGoes 74 = .ok (.aload_n 0, 1) := by decide +kernel
theorem dX8_hourGoes_75 : decode cX8_hourGoes 75 = .ok (.iload_n 1, 1) := by decide +kernel
theorem dX8_hourGoes_76 : decode cX8_hourGoes 76 = .ok (.bipush 6, 2) := by decide +kernel
theorem dX8_hourGoes_78 : decode cX8_hourGoes 78 = .ok (.iload_n 3, 1) := by decide +kernel
theorem dX8_hourGoes_79 : decode cX8_hourGoes 79 = .ok (.ifCond .ge 7, 3) := by decide +kernel
theorem dX8_hourGoes_82 : decode cX8_hourGoes 82 = .ok (.iconst 0, 1) := by decide +kernel
theorem dX8_hourGoes_83 : decode cX8_hourGoes 83 = .ok (.goto 4, 3) := by decide +kernel
theorem dX8_hourGoes_86 : decode cX8_hourGoes 86 = .ok (.iload_n 3, 1) := by decide +kernel
theorem dX8_hourGoes_87 : decode cX8_hourGoes 87 = .ok (.invokevirtual 215, 3) := by decide +kernel
theorem dX8_hourGoes_90 : decode cX8_hourGoes 90 = .ok (.iinc 1 1, 3) := by decide +kernel
theorem dX8_hourGoes_93 : decode cX8_hourGoes 93 = .ok (.goto (-91), 3) := by decide +kernel
theorem dX8_hourGoes_96 : decode cX8_hourGoes 96 = .ok (.aload_n 0, 1) := by decide +kernel
theorem dX8_hourGoes_97 : decode cX8_hourGoes 97 = .ok (.getfield 23, 3) := by decide +kernel
theorem dX8_hourGoes_100 : decode cX8_hourGoes 100 = .ok (.aload_n 0, 1) := by decide +kernel
theorem dX8_hourGoes_101 : decode cX8_hourGoes 101 = .ok (.getfield 85, 3) := by decide +kernel
theorem dX8_hourGoes_104 : decode cX8_hourGoes 104 = .ok (.iconst 0, 1) := by decide +kernel
theorem dX8_hourGoes_105 : decode cX8_hourGoes 105 = .ok (.iadd, 1) := by decide +kernel
theorem dX8_hourGoes_106 : decode cX8_hourGoes 106 = .ok (.dup2, 1) := by decide +kernel
theorem dX8_hourGoes_107 : decode cX8_hourGoes 107 = .ok (.iaload, 1) := by decide +kernel
theorem dX8_hourGoes_108 : decode cX8_hourGoes 108 = .ok (.iconst 1, 1) := by decide +kernel
theorem dX8_hourGoes_109 : decode cX8_hourGoes 109 = .ok (.iadd, 1) := by decide +kernel
theorem dX8_hourGoes_110 : decode cX8_hourGoes 110 = .ok (.iastore, 1) := by decide +kernel
theorem dX8_hourGoes_111 : decode cX8_hourGoes 111 = .ok (.return_, 1) := by decide +kernel
theorem dX8_goesOn_0 : decode cX8_goesOn 0 = .ok (.aload_n 0, 1) := by decide +kernel
theorem dX8_goesOn_1 : decode cX8_goesOn 1 = .ok (.getfield 23, 3) := by decide +kernel
theorem dX8_goesOn_4 : decode cX8_goesOn 4 = .ok (.aload_n 0, 1) := by decide +kernel
theorem dX8_goesOn_5 : decode cX8_goesOn 5 = .ok (.getfield 85, 3) := by decide +kernel
theorem dX8_goesOn_8 : decode cX8_goesOn 8 = .ok (.iconst 0, 1) := by decide +kernel
theorem dX8_goesOn_9 : decode cX8_goesOn 9 = .ok (.iadd, 1) := by decide +kernel
theorem dX8_goesOn_10 : decode cX8_goesOn 10 = .ok (.iaload, 1) := by decide +kernel
theorem dX8_goesOn_11 : decode cX8_goesOn 11 = .ok (.bipush 96, 2) := by decide +kernel
theorem dX8_goesOn_13 : decode cX8_goesOn 13 = .ok (.if_icmp .ge 7, 3) := by decide +kernel
theorem dX8_goesOn_16 : decode cX8_goesOn 16 = .ok (.iconst 1, 1) := by decide +kernel
theorem dX8_goesOn_17 : decode cX8_goesOn 17 = .ok (.goto 4, 3) := by decide +kernel
theorem dX8_goesOn_20 : decode cX8_goesOn 20 = .ok (.iconst 0, 1) := by decide +kernel
theorem dX8_goesOn_21 : decode cX8_goesOn 21 = .ok (.istore_n 1, 1) := by decide +kernel
theorem dX8_goesOn_22 : decode cX8_goesOn 22 = .ok (.iload_n 1, 1) := by decide +kernel
theorem dX8_goesOn_23 : decode cX8_goesOn 23 = .ok (.ifCond .eq 7, 3) := by decide +kernel
theorem dX8_goesOn_26 : decode cX8_goesOn 26 = .ok (.aload_n 0, 1) := by decide +kernel
theorem dX8_goesOn_27 : decode cX8_goesOn 27 = .ok (.invokevirtual 279, 3) := by decide +kernel
theorem dX8_goesOn_30 : decode cX8_goesOn 30 = .ok (.iload_n 1, 1) := by decide +kernel
theorem dX8_goesOn_31 : decode cX8_goesOn 31 = .ok (.ireturn, 1) := by decide +kernel
theorem dX8_go_0 : decode cX8_go 0 = .ok (.iconst 0, 1) := by decide +kernel
theorem dX8_go_1 : decode cX8_go 1 = .ok (.istore_n 2, 1) := by decide +kernel
theorem dX8_go_2 : decode cX8_go 2 = .ok (.iload_n 2, 1) := by decide +kernel
theorem dX8_go_3 : decode cX8_go 3 = .ok (.iload_n 1, 1) := by decide +kernel
theorem dX8_go_4 : decode cX8_go 4 = .ok (.if_icmp .ge 16, 3) := by decide +kernel
theorem dX8_go_7 : decode cX8_go 7 = .ok (.aload_n 0, 1) := by decide +kernel
theorem dX8_go_8 : decode cX8_go 8 = .ok (.invokevirtual 282, 3) := by decide +kernel
theorem dX8_go_11 : decode cX8_go 11 = .ok (.ifCond .eq 9, 3) := by decide +kernel
theorem dX8_go_14 : decode cX8_go 14 = .ok (.iinc 2 1, 3) := by decide +kernel
theorem dX8_go_17 : decode cX8_go 17 = .ok (.goto (-15), 3) := by decide +kernel
theorem dX8_go_20 : decode cX8_go 20 = .ok (.return_, 1) := by decide +kernel
theorem dX8_isTrial_0 : decode cX8_isTrial 0 = .ok (.iload_n 0, 1) := by decide +kernel
theorem dX8_isTrial_1 : decode cX8_isTrial 1 = .ok (.iconst 0, 1) := by decide +kernel
theorem dX8_isTrial_2 : decode cX8_isTrial 2 = .ok (.bipush 48, 2) := by decide +kernel
theorem dX8_isTrial_4 : decode cX8_isTrial 4 = .ok (.invokestatic 78, 3) := by decide +kernel
theorem dX8_isTrial_7 : decode cX8_isTrial 7 = .ok (.ireturn, 1) := by decide +kernel
theorem dX8_isSoon_0 : decode cX8_isSoon 0 = .ok (.iload_n 0, 1) := by decide +kernel
theorem dX8_isSoon_1 : decode cX8_isSoon 1 = .ok (.iconst 0, 1) := by decide +kernel
theorem dX8_isSoon_2 : decode cX8_isSoon 2 = .ok (.bipush 24, 2) := by decide +kernel
theorem dX8_isSoon_4 : decode cX8_isSoon 4 = .ok (.invokestatic 78, 3) := by decide +kernel
theorem dX8_isSoon_7 : decode cX8_isSoon 7 = .ok (.ireturn, 1) := by decide +kernel
theorem dX8_hours_0 : decode cX8_hours 0 = .ok (.iload_n 1, 1) := by decide +kernel
theorem dX8_hours_1 : decode cX8_hours 1 = .ok (.invokestatic 286, 3) := by decide +kernel
theorem dX8_hours_4 : decode cX8_hours 4 = .ok (.ifCond .ne 5, 3) := by decide +kernel
theorem dX8_hours_7 : decode cX8_hours 7 = .ok (.iconst (-1), 1) := by decide +kernel
theorem dX8_hours_8 : decode cX8_hours 8 = .ok (.ireturn, 1) := by decide +kernel
theorem dX8_hours_9 : decode cX8_hours 9 = .ok (.aload_n 0, 1) := by decide +kernel
theorem dX8_hours_10 : decode cX8_hours 10 = .ok (.iload_n 1, 1) := by decide +kernel
theorem dX8_hours_11 : decode cX8_hours 11 = .ok (.invokevirtual 289, 3) := by decide +kernel
theorem dX8_hours_14 : decode cX8_hours 14 = .ok (.aload_n 0, 1) := by decide +kernel
theorem dX8_hours_15 : decode cX8_hours 15 = .ok (.getfield 23, 3) := by decide +kernel
theorem dX8_hours_18 : decode cX8_hours 18 = .ok (.iconst 0, 1) := by decide +kernel
theorem dX8_hours_19 : decode cX8_hours 19 = .ok (.iaload, 1) := by decide +kernel
theorem dX8_hours_20 : decode cX8_hours 20 = .ok (.ireturn, 1) := by decide +kernel
theorem dX8_clock_0 : decode cX8_clock 0 = .ok (.iload_n 1, 1) := by decide +kernel
theorem dX8_clock_1 : decode cX8_clock 1 = .ok (.iconst 0, 1) := by decide +kernel
theorem dX8_clock_2 : decode cX8_clock 2 = .ok (.bipush 96, 2) := by decide +kernel
theorem dX8_clock_4 : decode cX8_clock 4 = .ok (.invokestatic 78, 3) := by decide +kernel
theorem dX8_clock_7 : decode cX8_clock 7 = .ok (.ifCond .ne 5, 3) := by decide +kernel
theorem dX8_clock_10 : decode cX8_clock 10 = .ok (.iconst (-1), 1) := by decide +kernel
theorem dX8_clock_11 : decode cX8_clock 11 = .ok (.ireturn, 1) := by decide +kernel
theorem dX8_clock_12 : decode cX8_clock 12 = .ok (.aload_n 0, 1) := by decide +kernel
theorem dX8_clock_13 : decode cX8_clock 13 = .ok (.getfield 23, 3) := by decide +kernel
theorem dX8_clock_16 : decode cX8_clock 16 = .ok (.iconst 0, 1) := by decide +kernel
theorem dX8_clock_17 : decode cX8_clock 17 = .ok (.iaload, 1) := by decide +kernel
theorem dX8_clock_18 : decode cX8_clock 18 = .ok (.istore_n 2, 1) := by decide +kernel
theorem dX8_clock_19 : decode cX8_clock 19 = .ok (.aload_n 0, 1) := by decide +kernel
theorem dX8_clock_20 : decode cX8_clock 20 = .ok (.getfield 23, 3) := by decide +kernel
theorem dX8_clock_23 : decode cX8_clock 23 = .ok (.iconst 0, 1) := by decide +kernel
theorem dX8_clock_24 : decode cX8_clock 24 = .ok (.iload_n 1, 1) := by decide +kernel
theorem dX8_clock_25 : decode cX8_clock 25 = .ok (.iastore, 1) := by decide +kernel
theorem dX8_clock_26 : decode cX8_clock 26 = .ok (.iload_n 2, 1) := by decide +kernel
theorem dX8_clock_27 : decode cX8_clock 27 = .ok (.ireturn, 1) := by decide +kernel
theorem dX8_lends_0 : decode cX8_lends 0 = .ok (.aload_n 0, 1) := by decide +kernel
theorem dX8_lends_1 : decode cX8_lends 1 = .ok (.iconst 0, 1) := by decide +kernel
theorem dX8_lends_2 : decode cX8_lends 2 = .ok (.putfield 85, 3) := by decide +kernel
theorem dX8_lends_5 : decode cX8_lends 5 = .ok (.iconst 0, 1) := by decide +kernel
theorem dX8_lends_6 : decode cX8_lends 6 = .ok (.istore_n 1, 1) := by decide +kernel
theorem dX8_lends_7 : decode cX8_lends 7 = .ok (.iload_n 1, 1) := by decide +kernel
theorem dX8_lends_8 : decode cX8_lends 8 = .ok (.bipush 43, 2) := by decide +kernel
theorem dX8_lends_10 : decode cX8_lends 10 = .ok (.if_icmp .ge 24, 3) := by decide +kernel
theorem dX8_lends_13 : decode cX8_lends 13 = .ok (.aload_n 0, 1) := by decide +kernel
theorem dX8_lends_14 : decode cX8_lends 14 = .ok (.getfield 23, 3) := by decide +kernel
theorem dX8_lends_17 : decode cX8_lends 17 = .ok (.bipush 43, 2) := by decide +kernel
theorem dX8_lends_19 : decode cX8_lends 19 = .ok (.iload_n 1, 1) := by decide +kernel
theorem dX8_lends_20 : decode cX8_lends 20 = .ok (.iadd, 1) := by decide +kernel
theorem dX8_lends_21 : decode cX8_lends 21 = .ok (.aload_n 0, 1) := by decide +kernel
theorem dX8_lends_22 : decode cX8_lends 22 = .ok (.getfield 23, 3) := by decide +kernel
theorem dX8_lends_25 : decode cX8_lends 25 = .ok (.iload_n 1, 1) := by decide +kernel
theorem dX8_lends_26 : decode cX8_lends 26 = .ok (.iaload, 1) := by decide +kernel
theorem dX8_lends_27 : decode cX8_lends 27 = .ok (.iastore, 1) := by decide +kernel
theorem dX8_lends_28 : decode cX8_lends 28 = .ok (.iinc 1 1, 3) := by decide +kernel
theorem dX8_lends_31 : decode cX8_lends 31 = .ok (.goto (-24), 3) := by decide +kernel
theorem dX8_lends_34 : decode cX8_lends 34 = .ok (.aload_n 0, 1) := by decide +kernel
theorem dX8_lends_35 : decode cX8_lends 35 = .ok (.bipush 43, 2) := by decide +kernel
theorem dX8_lends_37 : decode cX8_lends 37 = .ok (.putfield 85, 3) := by decide +kernel
theorem dX8_lends_40 : decode cX8_lends 40 = .ok (.return_, 1) := by decide +kernel
theorem dX8_height_0 : decode cX8_height 0 = .ok (.aload_n 0, 1) := by decide +kernel
theorem dX8_height_1 : decode cX8_height 1 = .ok (.iload_n 1, 1) := by decide +kernel
theorem dX8_height_2 : decode cX8_height 2 = .ok (.invokevirtual 234, 3) := by decide +kernel
theorem dX8_height_5 : decode cX8_height 5 = .ok (.ifCond .eq 10, 3) := by decide +kernel
theorem dX8_height_8 : decode cX8_height 8 = .ok (.iload_n 2, 1) := by decide +kernel
theorem dX8_height_9 : decode cX8_height 9 = .ok (.invokestatic 286, 3) := by decide +kernel
theorem dX8_height_12 : decode cX8_height 12 = .ok (.ifCond .ne 5, 3) := by decide +kernel
theorem dX8_height_15 : decode cX8_height 15 = .ok (.iconst (-1), 1) := by decide +kernel
theorem dX8_height_16 : decode cX8_height 16 = .ok (.ireturn, 1) := by decide +kernel
theorem dX8_height_17 : decode cX8_height 17 = .ok (.aload_n 0, 1) := by decide +kernel
theorem dX8_height_18 : decode cX8_height 18 = .ok (.invokevirtual 292, 3) := by decide +kernel
theorem dX8_height_21 : decode cX8_height 21 = .ok (.aload_n 0, 1) := by decide +kernel
theorem dX8_height_22 : decode cX8_height 22 = .ok (.iload_n 2, 1) := by decide +kernel
theorem dX8_height_23 : decode cX8_height 23 = .ok (.invokevirtual 289, 3) := by decide +kernel
theorem dX8_height_26 : decode cX8_height 26 = .ok (.aload_n 0, 1) := by decide +kernel
theorem dX8_height_27 : decode cX8_height 27 = .ok (.iload_n 1, 1) := by decide +kernel
theorem dX8_height_28 : decode cX8_height 28 = .ok (.iconst 2, 1) := by decide +kernel
theorem dX8_height_29 : decode cX8_height 29 = .ok (.invokevirtual 219, 3) := by decide +kernel
theorem dX8_height_32 : decode cX8_height 32 = .ok (.istore_n 3, 1) := by decide +kernel
theorem dX8_height_33 : decode cX8_height 33 = .ok (.aload_n 0, 1) := by decide +kernel
theorem dX8_height_34 : decode cX8_height 34 = .ok (.iconst 0, 1) := by decide +kernel
theorem dX8_height_35 : decode cX8_height 35 = .ok (.putfield 85, 3) := by decide +kernel
theorem dX8_height_38 : decode cX8_height 38 = .ok (.iload_n 3, 1) := by decide +kernel
theorem dX8_height_39 : decode cX8_height 39 = .ok (.ireturn, 1) := by decide +kernel
theorem dX8_firstPair_0 : decode cX8_firstPair 0 = .ok (.iconst 0, 1) := by decide +kernel
theorem dX8_firstPair_1 : decode cX8_firstPair 1 = .ok (.istore_n 1, 1) := by decide +kernel
theorem dX8_firstPair_2 : decode cX8_firstPair 2 = .ok (.iload_n 1, 1) := by decide +kernel
theorem dX8_firstPair_3 : decode cX8_firstPair 3 = .ok (.aload_n 0, 1) := by decide +kernel
theorem dX8_firstPair_4 : decode cX8_firstPair 4 = .ok (.getfield 82, 3) := by decide +kernel
theorem dX8_firstPair_7 : decode cX8_firstPair 7 = .ok (.if_icmp .ge 43, 3) := by decide +kernel
theorem dX8_firstPair_10 : decode cX8_firstPair 10 = .ok (.iload_n 1, 1) := by decide +kernel
theorem dX8_firstPair_11 : decode cX8_firstPair 11 = .ok (.iconst 1, 1) := by decide +kernel
theorem dX8_firstPair_12 : decode cX8_firstPair 12 = .ok (.iadd, 1) := by decide +kernel
theorem dX8_firstPair_13 : decode cX8_firstPair 13 = .ok (.istore_n 2, 1) := by decide +kernel
theorem dX8_firstPair_14 : decode cX8_firstPair 14 = .ok (.iload_n 2, 1) := by decide +kernel
theorem dX8_firstPair_15 : decode cX8_firstPair 15 = .ok (.aload_n 0, 1) := by decide +kernel
theorem dX8_firstPair_16 : decode cX8_firstPair 16 = .ok (.getfield 82, 3) := by decide +kernel
theorem dX8_firstPair_19 : decode cX8_firstPair 19 = .ok (.if_icmp .ge 25, 3) := by decide +kernel
theorem dX8_firstPair_22 : decode cX8_firstPair 22 = .ok (.aload_n 0, 1) := by decide +kernel
theorem dX8_firstPair_23 : decode cX8_firstPair 23 = .ok (.iload_n 1, 1) := by decide +kernel
theorem dX8_firstPair_24 : decode cX8_firstPair 24 = .ok (.iload_n 2, 1) := by decide +kernel
theorem dX8_firstPair_25 : decode cX8_firstPair 25 = .ok (.invokevirtual 267, 3) := by decide +kernel
theorem dX8_firstPair_28 : decode cX8_firstPair 28 = .ok (.ifCond .eq 10, 3) := by decide +kernel
theorem dX8_firstPair_31 : decode cX8_firstPair 31 = .ok (.bipush 10, 2) := by decide +kernel
theorem dX8_firstPair_33 : decode cX8_firstPair 33 = .ok (.iload_n 1, 1) := by decide +kernel
theorem dX8_firstPair_34 : decode cX8_firstPair 34 = .ok (.imul, 1) := by decide +kernel
theorem dX8_firstPair_35 : decode cX8_firstPair 35 = .ok (.iload_n 2, 1) := by decide +kernel
theorem dX8_firstPair_36 : decode cX8_firstPair 36 = .ok (.iadd, 1) := by decide +kernel
theorem dX8_firstPair_37 : decode cX8_firstPair 37 = .ok (.ireturn, 1) := by decide +kernel
theorem dX8_firstPair_38 : decode cX8_firstPair 38 = .ok (.iinc 2 1, 3) := by decide +kernel
theorem dX8_firstPair_41 : decode cX8_firstPair 41 = .ok (.goto (-27), 3) := by decide +kernel
theorem dX8_firstPair_44 : decode cX8_firstPair 44 = .ok (.iinc 1 1, 3) := by decide +kernel
theorem dX8_firstPair_47 : decode cX8_firstPair 47 = .ok (.goto (-45), 3) := by decide +kernel
theorem dX8_firstPair_50 : decode cX8_firstPair 50 = .ok (.bipush (-3), 2) := by decide +kernel
theorem dX8_firstPair_52 : decode cX8_firstPair 52 = .ok (.ireturn, 1) := by decide +kernel
theorem dX8_first_0 : decode cX8_first 0 = .ok (.iload_n 1, 1) := by decide +kernel
theorem dX8_first_1 : decode cX8_first 1 = .ok (.iconst 0, 1) := by decide +kernel
theorem dX8_first_2 : decode cX8_first 2 = .ok (.iconst 1, 1) := by decide +kernel
theorem dX8_first_3 : decode cX8_first 3 = .ok (.invokestatic 78, 3) := by decide +kernel
theorem dX8_first_6 : decode cX8_first 6 = .ok (.ifCond .ne 5, 3) := by decide +kernel
theorem dX8_first_9 : decode cX8_first 9 = .ok (.iconst (-1), 1) := by decide +kernel
theorem dX8_first_10 : decode cX8_first 10 = .ok (.ireturn, 1) := by decide +kernel
theorem dX8_first_11 : decode cX8_first 11 = .ok (.aload_n 0, 1) := by decide +kernel
theorem dX8_first_12 : decode cX8_first 12 = .ok (.invokevirtual 292, 3) := by decide +kernel
theorem dX8_first_15 : decode cX8_first 15 = .ok (.iconst 0, 1) := by decide +kernel
theorem dX8_first_16 : decode cX8_first 16 = .ok (.istore_n 2, 1) := by decide +kernel
theorem dX8_first_17 : decode cX8_first 17 = .ok (.aload_n 0, 1) := by decide +kernel
theorem dX8_first_18 : decode cX8_first 18 = .ok (.invokevirtual 295, 3) := by decide +kernel
theorem dX8_first_21 : decode cX8_first 21 = .ok (.istore_n 3, 1) := by decide +kernel
theorem dX8_first_22 : decode cX8_first 22 = .ok (.iload_n 3, 1) := by decide +kernel
theorem dX8_first_23 : decode cX8_first 23 = .ok (.ifCond .ge 27, 3) := by decide +kernel
theorem dX8_first_26 : decode cX8_first 26 = .ok (.iload_n 2, 1) := by decide +kernel
theorem dX8_first_27 : decode cX8_first 27 = .ok (.bipush 48, 2) := by decide +kernel
theorem dX8_first_29 : decode cX8_first 29 = .ok (.if_icmp .ge 21, 3) := by decide +kernel
theorem dX8_first_32 : decode cX8_first 32 = .ok (.aload_n 0, 1) := by decide +kernel
theorem dX8_first_33 : decode cX8_first 33 = .ok (.invokevirtual 282, 3) := by decide +kernel
theorem dX8_first_36 : decode cX8_first 36 = .ok (.ifCond .eq 14, 3) := by decide +kernel
theorem dX8_first_39 : decode cX8_first 39 = .ok (.iinc 2 1, 3) := by decide +kernel
theorem dX8_first_42 : decode cX8_first 42 = .ok (.aload_n 0, 1) := by decide +kernel
theorem dX8_first_43 : decode cX8_first 43 = .ok (.invokevirtual 295, 3) := by decide +kernel
theorem dX8_first_46 : decode cX8_first 46 = .ok (.istore_n 3, 1) := by decide +kernel
theorem dX8_first_47 : decode cX8_first 47 = .ok (.goto (-25), 3) := by decide +kernel
theorem dX8_first_50 : decode cX8_first 50 = .ok (.aload_n 0, 1) := by decide +kernel
theorem dX8_first_51 : decode cX8_first 51 = .ok (.iconst 0, 1) := by decide +kernel
theorem dX8_first_52 : decode cX8_first 52 = .ok (.putfield 85, 3) := by decide +kernel
theorem dX8_first_55 : decode cX8_first 55 = .ok (.iload_n 3, 1) := by decide +kernel
theorem dX8_first_56 : decode cX8_first 56 = .ok (.ifCond .ge 8, 3) := by decide +kernel
theorem dX8_first_59 : decode cX8_first 59 = .ok (.bipush (-3), 2) := by decide +kernel
theorem dX8_first_61 : decode cX8_first 61 = .ok (.goto 12, 3) := by decide +kernel
theorem dX8_first_64 : decode cX8_first 64 = .ok (.iload_n 1, 1) := by decide +kernel
theorem dX8_first_65 : decode cX8_first 65 = .ok (.ifCond .ne 7, 3) := by decide +kernel
theorem dX8_first_68 : decode cX8_first 68 = .ok (.iload_n 2, 1) := by decide +kernel
theorem dX8_first_69 : decode cX8_first 69 = .ok (.goto 4, 3) := by decide +kernel
theorem dX8_first_72 : decode cX8_first 72 = .ok (.iload_n 3, 1) := by decide +kernel
theorem dX8_first_73 : decode cX8_first 73 = .ok (.ireturn, 1) := by decide +kernel
theorem dX8_isClear_0 : decode cX8_isClear 0 = .ok (.aload_n 0, 1) := by decide +kernel
theorem dX8_isClear_1 : decode cX8_isClear 1 = .ok (.iload_n 1, 1) := by decide +kernel
theorem dX8_isClear_2 : decode cX8_isClear 2 = .ok (.invokevirtual 270, 3) := by decide +kernel
theorem dX8_isClear_5 : decode cX8_isClear 5 = .ok (.ifCond .ne 7, 3) := by decide +kernel
theorem dX8_isClear_8 : decode cX8_isClear 8 = .ok (.iconst 1, 1) := by decide +kernel
theorem dX8_isClear_9 : decode cX8_isClear 9 = .ok (.goto 4, 3) := by decide +kernel
theorem dX8_isClear_12 : decode cX8_isClear 12 = .ok (.iconst 0, 1) := by decide +kernel
theorem dX8_isClear_13 : decode cX8_isClear 13 = .ok (.istore_n 3, 1) := by decide +kernel
theorem dX8_isClear_14 : decode cX8_isClear 14 = .ok (.iconst 0, 1) := by decide +kernel
theorem dX8_isClear_15 : decode cX8_isClear 15 = .ok (.istore 4, 2) := by decide +kernel
theorem dX8_isClear_17 : decode cX8_isClear 17 = .ok (.iload_n 3, 1) := by decide +kernel
theorem dX8_isClear_18 : decode cX8_isClear 18 = .ok (.ifCond .eq 36, 3) := by decide +kernel
theorem dX8_isClear_21 : decode cX8_isClear 21 = .ok (.iload 4, 2) := by decide +kernel
theorem dX8_isClear_23 : decode cX8_isClear 23 = .ok (.iload_n 2, 1) := by decide +kernel
theorem dX8_isClear_24 : decode cX8_isClear 24 = .ok (.if_icmp .ge 30, 3) := by decide +kernel
theorem dX8_isClear_27 : decode cX8_isClear 27 = .ok (.aload_n 0, 1) := by decide +kernel
theorem dX8_isClear_28 : decode cX8_isClear 28 = .ok (.invokevirtual 282, 3) := by decide +kernel
theorem dX8_isClear_31 : decode cX8_isClear 31 = .ok (.ifCond .eq 23, 3) := by decide +kernel
theorem dX8_isClear_34 : decode cX8_isClear 34 = .ok (.aload_n 0, 1) := by decide +kernel
theorem dX8_isClear_35 : decode cX8_isClear 35 = .ok (.iload_n 1, 1) := by decide +kernel
theorem dX8_isClear_36 : decode cX8_isClear 36 = .ok (.invokevirtual 270, 3) := by decide +kernel
theorem dX8_isClear_39 : decode cX8_isClear 39 = .ok (.ifCond .ne 7, 3) := by decide +kernel
theorem dX8_isClear_42 : decode cX8_isClear 42 = .ok (.iconst 1, 1) := by decide +kernel
theorem dX8_isClear_43 : decode cX8_isClear 43 = .ok (.goto 4, 3) := by decide +kernel
theorem dX8_isClear_46 : decode cX8_isClear 46 = .ok (.iconst 0, 1) := by decide +kernel
theorem dX8_isClear_47 : decode cX8_isClear 47 = .ok (.istore_n 3, 1) := by decide +kernel
theorem dX8_isClear_48 : decode cX8_isClear 48 = .ok (.iinc 4 1, 3) := by decide +kernel
theorem dX8_isClear_51 : decode cX8_isClear 51 = .ok (.goto (-34), 3) := by decide +kernel
theorem dX8_isClear_54 : decode cX8_isClear 54 = .ok (.iload_n 3, 1) := by decide +kernel
theorem dX8_isClear_55 : decode cX8_isClear 55 = .ok (.ireturn, 1) := by decide +kernel
theorem dX8_isClearWith_0 : decode cX8_isClearWith 0 = .ok (.aload_n 0, 1) := by decide +kernel
theorem dX8_isClearWith_1 : decode cX8_isClearWith 1 = .ok (.invokevirtual 292, 3) := by decide +kernel
theorem dX8_isClearWith_4 : decode cX8_isClearWith 4 = .ok (.aload_n 0, 1) := by decide +kernel
theorem dX8_isClearWith_5 : decode cX8_isClearWith 5 = .ok (.iload_n 1, 1) := by decide +kernel
theorem dX8_isClearWith_6 : decode cX8_isClearWith 6 = .ok (.iload_n 2, 1) := by decide +kernel
theorem dX8_isClearWith_7 : decode cX8_isClearWith 7 = .ok (.iload_n 3, 1) := by decide +kernel
theorem dX8_isClearWith_8 : decode cX8_isClearWith 8 = .ok (.invokevirtual 215, 3) := by decide +kernel
theorem dX8_isClearWith_11 : decode cX8_isClearWith 11 = .ok (.aload_n 0, 1) := by decide +kernel
theorem dX8_isClearWith_12 : decode cX8_isClearWith 12 = .ok (.iload_n 1, 1) := by decide +kernel
theorem dX8_isClearWith_13 : decode cX8_isClearWith 13 = .ok (.iload 4, 2) := by decide +kernel
theorem dX8_isClearWith_15 : decode cX8_isClearWith 15 = .ok (.invokevirtual 298, 3) := by decide +kernel
theorem dX8_isClearWith_18 : decode cX8_isClearWith 18 = .ok (.istore 5, 2) := by decide +kernel
theorem dX8_isClearWith_20 : decode cX8_isClearWith 20 = .ok (.aload_n 0, 1) := by decide +kernel
theorem dX8_isClearWith_21 : decode cX8_isClearWith 21 = .ok (.iconst 0, 1) := by decide +kernel
theorem dX8_isClearWith_22 : decode cX8_isClearWith 22 = .ok (.putfield 85, 3) := by decide +kernel
theorem dX8_isClearWith_25 : decode cX8_isClearWith 25 = .ok (.iload 5, 2) := by decide +kernel
theorem dX8_isClearWith_27 : decode cX8_isClearWith 27 = .ok (.ireturn, 1) := by decide +kernel
theorem dX8_clear_0 : decode cX8_clear 0 = .ok (.aload_n 0, 1) := by decide +kernel
theorem dX8_clear_1 : decode cX8_clear 1 = .ok (.iload_n 1, 1) := by decide +kernel
theorem dX8_clear_2 : decode cX8_clear 2 = .ok (.invokevirtual 234, 3) := by decide +kernel
theorem dX8_clear_5 : decode cX8_clear 5 = .ok (.ifCond .eq 10, 3) := by decide +kernel
theorem dX8_clear_8 : decode cX8_clear 8 = .ok (.iload_n 2, 1) := by decide +kernel
theorem dX8_clear_9 : decode cX8_clear 9 = .ok (.invokestatic 286, 3) := by decide +kernel
theorem dX8_clear_12 : decode cX8_clear 12 = .ok (.ifCond .ne 5, 3) := by decide +kernel
theorem dX8_clear_15 : decode cX8_clear 15 = .ok (.iconst (-1), 1) := by decide +kernel
theorem dX8_clear_16 : decode cX8_clear 16 = .ok (.ireturn, 1) := by decide +kernel
theorem dX8_clear_17 : decode cX8_clear 17 = .ok (.aload_n 0, 1) := by decide +kernel
theorem dX8_clear_18 : decode cX8_clear 18 = .ok (.iload_n 1, 1) := by decide +kernel
theorem dX8_clear_19 : decode cX8_clear 19 = .ok (.iconst 1, 1) := by decide +kernel
theorem dX8_clear_20 : decode cX8_clear 20 = .ok (.aload_n 0, 1) := by decide +kernel
theorem dX8_clear_21 : decode cX8_clear 21 = .ok (.iload_n 1, 1) := by decide +kernel
theorem dX8_clear_22 : decode cX8_clear 22 = .ok (.iconst 1, 1) := by decide +kernel
theorem dX8_clear_23 : decode cX8_clear 23 = .ok (.invokevirtual 219, 3) := by decide +kernel
theorem dX8_clear_26 : decode cX8_clear 26 = .ok (.iload_n 2, 1) := by decide +kernel
theorem dX8_clear_27 : decode cX8_clear 27 = .ok (.invokevirtual 301, 3) := by decide +kernel
theorem dX8_clear_30 : decode cX8_clear 30 = .ok (.ifCond .eq 7, 3) := by decide +kernel
theorem dX8_clear_33 : decode cX8_clear 33 = .ok (.iconst 1, 1) := by decide +kernel
theorem dX8_clear_34 : decode cX8_clear 34 = .ok (.goto 4, 3) := by decide +kernel
theorem dX8_clear_37 : decode cX8_clear 37 = .ok (.iconst 0, 1) := by decide +kernel
theorem dX8_clear_38 : decode cX8_clear 38 = .ok (.ireturn, 1) := by decide +kernel
theorem dX8_leastSand_0 : decode cX8_leastSand 0 = .ok (.aload_n 0, 1) := by decide +kernel
theorem dX8_leastSand_1 : decode cX8_leastSand 1 = .ok (.iload_n 1, 1) := by decide +kernel
theorem dX8_leastSand_2 : decode cX8_leastSand 2 = .ok (.invokevirtual 234, 3) := by decide +kernel
theorem dX8_leastSand_5 : decode cX8_leastSand 5 = .ok (.ifCond .eq 10, 3) := by decide +kernel
theorem dX8_leastSand_8 : decode cX8_leastSand 8 = .ok (.iload_n 2, 1) := by decide +kernel
theorem dX8_leastSand_9 : decode cX8_leastSand 9 = .ok (.invokestatic 304, 3) := by decide +kernel
theorem dX8_leastSand_12 : decode cX8_leastSand 12 = .ok (.ifCond .ne 5, 3) := by decide +kernel
theorem dX8_leastSand_15 : decode cX8_leastSand 15 = .ok (.iconst (-1), 1) := by decide +kernel
theorem dX8_leastSand_16 : decode cX8_leastSand 16 = .ok (.ireturn, 1) := by decide +kernel
theorem dX8_leastSand_17 : decode cX8_leastSand 17 = .ok (.aload_n 0, 1) := by decide +kernel
theorem dX8_leastSand_18 : decode cX8_leastSand 18 = .ok (.iload_n 1, 1) := by decide +kernel
theorem dX8_leastSand_19 : decode cX8_leastSand 19 = .ok (.iconst 5, 1) := by decide +kernel
theorem dX8_leastSand_20 : decode cX8_leastSand 20 = .ok (.invokevirtual 219, 3) := by decide +kernel
theorem dX8_leastSand_23 : decode cX8_leastSand 23 = .ok (.istore_n 3, 1) := by decide +kernel
theorem dX8_leastSand_24 : decode cX8_leastSand 24 = .ok (.iconst 0, 1) := by decide +kernel
theorem dX8_leastSand_25 : decode cX8_leastSand 25 = .ok (.istore 4, 2) := by decide +kernel
theorem dX8_leastSand_27 : decode cX8_leastSand 27 = .ok (.iload 4, 2) := by decide +kernel
theorem dX8_leastSand_29 : decode cX8_leastSand 29 = .ok (.iload_n 3, 1) := by decide +kernel
theorem dX8_leastSand_30 : decode cX8_leastSand 30 = .ok (.if_icmp .gt 23, 3) := by decide +kernel
theorem dX8_leastSand_33 : decode cX8_leastSand 33 = .ok (.aload_n 0, 1) := by decide +kernel
theorem dX8_leastSand_34 : decode cX8_leastSand 34 = .ok (.iload_n 1, 1) := by decide +kernel
theorem dX8_leastSand_35 : decode cX8_leastSand 35 = .ok (.iconst 5, 1) := by decide +kernel
theorem dX8_leastSand_36 : decode cX8_leastSand 36 = .ok (.iload_n 3, 1) := by decide +kernel
theorem dX8_leastSand_37 : decode cX8_leastSand 37 = .ok (.iload 4, 2) := by decide +kernel
theorem dX8_leastSand_39 : decode cX8_leastSand 39 = .ok (.isub, 1) := by decide +kernel
theorem dX8_leastSand_40 : decode cX8_leastSand 40 = .ok (.iload_n 2, 1) := by decide +kernel
theorem dX8_leastSand_41 : decode cX8_leastSand 41 = .ok (.invokevirtual 301, 3) := by decide +kernel
theorem dX8_leastSand_44 : decode cX8_leastSand 44 = .ok (.ifCond .ne 9, 3) := by decide +kernel
theorem dX8_leastSand_47 : decode cX8_leastSand 47 = .ok (.iinc 4 1, 3) := by decide +kernel
theorem dX8_leastSand_50 : decode cX8_leastSand 50 = .ok (.goto (-23), 3) := by decide +kernel
theorem dX8_leastSand_53 : decode cX8_leastSand 53 = .ok (.iload 4, 2) := by decide +kernel
theorem dX8_leastSand_55 : decode cX8_leastSand 55 = .ok (.iload_n 3, 1) := by decide +kernel
theorem dX8_leastSand_56 : decode cX8_leastSand 56 = .ok (.if_icmp .gt 8, 3) := by decide +kernel
theorem dX8_leastSand_59 : decode cX8_leastSand 59 = .ok (.iload 4, 2) := by decide +kernel
theorem dX8_leastSand_61 : decode cX8_leastSand 61 = .ok (.goto 5, 3) := by decide +kernel
theorem dX8_leastSand_64 : decode cX8_leastSand 64 = .ok (.bipush (-3), 2) := by decide +kernel
theorem dX8_leastSand_66 : decode cX8_leastSand 66 = .ok (.ireturn, 1) := by decide +kernel
theorem dX8_ropeFor_0 : decode cX8_ropeFor 0 = .ok (.aload_n 0, 1) := by decide +kernel
theorem dX8_ropeFor_1 : decode cX8_ropeFor 1 = .ok (.iload_n 1, 1) := by decide +kernel
theorem dX8_ropeFor_2 : decode cX8_ropeFor 2 = .ok (.invokevirtual 234, 3) := by decide +kernel
theorem dX8_ropeFor_5 : decode cX8_ropeFor 5 = .ok (.ifCond .eq 10, 3) := by decide +kernel
theorem dX8_ropeFor_8 : decode cX8_ropeFor 8 = .ok (.iload_n 2, 1) := by decide +kernel
theorem dX8_ropeFor_9 : decode cX8_ropeFor 9 = .ok (.invokestatic 304, 3) := by decide +kernel
theorem dX8_ropeFor_12 : decode cX8_ropeFor 12 = .ok (.ifCond .ne 5, 3) := by decide +kernel
theorem dX8_ropeFor_15 : decode cX8_ropeFor 15 = .ok (.iconst (-1), 1) := by decide +kernel
theorem dX8_ropeFor_16 : decode cX8_ropeFor 16 = .ok (.ireturn, 1) := by decide +kernel
theorem dX8_ropeFor_17 : decode cX8_ropeFor 17 = .ok (.bipush 99, 2) := by decide +kernel
theorem dX8_ropeFor_19 : decode cX8_ropeFor 19 = .ok (.istore_n 3, 1) := by decide +kernel
theorem dX8_ropeFor_20 : decode cX8_ropeFor 20 = .ok (.iload_n 3, 1) := by decide +kernel
theorem dX8_ropeFor_21 : decode cX8_ropeFor 21 = .ok (.ifCond .le 20, 3) := by decide +kernel
theorem dX8_ropeFor_24 : decode cX8_ropeFor 24 = .ok (.aload_n 0, 1) := by decide +kernel
theorem dX8_ropeFor_25 : decode cX8_ropeFor 25 = .ok (.iload_n 1, 1) := by decide +kernel
theorem dX8_ropeFor_26 : decode cX8_ropeFor 26 = .ok (.iconst 3, 1) := by decide +kernel
theorem dX8_ropeFor_27 : decode cX8_ropeFor 27 = .ok (.iload_n 3, 1) := by decide +kernel
theorem dX8_ropeFor_28 : decode cX8_ropeFor 28 = .ok (.iload_n 2, 1) := by decide +kernel
theorem dX8_ropeFor_29 : decode cX8_ropeFor 29 = .ok (.invokevirtual 301, 3) := by decide +kernel
theorem dX8_ropeFor_32 : decode cX8_ropeFor 32 = .ok (.ifCond .ne 9, 3) := by decide +kernel
theorem dX8_ropeFor_35 : decode cX8_ropeFor 35 = .ok (.iinc 3 (-1), 3) := by decide +kernel
theorem dX8_ropeFor_38 : decode cX8_ropeFor 38 = .ok (.goto (-18), 3) := by decide +kernel
theorem dX8_ropeFor_41 : decode cX8_ropeFor 41 = .ok (.iload_n 3, 1) := by decide +kernel
theorem dX8_ropeFor_42 : decode cX8_ropeFor 42 = .ok (.ifCond .le 7, 3) := by decide +kernel
theorem dX8_ropeFor_45 : decode cX8_ropeFor 45 = .ok (.iload_n 3, 1) := by decide +kernel
theorem dX8_ropeFor_46 : decode cX8_ropeFor 46 = .ok (.goto 5, 3) := by decide +kernel
theorem dX8_ropeFor_49 : decode cX8_ropeFor 49 = .ok (.bipush (-3), 2) := by decide +kernel
theorem dX8_ropeFor_51 : decode cX8_ropeFor 51 = .ok (.ireturn, 1) := by decide +kernel
theorem dX8_columnFor_0 : decode cX8_columnFor 0 = .ok (.aload_n 0, 1) := by decide +kernel
theorem dX8_columnFor_1 : decode cX8_columnFor 1 = .ok (.iload_n 1, 1) := by decide +kernel
theorem dX8_columnFor_2 : decode cX8_columnFor 2 = .ok (.invokevirtual 234, 3) := by decide +kernel
theorem dX8_columnFor_5 : decode cX8_columnFor 5 = .ok (.ifCond .eq 10, 3) := by decide +kernel
theorem dX8_columnFor_8 : decode cX8_columnFor 8 = .ok (.iload_n 2, 1) := by decide +kernel
theorem dX8_columnFor_9 : decode cX8_columnFor 9 = .ok (.invokestatic 304, 3) := by decide +kernel
theorem dX8_columnFor_12 : decode cX8_columnFor 12 = .ok (.ifCond .ne 5, 3) := by decide +kernel
theorem dX8_columnFor_15 : decode cX8_columnFor 15 = .ok (.iconst (-1), 1) := by decide +kernel
theorem dX8_columnFor_16 : decode cX8_columnFor 16 = .ok (.ireturn, 1) := by decide +kernel
theorem dX8_columnFor_17 : decode cX8_columnFor 17 = .ok (.iconst 0, 1) := by decide +kernel
theorem dX8_columnFor_18 : decode cX8_columnFor 18 = .ok (.istore_n 3, 1) := by decide +kernel
theorem dX8_columnFor_19 : decode cX8_columnFor 19 = .ok (.iload_n 3, 1) := by decide +kernel
theorem dX8_columnFor_20 : decode cX8_columnFor 20 = .ok (.bipush 6, 2) := by decide +kernel
theorem dX8_columnFor_22 : decode cX8_columnFor 22 = .ok (.if_icmp .ge 20, 3) := by decide +kernel
theorem dX8_columnFor_25 : decode cX8_columnFor 25 = .ok (.aload_n 0, 1) := by decide +kernel
theorem dX8_columnFor_26 : decode cX8_columnFor 26 = .ok (.iload_n 1, 1) := by decide +kernel
theorem dX8_columnFor_27 : decode cX8_columnFor 27 = .ok (.iconst 1, 1) := by decide +kernel
theorem dX8_columnFor_28 : decode cX8_columnFor 28 = .ok (.iload_n 3, 1) := by decide +kernel
theorem dX8_columnFor_29 : decode cX8_columnFor 29 = .ok (.iload_n 2, 1) := by decide +kernel
theorem dX8_columnFor_30 : decode cX8_columnFor 30 = .ok (.invokevirtual 301, 3) := by decide +kernel
theorem dX8_columnFor_33 : decode cX8_columnFor 33 = .ok (.ifCond .ne 9, 3) := by decide +kernel
theorem dX8_columnFor_36 : decode cX8_columnFor 36 = .ok (.iinc 3 1, 3) := by decide +kernel
theorem dX8_columnFor_39 : decode cX8_columnFor 39 = .ok (.goto (-20), 3) := by decide +kernel
theorem dX8_columnFor_42 : decode cX8_columnFor 42 = .ok (.iload_n 3, 1) := by decide +kernel
theorem dX8_columnFor_43 : decode cX8_columnFor 43 = .ok (.bipush 6, 2) := by decide +kernel
theorem dX8_columnFor_45 : decode cX8_columnFor 45 = .ok (.if_icmp .ge 7, 3) := by decide +kernel
theorem dX8_columnFor_48 : decode cX8_columnFor 48 = .ok (.iload_n 3, 1) := by decide +kernel
theorem dX8_columnFor_49 : decode cX8_columnFor 49 = .ok (.goto 5, 3) := by decide +kernel
theorem dX8_columnFor_52 : decode cX8_columnFor 52 = .ok (.bipush (-3), 2) := by decide +kernel
theorem dX8_columnFor_54 : decode cX8_columnFor 54 = .ok (.ireturn, 1) := by decide +kernel
theorem dX8_lasts_0 : decode cX8_lasts 0 = .ok (.aload_n 0, 1) := by decide +kernel
theorem dX8_lasts_1 : decode cX8_lasts 1 = .ok (.iload_n 1, 1) := by decide +kernel
theorem dX8_lasts_2 : decode cX8_lasts 2 = .ok (.invokevirtual 234, 3) := by decide +kernel
theorem dX8_lasts_5 : decode cX8_lasts 5 = .ok (.ifCond .ne 5, 3) := by decide +kernel
theorem dX8_lasts_8 : decode cX8_lasts 8 = .ok (.iconst (-1), 1) := by decide +kernel
theorem dX8_lasts_9 : decode cX8_lasts 9 = .ok (.ireturn, 1) := by decide +kernel
theorem dX8_lasts_10 : decode cX8_lasts 10 = .ok (.aload_n 0, 1) := by decide +kernel
theorem dX8_lasts_11 : decode cX8_lasts 11 = .ok (.iload_n 1, 1) := by decide +kernel
theorem dX8_lasts_12 : decode cX8_lasts 12 = .ok (.bipush 6, 2) := by decide +kernel
theorem dX8_lasts_14 : decode cX8_lasts 14 = .ok (.invokevirtual 219, 3) := by decide +kernel
theorem dX8_lasts_17 : decode cX8_lasts 17 = .ok (.istore_n 2, 1) := by decide +kernel
theorem dX8_lasts_18 : decode cX8_lasts 18 = .ok (.aload_n 0, 1) := by decide +kernel
theorem dX8_lasts_19 : decode cX8_lasts 19 = .ok (.iload_n 1, 1) := by decide +kernel
theorem dX8_lasts_20 : decode cX8_lasts 20 = .ok (.bipush 7, 2) := by decide +kernel
theorem dX8_lasts_22 : decode cX8_lasts 22 = .ok (.invokevirtual 219, 3) := by decide +kernel
theorem dX8_lasts_25 : decode cX8_lasts 25 = .ok (.istore_n 3, 1) := by decide +kernel
theorem dX8_lasts_26 : decode cX8_lasts 26 = .ok (.iload_n 2, 1) := by decide +kernel
theorem dX8_lasts_27 : decode cX8_lasts 27 = .ok (.ifCond .ne 5, 3) := by decide +kernel
theorem dX8_lasts_30 : decode cX8_lasts 30 = .ok (.iconst 0, 1) := by decide +kernel
theorem dX8_lasts_31 : decode cX8_lasts 31 = .ok (.ireturn, 1) := by decide +kernel
theorem dX8_lasts_32 : decode cX8_lasts 32 = .ok (.iload_n 3, 1) := by decide +kernel
theorem dX8_lasts_33 : decode cX8_lasts 33 = .ok (.ifCond .ne 8, 3) := by decide +kernel
theorem dX8_lasts_36 : decode cX8_lasts 36 = .ok (.bipush (-3), 2) := by decide +kernel
theorem dX8_lasts_38 : decode cX8_lasts 38 = .ok (.goto 18, 3) := by decide +kernel
theorem dX8_lasts_41 : decode cX8_lasts 41 = .ok (.iload_n 2, 1) := by decide +kernel
theorem dX8_lasts_42 : decode cX8_lasts 42 = .ok (.iload_n 3, 1) := by decide +kernel
theorem dX8_lasts_43 : decode cX8_lasts 43 = .ok (.iadd, 1) := by decide +kernel
theorem dX8_lasts_44 : decode cX8_lasts 44 = .ok (.iconst 1, 1) := by decide +kernel
theorem dX8_lasts_45 : decode cX8_lasts 45 = .ok (.isub, 1) := by decide +kernel
theorem dX8_lasts_46 : decode cX8_lasts 46 = .ok (.iload_n 3, 1) := by decide +kernel
theorem dX8_lasts_47 : decode cX8_lasts 47 = .ok (.ifCond .ne 7, 3) := by decide +kernel
theorem dX8_lasts_50 : decode cX8_lasts 50 = .ok (.iconst 1, 1) := by decide +kernel
theorem dX8_lasts_51 : decode cX8_lasts 51 = .ok (.goto 4, 3) := by decide +kernel
theorem dX8_lasts_54 : decode cX8_lasts 54 = .ok (.iload_n 3, 1) := by decide +kernel
theorem dX8_lasts_55 : decode cX8_lasts 55 = .ok (.idiv, 1) := by decide +kernel
theorem dX8_lasts_56 : decode cX8_lasts 56 = .ok (.ireturn, 1) := by decide +kernel
theorem dX8_pairsBehind_0 : decode cX8_pairsBehind 0 = .ok (.iconst 0, 1) := by decide +kernel
theorem dX8_pairsBehind_1 : decode cX8_pairsBehind 1 = .ok (.istore_n 2, 1) := by decide +kernel
theorem dX8_pairsBehind_2 : decode cX8_pairsBehind 2 = .ok (.iconst 0, 1) := by decide +kernel
theorem dX8_pairsBehind_3 : decode cX8_pairsBehind 3 = .ok (.istore_n 3, 1) := by decide +kernel
theorem dX8_pairsBehind_4 : decode cX8_pairsBehind 4 = .ok (.iload_n 3, 1) := by decide +kernel
theorem dX8_pairsBehind_5 : decode cX8_pairsBehind 5 = .ok (.iload_n 1, 1) := by decide +kernel
theorem dX8_pairsBehind_6 : decode cX8_pairsBehind 6 = .ok (.if_icmp .ge 23, 3) := by decide +kernel
theorem dX8_pairsBehind_9 : decode cX8_pairsBehind 9 = .ok (.aload_n 0, 1) := by decide +kernel
theorem dX8_pairsBehind_10 : decode cX8_pairsBehind 10 = .ok (.invokevirtual 282, 3) := by decide +kernel
theorem dX8_pairsBehind_13 : decode cX8_pairsBehind 13 = .ok (.ifCond .eq 16, 3) := by decide +kernel
theorem dX8_pairsBehind_16 : decode cX8_pairsBehind 16 = .ok (.iload_n 2, 1) := by decide +kernel
theorem dX8_pairsBehind_17 : decode cX8_pairsBehind 17 = .ok (.aload_n 0, 1) := by decide +kernel
theorem dX8_pairsBehind_18 : decode cX8_pairsBehind 18 = .ok (.invokevirtual 307, 3) := by decide +kernel
theorem dX8_pairsBehind_21 : decode cX8_pairsBehind 21 = .ok (.iadd, 1) := by decide +kernel
theorem dX8_pairsBehind_22 : decode cX8_pairsBehind 22 = .ok (.istore_n 2, 1) := by decide +kernel
theorem dX8_pairsBehind_23 : decode cX8_pairsBehind 23 = .ok (.iinc 3 1, 3) := by decide +kernel
theorem dX8_pairsBehind_26 : decode cX8_pairsBehind 26 = .ok (.goto (-22), 3) := by decide +kernel
theorem dX8_pairsBehind_29 : decode cX8_pairsBehind 29 = .ok (.iload_n 2, 1) := by decide +kernel
theorem dX8_pairsBehind_30 : decode cX8_pairsBehind 30 = .ok (.ireturn, 1) := by decide +kernel
theorem dX8_help_0 : decode cX8_help 0 = .ok (.iload_n 1, 1) := by decide +kernel
theorem dX8_help_1 : decode cX8_help 1 = .ok (.iconst 1, 1) := by decide +kernel
theorem dX8_help_2 : decode cX8_help 2 = .ok (.bipush 24, 2) := by decide +kernel
theorem dX8_help_4 : decode cX8_help 4 = .ok (.invokestatic 78, 3) := by decide +kernel
theorem dX8_help_7 : decode cX8_help 7 = .ok (.ifCond .ne 5, 3) := by decide +kernel
theorem dX8_help_10 : decode cX8_help 10 = .ok (.iconst (-1), 1) := by decide +kernel
theorem dX8_help_11 : decode cX8_help 11 = .ok (.ireturn, 1) := by decide +kernel
theorem dX8_help_12 : decode cX8_help 12 = .ok (.bipush (-3), 2) := by decide +kernel
theorem dX8_help_14 : decode cX8_help 14 = .ok (.istore_n 2, 1) := by decide +kernel
theorem dX8_help_15 : decode cX8_help 15 = .ok (.iconst 0, 1) := by decide +kernel
theorem dX8_help_16 : decode cX8_help 16 = .ok (.istore_n 3, 1) := by decide +kernel
theorem dX8_help_17 : decode cX8_help 17 = .ok (.iconst 0, 1) := by decide +kernel
theorem dX8_help_18 : decode cX8_help 18 = .ok (.istore 4, 2) := by decide +kernel
theorem dX8_help_20 : decode cX8_help 20 = .ok (.iload 4, 2) := by decide +kernel
theorem dX8_help_22 : decode cX8_help 22 = .ok (.bipush 36, 2) := by decide +kernel
theorem dX8_help_24 : decode cX8_help 24 = .ok (.if_icmp .ge 137, 3) := by decide +kernel
theorem dX8_help_27 : decode cX8_help 27 = .ok (.iload 4, 2) := by decide +kernel
theorem dX8_help_29 : decode cX8_help 29 = .ok (.bipush 6, 2) := by decide +kernel
theorem dX8_help_31 : decode cX8_help 31 = .ok (.idiv, 1) := by decide +kernel
theorem dX8_help_32 : decode cX8_help 32 = .ok (.istore 5, 2) := by decide +kernel
theorem dX8_help_34 : decode cX8_help 34 = .ok (.iload 4, 2) := by decide +kernel
theorem dX8_help_36 : decode cX8_help 36 = .ok (.bipush 6, 2) := by decide +kernel
theorem dX8_help_38 : decode cX8_help 38 = .ok (.irem, 1) := by decide +kernel
theorem dX8_help_39 : decode cX8_help 39 = .ok (.istore 6, 2) := by decide +kernel
theorem dX8_help_41 : decode cX8_help 41 = .ok (.aload_n 0, 1) := by decide +kernel
theorem dX8_help_42 : decode cX8_help 42 = .ok (.iload 5, 2) := by decide +kernel
theorem dX8_help_44 : decode cX8_help 44 = .ok (.invokevirtual 234, 3) := by decide +kernel
theorem dX8_help_47 : decode cX8_help 47 = .ok (.ifCond .eq 108, 3) := by decide +kernel
theorem dX8_help_50 : decode cX8_help 50 = .ok (.aload_n 0, 1) := by decide +kernel
theorem dX8_help_51 : decode cX8_help 51 = .ok (.iload 6, 2) := by decide +kernel
theorem dX8_help_53 : decode cX8_help 53 = .ok (.invokevirtual 234, 3) := by decide +kernel
theorem dX8_help_56 : decode cX8_help 56 = .ok (.ifCond .eq 99, 3) := by decide +kernel
theorem dX8_help_59 : decode cX8_help 59 = .ok (.iload 5, 2) := by decide +kernel
theorem dX8_help_61 : decode cX8_help 61 = .ok (.iload 6, 2) := by decide +kernel
theorem dX8_help_63 : decode cX8_help 63 = .ok (.if_icmp .eq 92, 3) := by decide +kernel
theorem dX8_help_66 : decode cX8_help 66 = .ok (.aload_n 0, 1) := by decide +kernel
theorem dX8_help_67 : decode cX8_help 67 = .ok (.aload_n 0, 1) := by decide +kernel
theorem dX8_help_68 : decode cX8_help 68 = .ok (.iload 5, 2) := by decide +kernel
theorem dX8_help_70 : decode cX8_help 70 = .ok (.invokevirtual 234, 3) := by decide +kernel
theorem dX8_help_73 : decode cX8_help 73 = .ok (.ifCond .eq 8, 3) := by decide +kernel
theorem dX8_help_76 : decode cX8_help 76 = .ok (.iload 5, 2) := by decide +kernel
theorem dX8_help_78 : decode cX8_help 78 = .ok (.goto 4, 3) := by decide +kernel
theorem dX8_help_81 : decode cX8_help 81 = .ok (.iconst 0, 1) := by decide +kernel
theorem dX8_help_82 : decode cX8_help 82 = .ok (.aload_n 0, 1) := by decide +kernel
theorem dX8_help_83 : decode cX8_help 83 = .ok (.iload 6, 2) := by decide +kernel
theorem dX8_help_85 : decode cX8_help 85 = .ok (.invokevirtual 234, 3) := by decide +kernel
theorem dX8_help_88 : decode cX8_help 88 = .ok (.ifCond .eq 8, 3) := by decide +kernel
theorem dX8_help_91 : decode cX8_help 91 = .ok (.iload 6, 2) := by decide +kernel
theorem dX8_help_93 : decode cX8_help 93 = .ok (.goto 4, 3) := by decide +kernel
theorem dX8_help_96 : decode cX8_help 96 = .ok (.iconst 0, 1) := by decide +kernel
theorem dX8_help_97 : decode cX8_help 97 = .ok (.iconst 5, 1) := by decide +kernel
theorem dX8_help_98 : decode cX8_help 98 = .ok (.bipush 10, 2) := by decide +kernel
theorem dX8_help_100 : decode cX8_help 100 = .ok (.invokevirtual 259, 3) := by decide +kernel
theorem dX8_help_103 : decode cX8_help 103 = .ok (.ifCond .eq 52, 3) := by decide +kernel
theorem dX8_help_106 : decode cX8_help 106 = .ok (.aload_n 0, 1) := by decide +kernel
theorem dX8_help_107 : decode cX8_help 107 = .ok (.invokevirtual 292, 3) := by decide +kernel
theorem dX8_help_110 : decode cX8_help 110 = .ok (.aload_n 0, 1) := by decide +kernel
theorem dX8_help_111 : decode cX8_help 111 = .ok (.iload 5, 2) := by decide +kernel
theorem dX8_help_113 : decode cX8_help 113 = .ok (.iload 6, 2) := by decide +kernel
theorem dX8_help_115 : decode cX8_help 115 = .ok (.iconst 5, 1) := by decide +kernel
theorem dX8_help_116 : decode cX8_help 116 = .ok (.bipush 10, 2) := by decide +kernel
theorem dX8_help_118 : decode cX8_help 118 = .ok (.invokevirtual 263, 3) := by decide +kernel
theorem dX8_help_121 : decode cX8_help 121 = .ok (.aload_n 0, 1) := by decide +kernel
theorem dX8_help_122 : decode cX8_help 122 = .ok (.iload_n 1, 1) := by decide +kernel
theorem dX8_help_123 : decode cX8_help 123 = .ok (.invokevirtual 310, 3) := by decide +kernel
theorem dX8_help_126 : decode cX8_help 126 = .ok (.istore 7, 2) := by decide +kernel
theorem dX8_help_128 : decode cX8_help 128 = .ok (.aload_n 0, 1) := by decide +kernel
theorem dX8_help_129 : decode cX8_help 129 = .ok (.iconst 0, 1) := by decide +kernel
theorem dX8_help_130 : decode cX8_help 130 = .ok (.putfield 85, 3) := by decide +kernel
theorem dX8_help_133 : decode cX8_help 133 = .ok (.iload_n 2, 1) := by decide +kernel
theorem dX8_help_134 : decode cX8_help 134 = .ok (.ifCond .lt 9, 3) := by decide +kernel
theorem dX8_help_137 : decode cX8_help 137 = .ok (.iload 7, 2) := by decide +kernel
theorem dX8_help_139 : decode cX8_help 139 = .ok (.iload_n 3, 1) := by decide +kernel
theorem dX8_help_140 : decode cX8_help 140 = .ok (.if_icmp .ge 15, 3) := by decide +kernel
theorem dX8_help_143 : decode cX8_help 143 = .ok (.bipush 10, 2) := by decide +kernel
theorem dX8_help_145 : decode cX8_help 145 = .ok (.iload 5, 2) := by decide +kernel
theorem dX8_help_147 : decode cX8_help 147 = .ok (.imul, 1) := by decide +kernel
theorem dX8_help_148 : decode cX8_help 148 = .ok (.iload 6, 2) := by decide +kernel
theorem dX8_help_150 : decode cX8_help 150 = .ok (.iadd, 1) := by decide +kernel
theorem dX8_help_151 : decode cX8_help 151 = .ok (.istore_n 2, 1) := by decide +kernel
theorem dX8_help_152 : decode cX8_help 152 = .ok (.iload 7, 2) := by decide +kernel
theorem dX8_help_154 : decode cX8_help 154 = .ok (.istore_n 3, 1) := by decide +kernel
theorem dX8_help_155 : decode cX8_help 155 = .ok (.iinc 4 1, 3) := by decide +kernel
theorem dX8_help_158 : decode cX8_help 158 = .ok (.goto (-138), 3) := by decide +kernel
theorem dX8_help_161 : decode cX8_help 161 = .ok (.iload_n 2, 1) := by decide +kernel
theorem dX8_help_162 : decode cX8_help 162 = .ok (.ireturn, 1) := by decide +kernel
theorem dX8_cold_0 : decode cX8_cold 0 = .ok (.bipush 40, 2) := by decide +kernel
theorem dX8_cold_2 : decode cX8_cold 2 = .ok (.istore_n 1, 1) := by decide +kernel
theorem dX8_cold_3 : decode cX8_cold 3 = .ok (.iconst 0, 1) := by decide +kernel
theorem dX8_cold_4 : decode cX8_cold 4 = .ok (.istore_n 2, 1) := by decide +kernel
theorem dX8_cold_5 : decode cX8_cold 5 = .ok (.iload_n 1, 1) := by decide +kernel
theorem dX8_cold_6 : decode cX8_cold 6 = .ok (.ifCond .le 51, 3) := by decide +kernel
theorem dX8_cold_9 : decode cX8_cold 9 = .ok (.iload_n 2, 1) := by decide +kernel
theorem dX8_cold_10 : decode cX8_cold 10 = .ok (.ifCond .ne 47, 3) := by decide +kernel
theorem dX8_cold_13 : decode cX8_cold 13 = .ok (.aload_n 0, 1) := by decide +kernel
theorem dX8_cold_14 : decode cX8_cold 14 = .ok (.iload_n 1, 1) := by decide +kernel
theorem dX8_cold_15 : decode cX8_cold 15 = .ok (.putfield 225, 3) := by decide +kernel
theorem dX8_cold_18 : decode cX8_cold 18 = .ok (.aload_n 0, 1) := by decide +kernel
theorem dX8_cold_19 : decode cX8_cold 19 = .ok (.invokevirtual 292, 3) := by decide +kernel
theorem dX8_cold_22 : decode cX8_cold 22 = .ok (.aload_n 0, 1) := by decide +kernel
theorem dX8_cold_23 : decode cX8_cold 23 = .ok (.bipush 24, 2) := by decide +kernel
theorem dX8_cold_25 : decode cX8_cold 25 = .ok (.invokevirtual 310, 3) := by decide +kernel
theorem dX8_cold_28 : decode cX8_cold 28 = .ok (.ifCond .ne 7, 3) := by decide +kernel
theorem dX8_cold_31 : decode cX8_cold 31 = .ok (.iconst 1, 1) := by decide +kernel
theorem dX8_cold_32 : decode cX8_cold 32 = .ok (.goto 4, 3) := by decide +kernel
theorem dX8_cold_35 : decode cX8_cold 35 = .ok (.iconst 0, 1) := by decide +kernel
theorem dX8_cold_36 : decode cX8_cold 36 = .ok (.istore_n 2, 1) := by decide +kernel
theorem dX8_cold_37 : decode cX8_cold 37 = .ok (.aload_n 0, 1) := by decide +kernel
theorem dX8_cold_38 : decode cX8_cold 38 = .ok (.iconst 0, 1) := by decide +kernel
theorem dX8_cold_39 : decode cX8_cold 39 = .ok (.putfield 85, 3) := by decide +kernel
theorem dX8_cold_42 : decode cX8_cold 42 = .ok (.iload_n 2, 1) := by decide +kernel
theorem dX8_cold_43 : decode cX8_cold 43 = .ok (.ifCond .eq 7, 3) := by decide +kernel
theorem dX8_cold_46 : decode cX8_cold 46 = .ok (.iload_n 1, 1) := by decide +kernel
theorem dX8_cold_47 : decode cX8_cold 47 = .ok (.goto 6, 3) := by decide +kernel
theorem dX8_cold_50 : decode cX8_cold 50 = .ok (.iload_n 1, 1) := by decide +kernel
theorem dX8_cold_51 : decode cX8_cold 51 = .ok (.iconst 1, 1) := by decide +kernel
theorem dX8_cold_52 : decode cX8_cold 52 = .ok (.isub, 1) := by decide +kernel
theorem dX8_cold_53 : decode cX8_cold 53 = .ok (.istore_n 1, 1) := by decide +kernel
theorem dX8_cold_54 : decode cX8_cold 54 = .ok (.goto (-49), 3) := by decide +kernel
theorem dX8_cold_57 : decode cX8_cold 57 = .ok (.aload_n 0, 1) := by decide +kernel
theorem dX8_cold_58 : decode cX8_cold 58 = .ok (.iconst 0, 1) := by decide +kernel
theorem dX8_cold_59 : decode cX8_cold 59 = .ok (.putfield 225, 3) := by decide +kernel
theorem dX8_cold_62 : decode cX8_cold 62 = .ok (.iload_n 2, 1) := by decide +kernel
theorem dX8_cold_63 : decode cX8_cold 63 = .ok (.ifCond .eq 7, 3) := by decide +kernel
theorem dX8_cold_66 : decode cX8_cold 66 = .ok (.iload_n 1, 1) := by decide +kernel
theorem dX8_cold_67 : decode cX8_cold 67 = .ok (.goto 5, 3) := by decide +kernel
theorem dX8_cold_70 : decode cX8_cold 70 = .ok (.bipush (-3), 2) := by decide +kernel
theorem dX8_cold_72 : decode cX8_cold 72 = .ok (.ireturn, 1) := by decide +kernel
theorem dX8_highest_0 : decode cX8_highest 0 = .ok (.iload_n 1, 1) := by decide +kernel
theorem dX8_highest_1 : decode cX8_highest 1 = .ok (.invokestatic 286, 3) := by decide +kernel
theorem dX8_highest_4 : decode cX8_highest 4 = .ok (.ifCond .ne 5, 3) := by decide +kernel
theorem dX8_highest_7 : decode cX8_highest 7 = .ok (.iconst (-1), 1) := by decide +kernel
theorem dX8_highest_8 : decode cX8_highest 8 = .ok (.ireturn, 1) := by decide +kernel
theorem dX8_highest_9 : decode cX8_highest 9 = .ok (.aload_n 0, 1) := by decide +kernel
theorem dX8_highest_10 : decode cX8_highest 10 = .ok (.invokevirtual 292, 3) := by decide +kernel
theorem dX8_highest_13 : decode cX8_highest 13 = .ok (.aload_n 0, 1) := by decide +kernel
theorem dX8_highest_14 : decode cX8_highest 14 = .ok (.iload_n 1, 1) := by decide +kernel
theorem dX8_highest_15 : decode cX8_highest 15 = .ok (.invokevirtual 289, 3) := by decide +kernel
theorem dX8_highest_18 : decode cX8_highest 18 = .ok (.bipush (-3), 2) := by decide +kernel
theorem dX8_highest_20 : decode cX8_highest 20 = .ok (.istore_n 2, 1) := by decide +kernel
theorem dX8_highest_21 : decode cX8_highest 21 = .ok (.iconst 0, 1) := by decide +kernel
theorem dX8_highest_22 : decode cX8_highest 22 = .ok (.istore_n 3, 1) := by decide +kernel
theorem dX8_highest_23 : decode cX8_highest 23 = .ok (.iload_n 3, 1) := by decide +kernel
theorem dX8_highest_24 : decode cX8_highest 24 = .ok (.aload_n 0, 1) := by decide +kernel
theorem dX8_highest_25 : decode cX8_highest 25 = .ok (.getfield 82, 3) := by decide +kernel
theorem dX8_highest_28 : decode cX8_highest 28 = .ok (.if_icmp .ge 34, 3) := by decide +kernel
theorem dX8_highest_31 : decode cX8_highest 31 = .ok (.iload_n 2, 1) := by decide +kernel
theorem dX8_highest_32 : decode cX8_highest 32 = .ok (.ifCond .lt 18, 3) := by decide +kernel
theorem dX8_highest_35 : decode cX8_highest 35 = .ok (.aload_n 0, 1) := by decide +kernel
theorem dX8_highest_36 : decode cX8_highest 36 = .ok (.iload_n 3, 1) := by decide +kernel
theorem dX8_highest_37 : decode cX8_highest 37 = .ok (.iconst 2, 1) := by decide +kernel
theorem dX8_highest_38 : decode cX8_highest 38 = .ok (.invokevirtual 219, 3) := by decide +kernel
theorem dX8_highest_41 : decode cX8_highest 41 = .ok (.aload_n 0, 1) := by decide +kernel
theorem dX8_highest_42 : decode cX8_highest 42 = .ok (.iload_n 2, 1) := by decide +kernel
theorem dX8_highest_43 : decode cX8_highest 43 = .ok (.iconst 2, 1) := by decide +kernel
theorem dX8_highest_44 : decode cX8_highest 44 = .ok (.invokevirtual 219, 3) := by decide +kernel
theorem dX8_highest_47 : decode cX8_highest 47 = .ok (.if_icmp .le 7, 3) := by decide +kernel
theorem dX8_highest_50 : decode cX8_highest 50 = .ok (.iload_n 3, 1) := by decide +kernel
theorem dX8_highest_51 : decode cX8_highest 51 = .ok (.goto 4, 3) := by decide +kernel
theorem dX8_highest_54 : decode cX8_highest 54 = .ok (.iload_n 2, 1) := by decide +kernel
theorem dX8_highest_55 : decode cX8_highest 55 = .ok (.istore_n 2, 1) := by decide +kernel
theorem dX8_highest_56 : decode cX8_highest 56 = .ok (.iinc 3 1, 3) := by decide +kernel
theorem dX8_highest_59 : decode cX8_highest 59 = .ok (.goto (-36), 3) := by decide +kernel
theorem dX8_highest_62 : decode cX8_highest 62 = .ok (.aload_n 0, 1) := by decide +kernel
theorem dX8_highest_63 : decode cX8_highest 63 = .ok (.iconst 0, 1) := by decide +kernel
theorem dX8_highest_64 : decode cX8_highest 64 = .ok (.putfield 85, 3) := by decide +kernel
theorem dX8_highest_67 : decode cX8_highest 67 = .ok (.iload_n 2, 1) := by decide +kernel
theorem dX8_highest_68 : decode cX8_highest 68 = .ok (.ireturn, 1) := by decide +kernel
theorem dX8_seed_0 : decode cX8_seed 0 = .ok (.aload_n 0, 1) := by decide +kernel
theorem dX8_seed_1 : decode cX8_seed 1 = .ok (.getfield 26, 3) := by decide +kernel
theorem dX8_seed_4 : decode cX8_seed 4 = .ok (.istore_n 2, 1) := by decide +kernel
theorem dX8_seed_5 : decode cX8_seed 5 = .ok (.aload_n 0, 1) := by decide +kernel
theorem dX8_seed_6 : decode cX8_seed 6 = .ok (.iload_n 1, 1) := by decide +kernel
theorem dX8_seed_7 : decode cX8_seed 7 = .ok (.putfield 26, 3) := by decide +kernel
theorem dX8_seed_10 : decode cX8_seed 10 = .ok (.iload_n 2, 1) := by decide +kernel
theorem dX8_seed_11 : decode cX8_seed 11 = .ok (.ireturn, 1) := by decide +kernel
theorem dX8_draw_0 : decode cX8_draw 0 = .ok (.iload_n 1, 1) := by decide +kernel
theorem dX8_draw_1 : decode cX8_draw 1 = .ok (.invokestatic 205, 3) := by decide +kernel
theorem dX8_draw_4 : decode cX8_draw 4 = .ok (.ifCond .ne 5, 3) := by decide +kernel
theorem dX8_draw_7 : decode cX8_draw 7 = .ok (.iconst (-1), 1) := by decide +kernel
theorem dX8_draw_8 : decode cX8_draw 8 = .ok (.ireturn, 1) := by decide +kernel
theorem dX8_draw_9 : decode cX8_draw 9 = .ok (.aload_n 0, 1) := by decide +kernel
theorem dX8_draw_10 : decode cX8_draw 10 = .ok (.aload_n 0, 1) := by decide +kernel
theorem dX8_draw_11 : decode cX8_draw 11 = .ok (.getfield 26, 3) := by decide +kernel
theorem dX8_draw_14 : decode cX8_draw 14 = .ok (.ldc_w 313, 3) := by decide +kernel
theorem dX8_draw_17 : decode cX8_draw 17 = .ok (.imul, 1) := by decide +kernel
theorem dX8_draw_18 : decode cX8_draw 18 = .ok (.sipush 12345, 3) := by decide +kernel
theorem dX8_draw_21 : decode cX8_draw 21 = .ok (.iadd, 1) := by decide +kernel
theorem dX8_draw_22 : decode cX8_draw 22 = .ok (.putfield 26, 3) := by decide +kernel
theorem dX8_draw_25 : decode cX8_draw 25 = .ok (.aload_n 0, 1) := by decide +kernel
theorem dX8_draw_26 : decode cX8_draw 26 = .ok (.getfield 7, 3) := by decide +kernel
theorem dX8_draw_29 : decode cX8_draw 29 = .ok (.iload_n 1, 1) := by decide +kernel
theorem dX8_draw_30 : decode cX8_draw 30 = .ok (.aload_n 0, 1) := by decide +kernel
theorem dX8_draw_31 : decode cX8_draw 31 = .ok (.getfield 26, 3) := by decide +kernel
theorem dX8_draw_34 : decode cX8_draw 34 = .ok (.bipush 16, 2) := by decide +kernel
theorem dX8_draw_36 : decode cX8_draw 36 = .ok (.iushr, 1) := by decide +kernel
theorem dX8_draw_37 : decode cX8_draw 37 = .ok (.bipush 61, 2) := by decide +kernel
theorem dX8_draw_39 : decode cX8_draw 39 = .ok (.irem, 1) := by decide +kernel
theorem dX8_draw_40 : decode cX8_draw 40 = .ok (.bipush 20, 2) := by decide +kernel
theorem dX8_draw_42 : decode cX8_draw 42 = .ok (.isub, 1) := by decide +kernel
theorem dX8_draw_43 : decode cX8_draw 43 = .ok (.iastore, 1) := by decide +kernel
theorem dX8_draw_44 : decode cX8_draw 44 = .ok (.bipush 100, 2) := by decide +kernel
theorem dX8_draw_46 : decode cX8_draw 46 = .ok (.aload_n 0, 1) := by decide +kernel
theorem dX8_draw_47 : decode cX8_draw 47 = .ok (.getfield 7, 3) := by decide +kernel
theorem dX8_draw_50 : decode cX8_draw 50 = .ok (.iload_n 1, 1) := by decide +kernel
theorem dX8_draw_51 : decode cX8_draw 51 = .ok (.iaload, 1) := by decide +kernel
theorem dX8_draw_52 : decode cX8_draw 52 = .ok (.iadd, 1) := by decide +kernel
theorem dX8_draw_53 : decode cX8_draw 53 = .ok (.ireturn, 1) := by decide +kernel
theorem dX8_findRows_0 : decode cX8_findRows 0 = .ok (.aload_n 0, 1) := by decide +kernel
theorem dX8_findRows_1 : decode cX8_findRows 1 = .ok (.invokevirtual 292, 3) := by decide +kernel
theorem dX8_findRows_4 : decode cX8_findRows 4 = .ok (.aload_n 0, 1) := by decide +kernel
theorem dX8_findRows_5 : decode cX8_findRows 5 = .ok (.iconst 0, 1) := by decide +kernel
theorem dX8_findRows_6 : decode cX8_findRows 6 = .ok (.putfield 314, 3) := by decide +kernel
theorem dX8_findRows_9 : decode cX8_findRows 9 = .ok (.aload_n 0, 1) := by decide +kernel
theorem dX8_findRows_10 : decode cX8_findRows 10 = .ok (.getfield 314, 3) := by decide +kernel
theorem dX8_findRows_13 : decode cX8_findRows 13 = .ok (.iload_n 2, 1) := by decide +kernel
theorem dX8_findRows_14 : decode cX8_findRows 14 = .ok (.if_icmp .ge 80, 3) := by decide +kernel
theorem dX8_findRows_17 : decode cX8_findRows 17 = .ok (.aload_n 0, 1) := by decide +kernel
theorem dX8_findRows_18 : decode cX8_findRows 18 = .ok (.invokevirtual 282, 3) := by decide +kernel
theorem dX8_findRows_21 : decode cX8_findRows 21 = .ok (.ifCond .eq 73, 3) := by decide +kernel
theorem dX8_findRows_24 : decode cX8_findRows 24 = .ok (.aload_n 0, 1) := by decide +kernel
theorem dX8_findRows_25 : decode cX8_findRows 25 = .ok (.getfield 47, 3) := by decide +kernel
theorem dX8_findRows_28 : decode cX8_findRows 28 = .ok (.iconst 3, 1) := by decide +kernel
theorem dX8_findRows_29 : decode cX8_findRows 29 = .ok (.aload_n 0, 1) := by decide +kernel
theorem dX8_findRows_30 : decode cX8_findRows 30 = .ok (.getfield 314, 3) := by decide +kernel
theorem dX8_findRows_33 : decode cX8_findRows 33 = .ok (.imul, 1) := by decide +kernel
theorem dX8_findRows_34 : decode cX8_findRows 34 = .ok (.aload_n 0, 1) := by decide +kernel
theorem dX8_findRows_35 : decode cX8_findRows 35 = .ok (.iload_n 1, 1) := by decide +kernel
theorem dX8_findRows_36 : decode cX8_findRows 36 = .ok (.iconst 2, 1) := by decide +kernel
theorem dX8_findRows_37 : decode cX8_findRows 37 = .ok (.invokevirtual 219, 3) := by decide +kernel
theorem dX8_findRows_40 : decode cX8_findRows 40 = .ok (.iastore, 1) := by decide +kernel
theorem dX8_findRows_41 : decode cX8_findRows 41 = .ok (.aload_n 0, 1) := by decide +kernel
theorem dX8_findRows_42 : decode cX8_findRows 42 = .ok (.getfield 47, 3) := by decide +kernel
theorem dX8_findRows_45 : decode cX8_findRows 45 = .ok (.iconst 3, 1) := by decide +kernel
theorem dX8_findRows_46 : decode cX8_findRows 46 = .ok (.aload_n 0, 1) := by decide +kernel
theorem dX8_findRows_47 : decode cX8_findRows 47 = .ok (.getfield 314, 3) := by decide +kernel
theorem dX8_findRows_50 : decode cX8_findRows 50 = .ok (.imul, 1) := by decide +kernel
theorem dX8_findRows_51 : decode cX8_findRows 51 = .ok (.iconst 1, 1) := by decide +kernel
theorem dX8_findRows_52 : decode cX8_findRows 52 = .ok (.iadd, 1) := by decide +kernel
theorem dX8_findRows_53 : decode cX8_findRows 53 = .ok (.aload_n 0, 1) := by decide +kernel
theorem dX8_findRows_54 : decode cX8_findRows 54 = .ok (.iload_n 1, 1) := by decide +kernel
theorem dX8_findRows_55 : decode cX8_findRows 55 = .ok (.iconst 4, 1) := by decide +kernel
theorem dX8_findRows_56 : decode cX8_findRows 56 = .ok (.invokevirtual 219, 3) := by decide +kernel
theorem dX8_findRows_59 : decode cX8_findRows 59 = .ok (.iastore, 1) := by decide +kernel
theorem dX8_findRows_60 : decode cX8_findRows 60 = .ok (.aload_n 0, 1) := by decide +kernel
theorem dX8_findRows_61 : decode cX8_findRows 61 = .ok (.getfield 47, 3) := by decide +kernel
theorem dX8_findRows_64 : decode cX8_findRows 64 = .ok (.iconst 3, 1) := by decide +kernel
theorem dX8_findRows_65 : decode cX8_findRows 65 = .ok (.aload_n 0, 1) := by decide +kernel
theorem dX8_findRows_66 : decode cX8_findRows 66 = .ok (.getfield 314, 3) := by decide +kernel
theorem dX8_findRows_69 : decode cX8_findRows 69 = .ok (.imul, 1) := by decide +kernel
theorem dX8_findRows_70 : decode cX8_findRows 70 = .ok (.iconst 2, 1) := by decide +kernel
theorem dX8_findRows_71 : decode cX8_findRows 71 = .ok (.iadd, 1) := by decide +kernel
theorem dX8_findRows_72 : decode cX8_findRows 72 = .ok (.aload_n 0, 1) := by decide +kernel
theorem dX8_findRows_73 : decode cX8_findRows 73 = .ok (.iload_n 1, 1) := by decide +kernel
theorem dX8_findRows_74 : decode cX8_findRows 74 = .ok (.invokevirtual 270, 3) := by decide +kernel
theorem dX8_findRows_77 : decode cX8_findRows 77 = .ok (.invokestatic 273, 3) := by decide +kernel
theorem dX8_findRows_80 : decode cX8_findRows 80 = .ok (.iastore, 1) := by decide +kernel
theorem dX8_findRows_81 : decode cX8_findRows 81 = .ok (.aload_n 0, 1) := by decide +kernel
theorem dX8_findRows_82 : decode cX8_findRows 82 = .ok (.dup, 1) := by decide +kernel
theorem dX8_findRows_83 : decode cX8_findRows 83 = .ok (.getfield 314, 3) := by decide +kernel
theorem dX8_findRows_86 : decode cX8_findRows 86 = .ok (.iconst 1, 1) := by decide +kernel
theorem dX8_findRows_87 : decode cX8_findRows 87 = .ok (.iadd, 1) := by decide +kernel
theorem dX8_findRows_88 : decode cX8_findRows 88 = .ok (.putfield 314, 3) := by decide +kernel
theorem dX8_findRows_91 : decode cX8_findRows 91 = .ok (.goto (-82), 3) := by decide +kernel
theorem dX8_findRows_94 : decode cX8_findRows 94 = .ok (.aload_n 0, 1) := by decide +kernel
theorem dX8_findRows_95 : decode cX8_findRows 95 = .ok (.iconst 0, 1) := by decide +kernel
theorem dX8_findRows_96 : decode cX8_findRows 96 = .ok (.putfield 85, 3) := by decide +kernel
theorem dX8_findRows_99 : decode cX8_findRows 99 = .ok (.return_, 1) := by decide +kernel
theorem dX8_prove_0 : decode cX8_prove 0 = .ok (.aload_n 0, 1) := by decide +kernel
theorem dX8_prove_1 : decode cX8_prove 1 = .ok (.iload_n 1, 1) := by decide +kernel
theorem dX8_prove_2 : decode cX8_prove 2 = .ok (.invokevirtual 234, 3) := by decide +kernel
theorem dX8_prove_5 : decode cX8_prove 5 = .ok (.ifCond .eq 13, 3) := by decide +kernel
theorem dX8_prove_8 : decode cX8_prove 8 = .ok (.iload_n 2, 1) := by decide +kernel
theorem dX8_prove_9 : decode cX8_prove 9 = .ok (.iconst 1, 1) := by decide +kernel
theorem dX8_prove_10 : decode cX8_prove 10 = .ok (.bipush 20, 2) := by decide +kernel
theorem dX8_prove_12 : decode cX8_prove 12 = .ok (.invokestatic 78, 3) := by decide +kernel
theorem dX8_prove_15 : decode cX8_prove 15 = .ok (.ifCond .ne 5, 3) := by decide +kernel
theorem dX8_prove_18 : decode cX8_prove 18 = .ok (.iconst (-1), 1) := by decide +kernel
theorem dX8_prove_19 : decode cX8_prove 19 = .ok (.ireturn, 1) := by decide +kernel
theorem dX8_prove_20 : decode cX8_prove 20 = .ok (.aload_n 0, 1) := by decide +kernel
theorem dX8_prove_21 : decode cX8_prove 21 = .ok (.iload_n 1, 1) := by decide +kernel
theorem dX8_prove_22 : decode cX8_prove 22 = .ok (.iload_n 2, 1) := by decide +kernel
theorem dX8_prove_23 : decode cX8_prove 23 = .ok (.invokevirtual 317, 3) := by decide +kernel
theorem dX8_prove_26 : decode cX8_prove 26 = .ok (.aload_n 0, 1) := by decide +kernel
theorem dX8_prove_27 : decode cX8_prove 27 = .ok (.aload_n 0, 1) := by decide +kernel
theorem dX8_prove_28 : decode cX8_prove 28 = .ok (.getfield 314, 3) := by decide +kernel
theorem dX8_prove_31 : decode cX8_prove 31 = .ok (.putfield 202, 3) := by decide +kernel
theorem dX8_prove_34 : decode cX8_prove 34 = .ok (.iconst 0, 1) := by decide +kernel
theorem dX8_prove_35 : decode cX8_prove 35 = .ok (.istore_n 3, 1) := by decide +kernel
theorem dX8_prove_36 : decode cX8_prove 36 = .ok (.iload_n 3, 1) := by decide +kernel
theorem dX8_prove_37 : decode cX8_prove 37 = .ok (.iconst 3, 1) := by decide +kernel
theorem dX8_prove_38 : decode cX8_prove 38 = .ok (.aload_n 0, 1) := by decide +kernel
theorem dX8_prove_39 : decode cX8_prove 39 = .ok (.getfield 202, 3) := by decide +kernel
theorem dX8_prove_42 : decode cX8_prove 42 = .ok (.imul, 1) := by decide +kernel
theorem dX8_prove_43 : decode cX8_prove 43 = .ok (.if_icmp .ge 21, 3) := by decide +kernel
theorem dX8_prove_46 : decode cX8_prove 46 = .ok (.aload_n 0, 1) := by decide +kernel
theorem dX8_prove_47 : decode cX8_prove 47 = .ok (.getfield 44, 3) := by decide +kernel
theorem dX8_prove_50 : decode cX8_prove 50 = .ok (.iload_n 3, 1) := by decide +kernel
theorem dX8_prove_51 : decode cX8_prove 51 = .ok (.aload_n 0, 1) := by decide +kernel
theorem dX8_prove_52 : decode cX8_prove 52 = .ok (.getfield 47, 3) := by decide +kernel
theorem dX8_prove_55 : decode cX8_prove 55 = .ok (.iload_n 3, 1) := by decide +kernel
theorem dX8_prove_56 : decode cX8_prove 56 = .ok (.iaload, 1) := by decide +kernel
theorem dX8_prove_57 : decode cX8_prove 57 = .ok (.iastore, 1) := by decide +kernel
theorem dX8_prove_58 : decode cX8_prove 58 = .ok (.iinc 3 1, 3) := by decide +kernel
theorem dX8_prove_61 : decode cX8_prove 61 = .ok (.goto (-25), 3) := by decide +kernel
theorem dX8_prove_64 : decode cX8_prove 64 = .ok (.aload_n 0, 1) := by decide +kernel
theorem dX8_prove_65 : decode cX8_prove 65 = .ok (.getfield 202, 3) := by decide +kernel
theorem dX8_prove_68 : decode cX8_prove 68 = .ok (.ireturn, 1) := by decide +kernel
theorem dX8_isRow_0 : decode cX8_isRow 0 = .ok (.iload_n 1, 1) := by decide +kernel
theorem dX8_isRow_1 : decode cX8_isRow 1 = .ok (.iconst 0, 1) := by decide +kernel
theorem dX8_isRow_2 : decode cX8_isRow 2 = .ok (.aload_n 0, 1) := by decide +kernel
theorem dX8_isRow_3 : decode cX8_isRow 3 = .ok (.getfield 202, 3) := by decide +kernel
theorem dX8_isRow_6 : decode cX8_isRow 6 = .ok (.iconst 1, 1) := by decide +kernel
theorem dX8_isRow_7 : decode cX8_isRow 7 = .ok (.isub, 1) := by decide +kernel
theorem dX8_isRow_8 : decode cX8_isRow 8 = .ok (.invokestatic 78, 3) := by decide +kernel
theorem dX8_isRow_11 : decode cX8_isRow 11 = .ok (.ifCond .eq 16, 3) := by decide +kernel
theorem dX8_isRow_14 : decode cX8_isRow 14 = .ok (.iload_n 2, 1) := by decide +kernel
theorem dX8_isRow_15 : decode cX8_isRow 15 = .ok (.iconst 0, 1) := by decide +kernel
theorem dX8_isRow_16 : decode cX8_isRow 16 = .ok (.iconst 2, 1) := by decide +kernel
theorem dX8_isRow_17 : decode cX8_isRow 17 = .ok (.invokestatic 78, 3) := by decide +kernel
theorem dX8_isRow_20 : decode cX8_isRow 20 = .ok (.ifCond .eq 7, 3) := by decide +kernel
theorem dX8_isRow_23 : decode cX8_isRow 23 = .ok (.iconst 1, 1) := by decide +kernel
theorem dX8_isRow_24 : decode cX8_isRow 24 = .ok (.goto 4, 3) := by decide +kernel
theorem dX8_isRow_27 : decode cX8_isRow 27 = .ok (.iconst 0, 1) := by decide +kernel
theorem dX8_isRow_28 : decode cX8_isRow 28 = .ok (.ireturn, 1) := by decide +kernel
theorem dX8_row_0 : decode cX8_row 0 = .ok (.aload_n 0, 1) := by decide +kernel
theorem dX8_row_1 : decode cX8_row 1 = .ok (.iload_n 1, 1) := by decide +kernel
theorem dX8_row_2 : decode cX8_row 2 = .ok (.iload_n 2, 1) := by decide +kernel
theorem dX8_row_3 : decode cX8_row 3 = .ok (.invokevirtual 321, 3) := by decide +kernel
theorem dX8_row_6 : decode cX8_row 6 = .ok (.ifCond .eq 16, 3) := by decide +kernel
theorem dX8_row_9 : decode cX8_row 9 = .ok (.aload_n 0, 1) := by decide +kernel
theorem dX8_row_10 : decode cX8_row 10 = .ok (.getfield 44, 3) := by decide +kernel
theorem dX8_row_13 : decode cX8_row 13 = .ok (.iconst 3, 1) := by decide +kernel
theorem dX8_row_14 : decode cX8_row 14 = .ok (.iload_n 1, 1) := by decide +kernel
theorem dX8_row_15 : decode cX8_row 15 = .ok (.imul, 1) := by decide +kernel
theorem dX8_row_16 : decode cX8_row 16 = .ok (.iload_n 2, 1) := by decide +kernel
theorem dX8_row_17 : decode cX8_row 17 = .ok (.iadd, 1) := by decide +kernel
theorem dX8_row_18 : decode cX8_row 18 = .ok (.iaload, 1) := by decide +kernel
theorem dX8_row_19 : decode cX8_row 19 = .ok (.goto 5, 3) := by decide +kernel
theorem dX8_row_22 : decode cX8_row 22 = .ok (.bipush (-9), 2) := by decide +kernel
theorem dX8_row_24 : decode cX8_row 24 = .ok (.ireturn, 1) := by decide +kernel
theorem dX8_alterRow_0 : decode cX8_alterRow 0 = .ok (.aload_n 0, 1) := by decide +kernel
theorem dX8_alterRow_1 : decode cX8_alterRow 1 = .ok (.iload_n 1, 1) := by decide +kernel
theorem dX8_alterRow_2 : decode cX8_alterRow 2 = .ok (.iload_n 2, 1) := by decide +kernel
theorem dX8_alterRow_3 : decode cX8_alterRow 3 = .ok (.invokevirtual 321, 3) := by decide +kernel
theorem dX8_alterRow_6 : decode cX8_alterRow 6 = .ok (.ifCond .ne 6, 3) := by decide +kernel
theorem dX8_alterRow_9 : decode cX8_alterRow 9 = .ok (.bipush (-9), 2) := by decide +kernel
theorem dX8_alterRow_11 : decode cX8_alterRow 11 = .ok (.ireturn, 1) := by decide +kernel
theorem dX8_alterRow_12 : decode cX8_alterRow 12 = .ok (.aload_n 0, 1) := by decide +kernel
theorem dX8_alterRow_13 : decode cX8_alterRow 13 = .ok (.getfield 44, 3) := by decide +kernel
theorem dX8_alterRow_16 : decode cX8_alterRow 16 = .ok (.iconst 3, 1) := by decide +kernel
theorem dX8_alterRow_17 : decode cX8_alterRow 17 = .ok (.iload_n 1, 1) := by decide +kernel
theorem dX8_alterRow_18 : decode cX8_alterRow 18 = .ok (.imul, 1) := by decide +kernel
theorem dX8_alterRow_19 : decode cX8_alterRow 19 = .ok (.iload_n 2, 1) := by decide +kernel
theorem dX8_alterRow_20 : decode cX8_alterRow 20 = .ok (.iadd, 1) := by decide +kernel
theorem dX8_alterRow_21 : decode cX8_alterRow 21 = .ok (.iaload, 1) := by decide +kernel
theorem dX8_alterRow_22 : decode cX8_alterRow 22 = .ok (.istore 4, 2) := by decide +kernel
theorem dX8_alterRow_24 : decode cX8_alterRow 24 = .ok (.aload_n 0, 1) := by decide +kernel
theorem dX8_alterRow_25 : decode cX8_alterRow 25 = .ok (.getfield 44, 3) := by decide +kernel
theorem dX8_alterRow_28 : decode cX8_alterRow 28 = .ok (.iconst 3, 1) := by decide +kernel
theorem dX8_alterRow_29 : decode cX8_alterRow 29 = .ok (.iload_n 1, 1) := by decide +kernel
theorem dX8_alterRow_30 : decode cX8_alterRow 30 = .ok (.imul, 1) := by decide +kernel
theorem dX8_alterRow_31 : decode cX8_alterRow 31 = .ok (.iload_n 2, 1) := by decide +kernel
theorem dX8_alterRow_32 : decode cX8_alterRow 32 = .ok (.iadd, 1) := by decide +kernel
theorem dX8_alterRow_33 : decode cX8_alterRow 33 = .ok (.iload_n 3, 1) := by decide +kernel
theorem dX8_alterRow_34 : decode cX8_alterRow 34 = .ok (.iastore, 1) := by decide +kernel
theorem dX8_alterRow_35 : decode cX8_alterRow 35 = .ok (.iload 4, 2) := by decide +kernel
theorem dX8_alterRow_37 : decode cX8_alterRow 37 = .ok (.ireturn, 1) := by decide +kernel
theorem dX8_judge_0 : decode cX8_judge 0 = .ok (.aload_n 0, 1) := by decide +kernel
theorem dX8_judge_1 : decode cX8_judge 1 = .ok (.iload_n 1, 1) := by decide +kernel
theorem dX8_judge_2 : decode cX8_judge 2 = .ok (.invokevirtual 234, 3) := by decide +kernel
theorem dX8_judge_5 : decode cX8_judge 5 = .ok (.ifCond .ne 5, 3) := by decide +kernel
theorem dX8_judge_8 : decode cX8_judge 8 = .ok (.iconst (-1), 1) := by decide +kernel
theorem dX8_judge_9 : decode cX8_judge 9 = .ok (.ireturn, 1) := by decide +kernel
theorem dX8_judge_10 : decode cX8_judge 10 = .ok (.aload_n 0, 1) := by decide +kernel
theorem dX8_judge_11 : decode cX8_judge 11 = .ok (.iload_n 1, 1) := by decide +kernel
theorem dX8_judge_12 : decode cX8_judge 12 = .ok (.aload_n 0, 1) := by decide +kernel
theorem dX8_judge_13 : decode cX8_judge 13 = .ok (.getfield 202, 3) := by decide +kernel
theorem dX8_judge_16 : decode cX8_judge 16 = .ok (.invokevirtual 317, 3) := by decide +kernel
theorem dX8_judge_19 : decode cX8_judge 19 = .ok (.iconst 0, 1) := by decide +kernel
theorem dX8_judge_20 : decode cX8_judge 20 = .ok (.istore_n 2, 1) := by decide +kernel
theorem dX8_judge_21 : decode cX8_judge 21 = .ok (.iload_n 2, 1) := by decide +kernel
theorem dX8_judge_22 : decode cX8_judge 22 = .ok (.aload_n 0, 1) := by decide +kernel
theorem dX8_judge_23 : decode cX8_judge 23 = .ok (.getfield 202, 3) := by decide +kernel
theorem dX8_judge_26 : decode cX8_judge 26 = .ok (.if_icmp .ge 81, 3) := by decide +kernel
theorem dX8_judge_29 : decode cX8_judge 29 = .ok (.iload_n 2, 1) := by decide +kernel
theorem dX8_judge_30 : decode cX8_judge 30 = .ok (.aload_n 0, 1) := by decide +kernel
theorem dX8_judge_31 : decode cX8_judge 31 = .ok (.getfield 314, 3) := by decide +kernel
theorem dX8_judge_34 : decode cX8_judge 34 = .ok (.if_icmp .ge 7, 3) := by decide +kernel
theorem dX8_judge_37 : decode cX8_judge 37 = .ok (.iconst 1, 1) := by decide +kernel
theorem dX8_judge_38 : decode cX8_judge 38 = .ok (.goto 4, 3) := by decide +kernel
theorem dX8_judge_41 : decode cX8_judge 41 = .ok (.iconst 0, 1) := by decide +kernel
theorem dX8_judge_42 : decode cX8_judge 42 = .ok (.istore_n 3, 1) := by decide +kernel
theorem dX8_judge_43 : decode cX8_judge 43 = .ok (.iconst 0, 1) := by decide +kernel
theorem dX8_judge_44 : decode cX8_judge 44 = .ok (.istore 4, 2) := by decide +kernel
theorem dX8_judge_46 : decode cX8_judge 46 = .ok (.iload 4, 2) := by decide +kernel
theorem dX8_judge_48 : decode cX8_judge 48 = .ok (.iconst 3, 1) := by decide +kernel
theorem dX8_judge_49 : decode cX8_judge 49 = .ok (.if_icmp .ge 44, 3) := by decide +kernel
theorem dX8_judge_52 : decode cX8_judge 52 = .ok (.iload_n 3, 1) := by decide +kernel
theorem dX8_judge_53 : decode cX8_judge 53 = .ok (.ifCond .eq 40, 3) := by decide +kernel
theorem dX8_judge_56 : decode cX8_judge 56 = .ok (.aload_n 0, 1) := by decide +kernel
theorem dX8_judge_57 : decode cX8_judge 57 = .ok (.getfield 44, 3) := by decide +kernel
theorem dX8_judge_60 : decode cX8_judge 60 = .ok (.iconst 3, 1) := by decide +kernel
theorem dX8_judge_61 : decode cX8_judge 61 = .ok (.iload_n 2, 1) := by decide +kernel
theorem dX8_judge_62 : decode cX8_judge 62 = .ok (.imul, 1) := by decide +kernel
theorem dX8_judge_63 : decode cX8_judge 63 = .ok (.iload 4, 2) := by decide +kernel
theorem dX8_judge_65 : decode cX8_judge 65 = .ok (.iadd, 1) := by decide +kernel
theorem dX8_judge_66 : decode cX8_judge 66 = .ok (.iaload, 1) := by decide +kernel
theorem dX8_judge_67 : decode cX8_judge 67 = .ok (.aload_n 0, 1) := by decide +kernel
theorem dX8_judge_68 : decode cX8_judge 68 = .ok (.getfield 47, 3) := by decide +kernel
theorem dX8_judge_71 : decode cX8_judge 71 = .ok (.iconst 3, 1) := by decide +kernel
theorem dX8_judge_72 : decode cX8_judge 72 = .ok (.iload_n 2, 1) := by decide +kernel
theorem dX8_judge_73 : decode cX8_judge 73 = .ok (.imul, 1) := by decide +kernel
theorem dX8_judge_74 : decode cX8_judge 74 = .ok (.iload 4, 2) := by decide +kernel
theorem dX8_judge_76 : decode cX8_judge 76 = .ok (.iadd, 1) := by decide +kernel
theorem dX8_judge_77 : decode cX8_judge 77 = .ok (.iaload, 1) := by decide +kernel
theorem dX8_judge_78 : decode cX8_judge 78 = .ok (.if_icmp .ne 7, 3) := by decide +kernel
theorem dX8_judge_81 : decode cX8_judge 81 = .ok (.iconst 1, 1) := by decide +kernel
theorem dX8_judge_82 : decode cX8_judge 82 = .ok (.goto 4, 3) := by decide +kernel
theorem dX8_judge_85 : decode cX8_judge 85 = .ok (.iconst 0, 1) := by decide +kernel
theorem dX8_judge_86 : decode cX8_judge 86 = .ok (.istore_n 3, 1) := by decide +kernel
theorem dX8_judge_87 : decode cX8_judge 87 = .ok (.iinc 4 1, 3) := by decide +kernel
theorem dX8_judge_90 : decode cX8_judge 90 = .ok (.goto (-44), 3) := by decide +kernel
theorem dX8_judge_93 : decode cX8_judge 93 = .ok (.iload_n 3, 1) := by decide +kernel
theorem dX8_judge_94 : decode cX8_judge 94 = .ok (.ifCond .ne 7, 3) := by decide +kernel
theorem dX8_judge_97 : decode cX8_judge 97 = .ok (.iload_n 2, 1) := by decide +kernel
theorem dX8_judge_98 : decode cX8_judge 98 = .ok (.iconst 1, 1) := by decide +kernel
theorem dX8_judge_99 : decode cX8_judge 99 = .ok (.iadd, 1) := by decide +kernel
theorem dX8_judge_100 : decode cX8_judge 100 = .ok (.ireturn, 1) := by decide +kernel
theorem dX8_judge_101 : decode cX8_judge 101 = .ok (.iinc 2 1, 3) := by decide +kernel
theorem dX8_judge_104 : decode cX8_judge 104 = .ok (.goto (-83), 3) := by decide +kernel
theorem dX8_judge_107 : decode cX8_judge 107 = .ok (.iconst 0, 1) := by decide +kernel
theorem dX8_judge_108 : decode cX8_judge 108 = .ok (.ireturn, 1) := by decide +kernel
theorem dX8_warms_0 : decode cX8_warms 0 = .ok (.iload_n 1, 1) := by decide +kernel
theorem dX8_warms_1 : decode cX8_warms 1 = .ok (.invokestatic 324, 3) := by decide +kernel
theorem dX8_warms_4 : decode cX8_warms 4 = .ok (.ifCond .eq 30, 3) := by decide +kernel
theorem dX8_warms_7 : decode cX8_warms 7 = .ok (.iload_n 3, 1) := by decide +kernel
theorem dX8_warms_8 : decode cX8_warms 8 = .ok (.invokestatic 205, 3) := by decide +kernel
theorem dX8_warms_11 : decode cX8_warms 11 = .ok (.ifCond .eq 23, 3) := by decide +kernel
theorem dX8_warms_14 : decode cX8_warms 14 = .ok (.iload 4, 2) := by decide +kernel
theorem dX8_warms_16 : decode cX8_warms 16 = .ok (.iconst 0, 1) := by decide +kernel
theorem dX8_warms_17 : decode cX8_warms 17 = .ok (.bipush 24, 2) := by decide +kernel
theorem dX8_warms_19 : decode cX8_warms 19 = .ok (.invokestatic 78, 3) := by decide +kernel
theorem dX8_warms_22 : decode cX8_warms 22 = .ok (.ifCond .eq 12, 3) := by decide +kernel
theorem dX8_warms_25 : decode cX8_warms 25 = .ok (.iload_n 3, 1) := by decide +kernel
theorem dX8_warms_26 : decode cX8_warms 26 = .ok (.iload 4, 2) := by decide +kernel
theorem dX8_warms_28 : decode cX8_warms 28 = .ok (.iadd, 1) := by decide +kernel
theorem dX8_warms_29 : decode cX8_warms 29 = .ok (.bipush 24, 2) := by decide +kernel
theorem dX8_warms_31 : decode cX8_warms 31 = .ok (.if_icmp .le 5, 3) := by decide +kernel
theorem dX8_warms_34 : decode cX8_warms 34 = .ok (.iconst (-1), 1) := by decide +kernel
theorem dX8_warms_35 : decode cX8_warms 35 = .ok (.ireturn, 1) := by decide +kernel
theorem dX8_warms_36 : decode cX8_warms 36 = .ok (.aload_n 0, 1) := by decide +kernel
theorem dX8_warms_37 : decode cX8_warms 37 = .ok (.iload_n 1, 1) := by decide +kernel
theorem dX8_warms_38 : decode cX8_warms 38 = .ok (.iconst 0, 1) := by decide +kernel
theorem dX8_warms_39 : decode cX8_warms 39 = .ok (.invokevirtual 327, 3) := by decide +kernel
theorem dX8_warms_42 : decode cX8_warms 42 = .ok (.istore 5, 2) := by decide +kernel
theorem dX8_warms_44 : decode cX8_warms 44 = .ok (.iload 5, 2) := by decide +kernel
theorem dX8_warms_46 : decode cX8_warms 46 = .ok (.ifCond .eq 6, 3) := by decide +kernel
theorem dX8_warms_49 : decode cX8_warms 49 = .ok (.iload 5, 2) := by decide +kernel
theorem dX8_warms_51 : decode cX8_warms 51 = .ok (.ireturn, 1) := by decide +kernel
theorem dX8_warms_52 : decode cX8_warms 52 = .ok (.iload_n 2, 1) := by decide +kernel
theorem dX8_warms_53 : decode cX8_warms 53 = .ok (.ifCond .lt 16, 3) := by decide +kernel
theorem dX8_warms_56 : decode cX8_warms 56 = .ok (.iload_n 2, 1) := by decide +kernel
theorem dX8_warms_57 : decode cX8_warms 57 = .ok (.aload_n 0, 1) := by decide +kernel
theorem dX8_warms_58 : decode cX8_warms 58 = .ok (.getfield 53, 3) := by decide +kernel
theorem dX8_warms_61 : decode cX8_warms 61 = .ok (.iload_n 1, 1) := by decide +kernel
theorem dX8_warms_62 : decode cX8_warms 62 = .ok (.iaload, 1) := by decide +kernel
theorem dX8_warms_63 : decode cX8_warms 63 = .ok (.iload 4, 2) := by decide +kernel
theorem dX8_warms_65 : decode cX8_warms 65 = .ok (.isub, 1) := by decide +kernel
theorem dX8_warms_66 : decode cX8_warms 66 = .ok (.if_icmp .le 6, 3) := by decide +kernel
theorem dX8_warms_69 : decode cX8_warms 69 = .ok (.bipush (-12), 2) := by decide +kernel
theorem dX8_warms_71 : decode cX8_warms 71 = .ok (.ireturn, 1) := by decide +kernel
theorem dX8_warms_72 : decode cX8_warms 72 = .ok (.iconst 0, 1) := by decide +kernel
theorem dX8_warms_73 : decode cX8_warms 73 = .ok (.istore 6, 2) := by decide +kernel
theorem dX8_warms_75 : decode cX8_warms 75 = .ok (.iload 6, 2) := by decide +kernel
theorem dX8_warms_77 : decode cX8_warms 77 = .ok (.iload 4, 2) := by decide +kernel
theorem dX8_warms_79 : decode cX8_warms 79 = .ok (.if_icmp .ge 65, 3) := by decide +kernel
theorem dX8_warms_82 : decode cX8_warms 82 = .ok (.aload_n 0, 1) := by decide +kernel
theorem dX8_warms_83 : decode cX8_warms 83 = .ok (.getfield 56, 3) := by decide +kernel
theorem dX8_warms_86 : decode cX8_warms 86 = .ok (.bipush 40, 2) := by decide +kernel
theorem dX8_warms_88 : decode cX8_warms 88 = .ok (.iload_n 1, 1) := by decide +kernel
theorem dX8_warms_89 : decode cX8_warms 89 = .ok (.imul, 1) := by decide +kernel
theorem dX8_warms_90 : decode cX8_warms 90 = .ok (.iload_n 2, 1) := by decide +kernel
theorem dX8_warms_91 : decode cX8_warms 91 = .ok (.iadd, 1) := by decide +kernel
theorem dX8_warms_92 : decode cX8_warms 92 = .ok (.iload 6, 2) := by decide +kernel
theorem dX8_warms_94 : decode cX8_warms 94 = .ok (.iadd, 1) := by decide +kernel
theorem dX8_warms_95 : decode cX8_warms 95 = .ok (.laload, 1) := by decide +kernel
theorem dX8_warms_96 : decode cX8_warms 96 = .ok (.lstore 7, 2) := by decide +kernel
theorem dX8_warms_98 : decode cX8_warms 98 = .ok (.aload_n 0, 1) := by decide +kernel
theorem dX8_warms_99 : decode cX8_warms 99 = .ok (.getfield 7, 3) := by decide +kernel
theorem dX8_warms_102 : decode cX8_warms 102 = .ok (.iload_n 3, 1) := by decide +kernel
theorem dX8_warms_103 : decode cX8_warms 103 = .ok (.iload 6, 2) := by decide +kernel
theorem dX8_warms_105 : decode cX8_warms 105 = .ok (.iadd, 1) := by decide +kernel
theorem dX8_warms_106 : decode cX8_warms 106 = .ok (.lload 7, 2) := by decide +kernel
theorem dX8_warms_108 : decode cX8_warms 108 = .ok (.ldc2_w 330, 3) := by decide +kernel
theorem dX8_warms_111 : decode cX8_warms 111 = .ok (.lcmp, 1) := by decide +kernel
theorem dX8_warms_112 : decode cX8_warms 112 = .ok (.ifCond .ge 8, 3) := by decide +kernel
theorem dX8_warms_115 : decode cX8_warms 115 = .ok (.bipush (-20), 2) := by decide +kernel
theorem dX8_warms_117 : decode cX8_warms 117 = .ok (.goto 20, 3) := by decide +kernel
theorem dX8_warms_120 : decode cX8_warms 120 = .ok (.lload 7, 2) := by decide +kernel
theorem dX8_warms_122 : decode cX8_warms 122 = .ok (.ldc2_w 332, 3) := by decide +kernel
theorem dX8_warms_125 : decode cX8_warms 125 = .ok (.lcmp, 1) := by decide +kernel
theorem dX8_warms_126 : decode cX8_warms 126 = .ok (.ifCond .le 8, 3) := by decide +kernel
theorem dX8_warms_129 : decode cX8_warms 129 = .ok (.bipush 40, 2) := by decide +kernel
theorem dX8_warms_131 : decode cX8_warms 131 = .ok (.goto 6, 3) := by decide +kernel
theorem dX8_warms_134 : decode cX8_warms 134 = .ok (.lload 7, 2) := by decide +kernel
theorem dX8_warms_136 : decode cX8_warms 136 = .ok (.l2i, 1) := by decide +kernel
theorem dX8_warms_137 : decode cX8_warms 137 = .ok (.iastore, 1) := by decide +kernel
theorem dX8_warms_138 : decode cX8_warms 138 = .ok (.iinc 6 1, 3) := by decide +kernel
theorem dX8_warms_141 : decode cX8_warms 141 = .ok (.goto (-66), 3) := by decide +kernel
theorem dX8_warms_144 : decode cX8_warms 144 = .ok (.iload 4, 2) := by decide +kernel
theorem dX8_warms_146 : decode cX8_warms 146 = .ok (.ireturn, 1) := by decide +kernel
theorem dX8_isShelf_0 : decode cX8_isShelf 0 = .ok (.iload_n 0, 1) := by decide +kernel
theorem dX8_isShelf_1 : decode cX8_isShelf 1 = .ok (.iconst 0, 1) := by decide +kernel
theorem dX8_isShelf_2 : decode cX8_isShelf 2 = .ok (.iconst 3, 1) := by decide +kernel
theorem dX8_isShelf_3 : decode cX8_isShelf 3 = .ok (.invokestatic 78, 3) := by decide +kernel
theorem dX8_isShelf_6 : decode cX8_isShelf 6 = .ok (.ireturn, 1) := by decide +kernel
theorem dX8_sheet_0 : decode cX8_sheet 0 = .ok (.iload_n 1, 1) := by decide +kernel
theorem dX8_sheet_1 : decode cX8_sheet 1 = .ok (.invokestatic 324, 3) := by decide +kernel
theorem dX8_sheet_4 : decode cX8_sheet 4 = .ok (.ifCond .eq 22, 3) := by decide +kernel
theorem dX8_sheet_7 : decode cX8_sheet 7 = .ok (.iload_n 2, 1) := by decide +kernel
theorem dX8_sheet_8 : decode cX8_sheet 8 = .ok (.iconst (-1), 1) := by decide +kernel
theorem dX8_sheet_9 : decode cX8_sheet 9 = .ok (.iconst 3, 1) := by decide +kernel
theorem dX8_sheet_10 : decode cX8_sheet 10 = .ok (.invokestatic 78, 3) := by decide +kernel
theorem dX8_sheet_13 : decode cX8_sheet 13 = .ok (.ifCond .eq 13, 3) := by decide +kernel
theorem dX8_sheet_16 : decode cX8_sheet 16 = .ok (.iload_n 2, 1) := by decide +kernel
theorem dX8_sheet_17 : decode cX8_sheet 17 = .ok (.ifCond .lt 11, 3) := by decide +kernel
theorem dX8_sheet_20 : decode cX8_sheet 20 = .ok (.iload_n 3, 1) := by decide +kernel
theorem dX8_sheet_21 : decode cX8_sheet 21 = .ok (.bipush 40, 2) := by decide +kernel
theorem dX8_sheet_23 : decode cX8_sheet 23 = .ok (.if_icmp .le 5, 3) := by decide +kernel
theorem dX8_sheet_26 : decode cX8_sheet 26 = .ok (.iconst (-1), 1) := by decide +kernel
theorem dX8_sheet_27 : decode cX8_sheet 27 = .ok (.ireturn, 1) := by decide +kernel
theorem dX8_sheet_28 : decode cX8_sheet 28 = .ok (.iload_n 2, 1) := by decide +kernel
theorem dX8_sheet_29 : decode cX8_sheet 29 = .ok (.ifCond .lt 10, 3) := by decide +kernel
theorem dX8_sheet_32 : decode cX8_sheet 32 = .ok (.iload_n 3, 1) := by decide +kernel
theorem dX8_sheet_33 : decode cX8_sheet 33 = .ok (.ifCond .ge 6, 3) := by decide +kernel
theorem dX8_sheet_36 : decode cX8_sheet 36 = .ok (.bipush (-14), 2) := by decide +kernel
theorem dX8_sheet_38 : decode cX8_sheet 38 = .ok (.ireturn, 1) := by decide +kernel
theorem dX8_sheet_39 : decode cX8_sheet 39 = .ok (.aload_n 0, 1) := by decide +kernel
theorem dX8_sheet_40 : decode cX8_sheet 40 = .ok (.getfield 50, 3) := by decide +kernel
theorem dX8_sheet_43 : decode cX8_sheet 43 = .ok (.iload_n 1, 1) := by decide +kernel
theorem dX8_sheet_44 : decode cX8_sheet 44 = .ok (.iload_n 2, 1) := by decide +kernel
theorem dX8_sheet_45 : decode cX8_sheet 45 = .ok (.iastore, 1) := by decide +kernel
theorem dX8_sheet_46 : decode cX8_sheet 46 = .ok (.aload_n 0, 1) := by decide +kernel
theorem dX8_sheet_47 : decode cX8_sheet 47 = .ok (.getfield 53, 3) := by decide +kernel
theorem dX8_sheet_50 : decode cX8_sheet 50 = .ok (.iload_n 1, 1) := by decide +kernel
theorem dX8_sheet_51 : decode cX8_sheet 51 = .ok (.iload_n 2, 1) := by decide +kernel
theorem dX8_sheet_52 : decode cX8_sheet 52 = .ok (.ifCond .ge 7, 3) := by decide +kernel
theorem dX8_sheet_55 : decode cX8_sheet 55 = .ok (.iconst 0, 1) := by decide +kernel
theorem dX8_sheet_56 : decode cX8_sheet 56 = .ok (.goto 4, 3) := by decide +kernel
theorem dX8_sheet_59 : decode cX8_sheet 59 = .ok (.iload_n 3, 1) := by decide +kernel
theorem dX8_sheet_60 : decode cX8_sheet 60 = .ok (.iastore, 1) := by decide +kernel
theorem dX8_sheet_61 : decode cX8_sheet 61 = .ok (.iconst 0, 1) := by decide +kernel
theorem dX8_sheet_62 : decode cX8_sheet 62 = .ok (.istore 4, 2) := by decide +kernel
theorem dX8_sheet_64 : decode cX8_sheet 64 = .ok (.iload 4, 2) := by decide +kernel
theorem dX8_sheet_66 : decode cX8_sheet 66 = .ok (.bipush 40, 2) := by decide +kernel
theorem dX8_sheet_68 : decode cX8_sheet 68 = .ok (.if_icmp .ge 22, 3) := by decide +kernel
theorem dX8_sheet_71 : decode cX8_sheet 71 = .ok (.aload_n 0, 1) := by decide +kernel
theorem dX8_sheet_72 : decode cX8_sheet 72 = .ok (.getfield 56, 3) := by decide +kernel
theorem dX8_sheet_75 : decode cX8_sheet 75 = .ok (.bipush 40, 2) := by decide +kernel
theorem dX8_sheet_77 : decode cX8_sheet 77 = .ok (.iload_n 1, 1) := by decide +kernel
theorem dX8_sheet_78 : decode cX8_sheet 78 = .ok (.imul, 1) := by decide +kernel
theorem dX8_sheet_79 : decode cX8_sheet 79 = .ok (.iload 4, 2) := by decide +kernel
theorem dX8_sheet_81 : decode cX8_sheet 81 = .ok (.iadd, 1) := by decide +kernel
theorem dX8_sheet_82 : decode cX8_sheet 82 = .ok (.lconst 0, 1) := by decide +kernel
theorem dX8_sheet_83 : decode cX8_sheet 83 = .ok (.lastore, 1) := by decide +kernel
theorem dX8_sheet_84 : decode cX8_sheet 84 = .ok (.iinc 4 1, 3) := by decide +kernel
theorem dX8_sheet_87 : decode cX8_sheet 87 = .ok (.goto (-23), 3) := by decide +kernel
end
section
theorem dX8_sheet_90 : decode cX8_sheet 90 = .ok (.iconst 1, 1) := by decide +kernel
theorem dX8_sheet_91 : decode cX8_sheet 91 = .ok (.ireturn, 1) := by decide +kernel
theorem dX8_put_0 : decode cX8_put 0 = .ok (.iload_n 1, 1) := by decide +kernel
theorem dX8_put_1 : decode cX8_put 1 = .ok (.invokestatic 324, 3) := by decide +kernel
theorem dX8_put_4 : decode cX8_put 4 = .ok (.ifCond .ne 5, 3) := by decide +kernel
theorem dX8_put_7 : decode cX8_put 7 = .ok (.iconst (-1), 1) := by decide +kernel
theorem dX8_put_8 : decode cX8_put 8 = .ok (.ireturn, 1) := by decide +kernel
theorem dX8_put_9 : decode cX8_put 9 = .ok (.aload_n 0, 1) := by decide +kernel
theorem dX8_put_10 : decode cX8_put 10 = .ok (.getfield 50, 3) := by decide +kernel
theorem dX8_put_13 : decode cX8_put 13 = .ok (.iload_n 1, 1) := by decide +kernel
theorem dX8_put_14 : decode cX8_put 14 = .ok (.iaload, 1) := by decide +kernel
theorem dX8_put_15 : decode cX8_put 15 = .ok (.ifCond .ge 6, 3) := by decide +kernel
theorem dX8_put_18 : decode cX8_put 18 = .ok (.bipush (-11), 2) := by decide +kernel
theorem dX8_put_20 : decode cX8_put 20 = .ok (.ireturn, 1) := by decide +kernel
theorem dX8_put_21 : decode cX8_put 21 = .ok (.iload_n 2, 1) := by decide +kernel
theorem dX8_put_22 : decode cX8_put 22 = .ok (.iconst 0, 1) := by decide +kernel
theorem dX8_put_23 : decode cX8_put 23 = .ok (.aload_n 0, 1) := by decide +kernel
theorem dX8_put_24 : decode cX8_put 24 = .ok (.getfield 53, 3) := by decide +kernel
theorem dX8_put_27 : decode cX8_put 27 = .ok (.iload_n 1, 1) := by decide +kernel
theorem dX8_put_28 : decode cX8_put 28 = .ok (.iaload, 1) := by decide +kernel
theorem dX8_put_29 : decode cX8_put 29 = .ok (.iconst 1, 1) := by decide +kernel
theorem dX8_put_30 : decode cX8_put 30 = .ok (.isub, 1) := by decide +kernel
theorem dX8_put_31 : decode cX8_put 31 = .ok (.invokestatic 78, 3) := by decide +kernel
theorem dX8_put_34 : decode cX8_put 34 = .ok (.ifCond .ne 6, 3) := by decide +kernel
theorem dX8_put_37 : decode cX8_put 37 = .ok (.bipush (-12), 2) := by decide +kernel
theorem dX8_put_39 : decode cX8_put 39 = .ok (.ireturn, 1) := by decide +kernel
theorem dX8_put_40 : decode cX8_put 40 = .ok (.aload_n 0, 1) := by decide +kernel
theorem dX8_put_41 : decode cX8_put 41 = .ok (.getfield 56, 3) := by decide +kernel
theorem dX8_put_44 : decode cX8_put 44 = .ok (.bipush 40, 2) := by decide +kernel
theorem dX8_put_46 : decode cX8_put 46 = .ok (.iload_n 1, 1) := by decide +kernel
theorem dX8_put_47 : decode cX8_put 47 = .ok (.imul, 1) := by decide +kernel
theorem dX8_put_48 : decode cX8_put 48 = .ok (.iload_n 2, 1) := by decide +kernel
theorem dX8_put_49 : decode cX8_put 49 = .ok (.iadd, 1) := by decide +kernel
theorem dX8_put_50 : decode cX8_put 50 = .ok (.aload_n 0, 1) := by decide +kernel
theorem dX8_put_51 : decode cX8_put 51 = .ok (.getfield 50, 3) := by decide +kernel
theorem dX8_put_54 : decode cX8_put 54 = .ok (.iload_n 1, 1) := by decide +kernel
theorem dX8_put_55 : decode cX8_put 55 = .ok (.iaload, 1) := by decide +kernel
theorem dX8_put_56 : decode cX8_put 56 = .ok (.ifCond .ne 9, 3) := by decide +kernel
theorem dX8_put_59 : decode cX8_put 59 = .ok (.iload_n 3, 1) := by decide +kernel
theorem dX8_put_60 : decode cX8_put 60 = .ok (.i2b, 1) := by decide +kernel
theorem dX8_put_61 : decode cX8_put 61 = .ok (.i2l, 1) := by decide +kernel
theorem dX8_put_62 : decode cX8_put 62 = .ok (.goto 21, 3) := by decide +kernel
theorem dX8_put_65 : decode cX8_put 65 = .ok (.aload_n 0, 1) := by decide +kernel
theorem dX8_put_66 : decode cX8_put 66 = .ok (.getfield 50, 3) := by decide +kernel
theorem dX8_put_69 : decode cX8_put 69 = .ok (.iload_n 1, 1) := by decide +kernel
theorem dX8_put_70 : decode cX8_put 70 = .ok (.iaload, 1) := by decide +kernel
theorem dX8_put_71 : decode cX8_put 71 = .ok (.iconst 1, 1) := by decide +kernel
theorem dX8_put_72 : decode cX8_put 72 = .ok (.if_icmp .ne 9, 3) := by decide +kernel
theorem dX8_put_75 : decode cX8_put 75 = .ok (.iload_n 3, 1) := by decide +kernel
theorem dX8_put_76 : decode cX8_put 76 = .ok (.i2s, 1) := by decide +kernel
theorem dX8_put_77 : decode cX8_put 77 = .ok (.i2l, 1) := by decide +kernel
theorem dX8_put_78 : decode cX8_put 78 = .ok (.goto 5, 3) := by decide +kernel
theorem dX8_put_81 : decode cX8_put 81 = .ok (.iload_n 3, 1) := by decide +kernel
theorem dX8_put_82 : decode cX8_put 82 = .ok (.i2l, 1) := by decide +kernel
theorem dX8_put_83 : decode cX8_put 83 = .ok (.lastore, 1) := by decide +kernel
theorem dX8_put_84 : decode cX8_put 84 = .ok (.iconst 1, 1) := by decide +kernel
theorem dX8_put_85 : decode cX8_put 85 = .ok (.ireturn, 1) := by decide +kernel
theorem dX8_lacksSort_0 : decode cX8_lacksSort 0 = .ok (.aload_n 0, 1) := by decide +kernel
theorem dX8_lacksSort_1 : decode cX8_lacksSort 1 = .ok (.getfield 50, 3) := by decide +kernel
theorem dX8_lacksSort_4 : decode cX8_lacksSort 4 = .ok (.iload_n 1, 1) := by decide +kernel
theorem dX8_lacksSort_5 : decode cX8_lacksSort 5 = .ok (.iaload, 1) := by decide +kernel
theorem dX8_lacksSort_6 : decode cX8_lacksSort 6 = .ok (.ifCond .ge 8, 3) := by decide +kernel
theorem dX8_lacksSort_9 : decode cX8_lacksSort 9 = .ok (.bipush (-11), 2) := by decide +kernel
theorem dX8_lacksSort_11 : decode cX8_lacksSort 11 = .ok (.goto 19, 3) := by decide +kernel
theorem dX8_lacksSort_14 : decode cX8_lacksSort 14 = .ok (.aload_n 0, 1) := by decide +kernel
theorem dX8_lacksSort_15 : decode cX8_lacksSort 15 = .ok (.getfield 50, 3) := by decide +kernel
theorem dX8_lacksSort_18 : decode cX8_lacksSort 18 = .ok (.iload_n 1, 1) := by decide +kernel
theorem dX8_lacksSort_19 : decode cX8_lacksSort 19 = .ok (.iaload, 1) := by decide +kernel
theorem dX8_lacksSort_20 : decode cX8_lacksSort 20 = .ok (.iload_n 2, 1) := by decide +kernel
theorem dX8_lacksSort_21 : decode cX8_lacksSort 21 = .ok (.if_icmp .eq 8, 3) := by decide +kernel
theorem dX8_lacksSort_24 : decode cX8_lacksSort 24 = .ok (.bipush (-13), 2) := by decide +kernel
theorem dX8_lacksSort_26 : decode cX8_lacksSort 26 = .ok (.goto 4, 3) := by decide +kernel
theorem dX8_lacksSort_29 : decode cX8_lacksSort 29 = .ok (.iconst 0, 1) := by decide +kernel
theorem dX8_lacksSort_30 : decode cX8_lacksSort 30 = .ok (.ireturn, 1) := by decide +kernel
theorem dX8_item_0 : decode cX8_item 0 = .ok (.iload_n 1, 1) := by decide +kernel
theorem dX8_item_1 : decode cX8_item 1 = .ok (.invokestatic 324, 3) := by decide +kernel
theorem dX8_item_4 : decode cX8_item 4 = .ok (.ifCond .eq 12, 3) := by decide +kernel
theorem dX8_item_7 : decode cX8_item 7 = .ok (.iload_n 2, 1) := by decide +kernel
theorem dX8_item_8 : decode cX8_item 8 = .ok (.iconst 0, 1) := by decide +kernel
theorem dX8_item_9 : decode cX8_item 9 = .ok (.iconst 3, 1) := by decide +kernel
theorem dX8_item_10 : decode cX8_item 10 = .ok (.invokestatic 78, 3) := by decide +kernel
theorem dX8_item_13 : decode cX8_item 13 = .ok (.ifCond .ne 5, 3) := by decide +kernel
theorem dX8_item_16 : decode cX8_item 16 = .ok (.iconst (-1), 1) := by decide +kernel
theorem dX8_item_17 : decode cX8_item 17 = .ok (.ireturn, 1) := by decide +kernel
theorem dX8_item_18 : decode cX8_item 18 = .ok (.aload_n 0, 1) := by decide +kernel
theorem dX8_item_19 : decode cX8_item 19 = .ok (.iload_n 1, 1) := by decide +kernel
theorem dX8_item_20 : decode cX8_item 20 = .ok (.iload_n 2, 1) := by decide +kernel
theorem dX8_item_21 : decode cX8_item 21 = .ok (.invokevirtual 327, 3) := by decide +kernel
theorem dX8_item_24 : decode cX8_item 24 = .ok (.istore 4, 2) := by decide +kernel
theorem dX8_item_26 : decode cX8_item 26 = .ok (.iload 4, 2) := by decide +kernel
theorem dX8_item_28 : decode cX8_item 28 = .ok (.ifCond .eq 6, 3) := by decide +kernel
theorem dX8_item_31 : decode cX8_item 31 = .ok (.iload 4, 2) := by decide +kernel
theorem dX8_item_33 : decode cX8_item 33 = .ok (.ireturn, 1) := by decide +kernel
theorem dX8_item_34 : decode cX8_item 34 = .ok (.iload_n 3, 1) := by decide +kernel
theorem dX8_item_35 : decode cX8_item 35 = .ok (.iconst 0, 1) := by decide +kernel
theorem dX8_item_36 : decode cX8_item 36 = .ok (.aload_n 0, 1) := by decide +kernel
theorem dX8_item_37 : decode cX8_item 37 = .ok (.getfield 53, 3) := by decide +kernel
theorem dX8_item_40 : decode cX8_item 40 = .ok (.iload_n 1, 1) := by decide +kernel
theorem dX8_item_41 : decode cX8_item 41 = .ok (.iaload, 1) := by decide +kernel
theorem dX8_item_42 : decode cX8_item 42 = .ok (.iconst 1, 1) := by decide +kernel
theorem dX8_item_43 : decode cX8_item 43 = .ok (.isub, 1) := by decide +kernel
theorem dX8_item_44 : decode cX8_item 44 = .ok (.invokestatic 78, 3) := by decide +kernel
theorem dX8_item_47 : decode cX8_item 47 = .ok (.ifCond .eq 18, 3) := by decide +kernel
theorem dX8_item_50 : decode cX8_item 50 = .ok (.aload_n 0, 1) := by decide +kernel
theorem dX8_item_51 : decode cX8_item 51 = .ok (.getfield 56, 3) := by decide +kernel
theorem dX8_item_54 : decode cX8_item 54 = .ok (.bipush 40, 2) := by decide +kernel
theorem dX8_item_56 : decode cX8_item 56 = .ok (.iload_n 1, 1) := by decide +kernel
theorem dX8_item_57 : decode cX8_item 57 = .ok (.imul, 1) := by decide +kernel
theorem dX8_item_58 : decode cX8_item 58 = .ok (.iload_n 3, 1) := by decide +kernel
theorem dX8_item_59 : decode cX8_item 59 = .ok (.iadd, 1) := by decide +kernel
theorem dX8_item_60 : decode cX8_item 60 = .ok (.laload, 1) := by decide +kernel
theorem dX8_item_61 : decode cX8_item 61 = .ok (.l2i, 1) := by decide +kernel
theorem dX8_item_62 : decode cX8_item 62 = .ok (.goto 5, 3) := by decide +kernel
theorem dX8_item_65 : decode cX8_item 65 = .ok (.bipush (-12), 2) := by decide +kernel
theorem dX8_item_67 : decode cX8_item 67 = .ok (.ireturn, 1) := by decide +kernel
theorem dX8_isHeld_0 : decode cX8_isHeld 0 = .ok (.iload_n 1, 1) := by decide +kernel
theorem dX8_isHeld_1 : decode cX8_isHeld 1 = .ok (.ifCond .ne 11, 3) := by decide +kernel
theorem dX8_isHeld_4 : decode cX8_isHeld 4 = .ok (.aload_n 0, 1) := by decide +kernel
theorem dX8_isHeld_5 : decode cX8_isHeld 5 = .ok (.iload_n 2, 1) := by decide +kernel
theorem dX8_isHeld_6 : decode cX8_isHeld 6 = .ok (.invokevirtual 234, 3) := by decide +kernel
theorem dX8_isHeld_9 : decode cX8_isHeld 9 = .ok (.goto 25, 3) := by decide +kernel
theorem dX8_isHeld_12 : decode cX8_isHeld 12 = .ok (.iload_n 1, 1) := by decide +kernel
theorem dX8_isHeld_13 : decode cX8_isHeld 13 = .ok (.iconst 1, 1) := by decide +kernel
theorem dX8_isHeld_14 : decode cX8_isHeld 14 = .ok (.if_icmp .ne 10, 3) := by decide +kernel
theorem dX8_isHeld_17 : decode cX8_isHeld 17 = .ok (.iload_n 2, 1) := by decide +kernel
theorem dX8_isHeld_18 : decode cX8_isHeld 18 = .ok (.invokestatic 324, 3) := by decide +kernel
theorem dX8_isHeld_21 : decode cX8_isHeld 21 = .ok (.goto 13, 3) := by decide +kernel
theorem dX8_isHeld_24 : decode cX8_isHeld 24 = .ok (.iload_n 1, 1) := by decide +kernel
theorem dX8_isHeld_25 : decode cX8_isHeld 25 = .ok (.iconst 2, 1) := by decide +kernel
theorem dX8_isHeld_26 : decode cX8_isHeld 26 = .ok (.if_icmp .ne 7, 3) := by decide +kernel
theorem dX8_isHeld_29 : decode cX8_isHeld 29 = .ok (.iconst 1, 1) := by decide +kernel
theorem dX8_isHeld_30 : decode cX8_isHeld 30 = .ok (.goto 4, 3) := by decide +kernel
theorem dX8_isHeld_33 : decode cX8_isHeld 33 = .ok (.iconst 0, 1) := by decide +kernel
theorem dX8_isHeld_34 : decode cX8_isHeld 34 = .ok (.ireturn, 1) := by decide +kernel
theorem dX8_shelf_0 : decode cX8_shelf 0 = .ok (.iload_n 1, 1) := by decide +kernel
theorem dX8_shelf_1 : decode cX8_shelf 1 = .ok (.invokestatic 324, 3) := by decide +kernel
theorem dX8_shelf_4 : decode cX8_shelf 4 = .ok (.ifCond .eq 12, 3) := by decide +kernel
theorem dX8_shelf_7 : decode cX8_shelf 7 = .ok (.aload_n 0, 1) := by decide +kernel
theorem dX8_shelf_8 : decode cX8_shelf 8 = .ok (.iload_n 2, 1) := by decide +kernel
theorem dX8_shelf_9 : decode cX8_shelf 9 = .ok (.iload_n 3, 1) := by decide +kernel
theorem dX8_shelf_10 : decode cX8_shelf 10 = .ok (.invokevirtual 334, 3) := by decide +kernel
theorem dX8_shelf_13 : decode cX8_shelf 13 = .ok (.ifCond .ne 5, 3) := by decide +kernel
theorem dX8_shelf_16 : decode cX8_shelf 16 = .ok (.iconst (-1), 1) := by decide +kernel
theorem dX8_shelf_17 : decode cX8_shelf 17 = .ok (.ireturn, 1) := by decide +kernel
theorem dX8_shelf_18 : decode cX8_shelf 18 = .ok (.aload_n 0, 1) := by decide +kernel
theorem dX8_shelf_19 : decode cX8_shelf 19 = .ok (.getfield 60, 3) := by decide +kernel
theorem dX8_shelf_22 : decode cX8_shelf 22 = .ok (.iload_n 1, 1) := by decide +kernel
theorem dX8_shelf_23 : decode cX8_shelf 23 = .ok (.iload_n 2, 1) := by decide +kernel
theorem dX8_shelf_24 : decode cX8_shelf 24 = .ok (.iconst 2, 1) := by decide +kernel
theorem dX8_shelf_25 : decode cX8_shelf 25 = .ok (.if_icmp .eq 17, 3) := by decide +kernel
theorem dX8_shelf_28 : decode cX8_shelf 28 = .ok (.iload_n 2, 1) := by decide +kernel
theorem dX8_shelf_29 : decode cX8_shelf 29 = .ok (.iconst 1, 1) := by decide +kernel
theorem dX8_shelf_30 : decode cX8_shelf 30 = .ok (.if_icmp .ne 16, 3) := by decide +kernel
theorem dX8_shelf_33 : decode cX8_shelf 33 = .ok (.aload_n 0, 1) := by decide +kernel
theorem dX8_shelf_34 : decode cX8_shelf 34 = .ok (.getfield 50, 3) := by decide +kernel
theorem dX8_shelf_37 : decode cX8_shelf 37 = .ok (.iload_n 3, 1) := by decide +kernel
theorem dX8_shelf_38 : decode cX8_shelf 38 = .ok (.iaload, 1) := by decide +kernel
theorem dX8_shelf_39 : decode cX8_shelf 39 = .ok (.ifCond .ge 7, 3) := by decide +kernel
theorem dX8_shelf_42 : decode cX8_shelf 42 = .ok (.iconst (-1), 1) := by decide +kernel
theorem dX8_shelf_43 : decode cX8_shelf 43 = .ok (.goto 4, 3) := by decide +kernel
theorem dX8_shelf_46 : decode cX8_shelf 46 = .ok (.iload_n 2, 1) := by decide +kernel
theorem dX8_shelf_47 : decode cX8_shelf 47 = .ok (.iastore, 1) := by decide +kernel
theorem dX8_shelf_48 : decode cX8_shelf 48 = .ok (.aload_n 0, 1) := by decide +kernel
theorem dX8_shelf_49 : decode cX8_shelf 49 = .ok (.getfield 63, 3) := by decide +kernel
theorem dX8_shelf_52 : decode cX8_shelf 52 = .ok (.iload_n 1, 1) := by decide +kernel
theorem dX8_shelf_53 : decode cX8_shelf 53 = .ok (.iload_n 2, 1) := by decide +kernel
theorem dX8_shelf_54 : decode cX8_shelf 54 = .ok (.iconst 1, 1) := by decide +kernel
theorem dX8_shelf_55 : decode cX8_shelf 55 = .ok (.if_icmp .ne 12, 3) := by decide +kernel
theorem dX8_shelf_58 : decode cX8_shelf 58 = .ok (.aload_n 0, 1) := by decide +kernel
theorem dX8_shelf_59 : decode cX8_shelf 59 = .ok (.getfield 50, 3) := by decide +kernel
theorem dX8_shelf_62 : decode cX8_shelf 62 = .ok (.iload_n 3, 1) := by decide +kernel
theorem dX8_shelf_63 : decode cX8_shelf 63 = .ok (.iaload, 1) := by decide +kernel
theorem dX8_shelf_64 : decode cX8_shelf 64 = .ok (.goto 4, 3) := by decide +kernel
theorem dX8_shelf_67 : decode cX8_shelf 67 = .ok (.iload_n 3, 1) := by decide +kernel
theorem dX8_shelf_68 : decode cX8_shelf 68 = .ok (.iastore, 1) := by decide +kernel
theorem dX8_shelf_69 : decode cX8_shelf 69 = .ok (.aload_n 0, 1) := by decide +kernel
theorem dX8_shelf_70 : decode cX8_shelf 70 = .ok (.getfield 66, 3) := by decide +kernel
theorem dX8_shelf_73 : decode cX8_shelf 73 = .ok (.iload_n 1, 1) := by decide +kernel
theorem dX8_shelf_74 : decode cX8_shelf 74 = .ok (.iload_n 2, 1) := by decide +kernel
theorem dX8_shelf_75 : decode cX8_shelf 75 = .ok (.iconst 1, 1) := by decide +kernel
theorem dX8_shelf_76 : decode cX8_shelf 76 = .ok (.if_icmp .ne 12, 3) := by decide +kernel
theorem dX8_shelf_79 : decode cX8_shelf 79 = .ok (.aload_n 0, 1) := by decide +kernel
theorem dX8_shelf_80 : decode cX8_shelf 80 = .ok (.getfield 53, 3) := by decide +kernel
theorem dX8_shelf_83 : decode cX8_shelf 83 = .ok (.iload_n 3, 1) := by decide +kernel
theorem dX8_shelf_84 : decode cX8_shelf 84 = .ok (.iaload, 1) := by decide +kernel
theorem dX8_shelf_85 : decode cX8_shelf 85 = .ok (.goto 4, 3) := by decide +kernel
theorem dX8_shelf_88 : decode cX8_shelf 88 = .ok (.iconst 0, 1) := by decide +kernel
theorem dX8_shelf_89 : decode cX8_shelf 89 = .ok (.iastore, 1) := by decide +kernel
theorem dX8_shelf_90 : decode cX8_shelf 90 = .ok (.iconst 1, 1) := by decide +kernel
theorem dX8_shelf_91 : decode cX8_shelf 91 = .ok (.ireturn, 1) := by decide +kernel
theorem dX8_kindOn_0 : decode cX8_kindOn 0 = .ok (.aload_n 0, 1) := by decide +kernel
theorem dX8_kindOn_1 : decode cX8_kindOn 1 = .ok (.getfield 60, 3) := by decide +kernel
theorem dX8_kindOn_4 : decode cX8_kindOn 4 = .ok (.iload_n 1, 1) := by decide +kernel
theorem dX8_kindOn_5 : decode cX8_kindOn 5 = .ok (.iaload, 1) := by decide +kernel
theorem dX8_kindOn_6 : decode cX8_kindOn 6 = .ok (.ifCond .eq 19, 3) := by decide +kernel
theorem dX8_kindOn_9 : decode cX8_kindOn 9 = .ok (.aload_n 0, 1) := by decide +kernel
theorem dX8_kindOn_10 : decode cX8_kindOn 10 = .ok (.getfield 60, 3) := by decide +kernel
theorem dX8_kindOn_13 : decode cX8_kindOn 13 = .ok (.iload_n 1, 1) := by decide +kernel
theorem dX8_kindOn_14 : decode cX8_kindOn 14 = .ok (.iaload, 1) := by decide +kernel
theorem dX8_kindOn_15 : decode cX8_kindOn 15 = .ok (.ifCond .ge 7, 3) := by decide +kernel
theorem dX8_kindOn_18 : decode cX8_kindOn 18 = .ok (.iconst (-1), 1) := by decide +kernel
theorem dX8_kindOn_19 : decode cX8_kindOn 19 = .ok (.goto 5, 3) := by decide +kernel
theorem dX8_kindOn_22 : decode cX8_kindOn 22 = .ok (.bipush 9, 2) := by decide +kernel
theorem dX8_kindOn_24 : decode cX8_kindOn 24 = .ok (.ireturn, 1) := by decide +kernel
theorem dX8_kindOn_25 : decode cX8_kindOn 25 = .ok (.aload_n 0, 1) := by decide +kernel
theorem dX8_kindOn_26 : decode cX8_kindOn 26 = .ok (.aload_n 0, 1) := by decide +kernel
theorem dX8_kindOn_27 : decode cX8_kindOn 27 = .ok (.getfield 63, 3) := by decide +kernel
theorem dX8_kindOn_30 : decode cX8_kindOn 30 = .ok (.iload_n 1, 1) := by decide +kernel
theorem dX8_kindOn_31 : decode cX8_kindOn 31 = .ok (.iaload, 1) := by decide +kernel
theorem dX8_kindOn_32 : decode cX8_kindOn 32 = .ok (.invokevirtual 234, 3) := by decide +kernel
theorem dX8_kindOn_35 : decode cX8_kindOn 35 = .ok (.ifCond .eq 17, 3) := by decide +kernel
theorem dX8_kindOn_38 : decode cX8_kindOn 38 = .ok (.aload_n 0, 1) := by decide +kernel
theorem dX8_kindOn_39 : decode cX8_kindOn 39 = .ok (.getfield 17, 3) := by decide +kernel
theorem dX8_kindOn_42 : decode cX8_kindOn 42 = .ok (.aload_n 0, 1) := by decide +kernel
theorem dX8_kindOn_43 : decode cX8_kindOn 43 = .ok (.getfield 63, 3) := by decide +kernel
theorem dX8_kindOn_46 : decode cX8_kindOn 46 = .ok (.iload_n 1, 1) := by decide +kernel
theorem dX8_kindOn_47 : decode cX8_kindOn 47 = .ok (.iaload, 1) := by decide +kernel
theorem dX8_kindOn_48 : decode cX8_kindOn 48 = .ok (.iaload, 1) := by decide +kernel
theorem dX8_kindOn_49 : decode cX8_kindOn 49 = .ok (.goto 4, 3) := by decide +kernel
theorem dX8_kindOn_52 : decode cX8_kindOn 52 = .ok (.iconst (-1), 1) := by decide +kernel
theorem dX8_kindOn_53 : decode cX8_kindOn 53 = .ok (.ireturn, 1) := by decide +kernel
theorem dX8_isUnder_0 : decode cX8_isUnder 0 = .ok (.iload_n 1, 1) := by decide +kernel
theorem dX8_isUnder_1 : decode cX8_isUnder 1 = .ok (.ifCond .eq 28, 3) := by decide +kernel
theorem dX8_isUnder_4 : decode cX8_isUnder 4 = .ok (.iload_n 1, 1) := by decide +kernel
theorem dX8_isUnder_5 : decode cX8_isUnder 5 = .ok (.iload_n 0, 1) := by decide +kernel
theorem dX8_isUnder_6 : decode cX8_isUnder 6 = .ok (.if_icmp .eq 23, 3) := by decide +kernel
theorem dX8_isUnder_9 : decode cX8_isUnder 9 = .ok (.iload_n 1, 1) := by decide +kernel
theorem dX8_isUnder_10 : decode cX8_isUnder 10 = .ok (.iconst 1, 1) := by decide +kernel
theorem dX8_isUnder_11 : decode cX8_isUnder 11 = .ok (.if_icmp .ne 8, 3) := by decide +kernel
theorem dX8_isUnder_14 : decode cX8_isUnder 14 = .ok (.iload_n 0, 1) := by decide +kernel
theorem dX8_isUnder_15 : decode cX8_isUnder 15 = .ok (.iconst 4, 1) := by decide +kernel
theorem dX8_isUnder_16 : decode cX8_isUnder 16 = .ok (.if_icmp .eq 13, 3) := by decide +kernel
theorem dX8_isUnder_19 : decode cX8_isUnder 19 = .ok (.iload_n 1, 1) := by decide +kernel
theorem dX8_isUnder_20 : decode cX8_isUnder 20 = .ok (.iconst 2, 1) := by decide +kernel
theorem dX8_isUnder_21 : decode cX8_isUnder 21 = .ok (.if_icmp .ne 12, 3) := by decide +kernel
theorem dX8_isUnder_24 : decode cX8_isUnder 24 = .ok (.iload_n 0, 1) := by decide +kernel
theorem dX8_isUnder_25 : decode cX8_isUnder 25 = .ok (.iconst 3, 1) := by decide +kernel
theorem dX8_isUnder_26 : decode cX8_isUnder 26 = .ok (.if_icmp .ne 7, 3) := by decide +kernel
theorem dX8_isUnder_29 : decode cX8_isUnder 29 = .ok (.iconst 1, 1) := by decide +kernel
theorem dX8_isUnder_30 : decode cX8_isUnder 30 = .ok (.goto 4, 3) := by decide +kernel
theorem dX8_isUnder_33 : decode cX8_isUnder 33 = .ok (.iconst 0, 1) := by decide +kernel
theorem dX8_isUnder_34 : decode cX8_isUnder 34 = .ok (.ireturn, 1) := by decide +kernel
theorem dX8_taken_0 : decode cX8_taken 0 = .ok (.iload_n 1, 1) := by decide +kernel
theorem dX8_taken_1 : decode cX8_taken 1 = .ok (.invokestatic 324, 3) := by decide +kernel
theorem dX8_taken_4 : decode cX8_taken 4 = .ok (.ifCond .eq 23, 3) := by decide +kernel
theorem dX8_taken_7 : decode cX8_taken 7 = .ok (.iload_n 2, 1) := by decide +kernel
theorem dX8_taken_8 : decode cX8_taken 8 = .ok (.iconst 0, 1) := by decide +kernel
theorem dX8_taken_9 : decode cX8_taken 9 = .ok (.iconst 5, 1) := by decide +kernel
theorem dX8_taken_10 : decode cX8_taken 10 = .ok (.invokestatic 78, 3) := by decide +kernel
theorem dX8_taken_13 : decode cX8_taken 13 = .ok (.ifCond .ne 16, 3) := by decide +kernel
theorem dX8_taken_16 : decode cX8_taken 16 = .ok (.iload_n 2, 1) := by decide +kernel
theorem dX8_taken_17 : decode cX8_taken 17 = .ok (.bipush 10, 2) := by decide +kernel
theorem dX8_taken_19 : decode cX8_taken 19 = .ok (.bipush 13, 2) := by decide +kernel
theorem dX8_taken_21 : decode cX8_taken 21 = .ok (.invokestatic 78, 3) := by decide +kernel
theorem dX8_taken_24 : decode cX8_taken 24 = .ok (.ifCond .ne 5, 3) := by decide +kernel
theorem dX8_taken_27 : decode cX8_taken 27 = .ok (.iconst (-1), 1) := by decide +kernel
theorem dX8_taken_28 : decode cX8_taken 28 = .ok (.ireturn, 1) := by decide +kernel
theorem dX8_taken_29 : decode cX8_taken 29 = .ok (.aload_n 0, 1) := by decide +kernel
theorem dX8_taken_30 : decode cX8_taken 30 = .ok (.iload_n 1, 1) := by decide +kernel
theorem dX8_taken_31 : decode cX8_taken 31 = .ok (.invokevirtual 337, 3) := by decide +kernel
theorem dX8_taken_34 : decode cX8_taken 34 = .ok (.istore_n 3, 1) := by decide +kernel
theorem dX8_taken_35 : decode cX8_taken 35 = .ok (.iload_n 3, 1) := by decide +kernel
theorem dX8_taken_36 : decode cX8_taken 36 = .ok (.ifCond .ge 6, 3) := by decide +kernel
theorem dX8_taken_39 : decode cX8_taken 39 = .ok (.bipush (-11), 2) := by decide +kernel
theorem dX8_taken_41 : decode cX8_taken 41 = .ok (.ireturn, 1) := by decide +kernel
theorem dX8_taken_42 : decode cX8_taken 42 = .ok (.iload_n 3, 1) := by decide +kernel
theorem dX8_taken_43 : decode cX8_taken 43 = .ok (.bipush 9, 2) := by decide +kernel
theorem dX8_taken_45 : decode cX8_taken 45 = .ok (.if_icmp .ne 28, 3) := by decide +kernel
theorem dX8_taken_48 : decode cX8_taken 48 = .ok (.iload_n 2, 1) := by decide +kernel
theorem dX8_taken_49 : decode cX8_taken 49 = .ok (.bipush 10, 2) := by decide +kernel
theorem dX8_taken_51 : decode cX8_taken 51 = .ok (.aload_n 0, 1) := by decide +kernel
theorem dX8_taken_52 : decode cX8_taken 52 = .ok (.getfield 63, 3) := by decide +kernel
theorem dX8_taken_55 : decode cX8_taken 55 = .ok (.iload_n 1, 1) := by decide +kernel
theorem dX8_taken_56 : decode cX8_taken 56 = .ok (.iaload, 1) := by decide +kernel
theorem dX8_taken_57 : decode cX8_taken 57 = .ok (.iadd, 1) := by decide +kernel
theorem dX8_taken_58 : decode cX8_taken 58 = .ok (.if_icmp .ne 12, 3) := by decide +kernel
theorem dX8_taken_61 : decode cX8_taken 61 = .ok (.aload_n 0, 1) := by decide +kernel
theorem dX8_taken_62 : decode cX8_taken 62 = .ok (.getfield 66, 3) := by decide +kernel
theorem dX8_taken_65 : decode cX8_taken 65 = .ok (.iload_n 1, 1) := by decide +kernel
theorem dX8_taken_66 : decode cX8_taken 66 = .ok (.iaload, 1) := by decide +kernel
theorem dX8_taken_67 : decode cX8_taken 67 = .ok (.goto 5, 3) := by decide +kernel
theorem dX8_taken_70 : decode cX8_taken 70 = .ok (.bipush (-13), 2) := by decide +kernel
theorem dX8_taken_72 : decode cX8_taken 72 = .ok (.ireturn, 1) := by decide +kernel
theorem dX8_taken_73 : decode cX8_taken 73 = .ok (.iload_n 2, 1) := by decide +kernel
theorem dX8_taken_74 : decode cX8_taken 74 = .ok (.bipush 10, 2) := by decide +kernel
theorem dX8_taken_76 : decode cX8_taken 76 = .ok (.if_icmp .ge 20, 3) := by decide +kernel
theorem dX8_taken_79 : decode cX8_taken 79 = .ok (.iload_n 3, 1) := by decide +kernel
theorem dX8_taken_80 : decode cX8_taken 80 = .ok (.iload_n 2, 1) := by decide +kernel
theorem dX8_taken_81 : decode cX8_taken 81 = .ok (.invokestatic 340, 3) := by decide +kernel
theorem dX8_taken_84 : decode cX8_taken 84 = .ok (.ifCond .eq 12, 3) := by decide +kernel
theorem dX8_taken_87 : decode cX8_taken 87 = .ok (.aload_n 0, 1) := by decide +kernel
theorem dX8_taken_88 : decode cX8_taken 88 = .ok (.getfield 63, 3) := by decide +kernel
theorem dX8_taken_91 : decode cX8_taken 91 = .ok (.iload_n 1, 1) := by decide +kernel
theorem dX8_taken_92 : decode cX8_taken 92 = .ok (.iaload, 1) := by decide +kernel
theorem dX8_taken_93 : decode cX8_taken 93 = .ok (.goto 5, 3) := by decide +kernel
theorem dX8_taken_96 : decode cX8_taken 96 = .ok (.bipush (-13), 2) := by decide +kernel
theorem dX8_taken_98 : decode cX8_taken 98 = .ok (.ireturn, 1) := by decide +kernel
theorem dX8_ran_0 : decode cX8_ran 0 = .ok (.aload_n 0, 1) := by decide +kernel
theorem dX8_ran_1 : decode cX8_ran 1 = .ok (.getfield 343, 3) := by decide +kernel
theorem dX8_ran_4 : decode cX8_ran 4 = .ok (.bipush 30, 2) := by decide +kernel
theorem dX8_ran_6 : decode cX8_ran 6 = .ok (.if_icmp .ge 23, 3) := by decide +kernel
theorem dX8_ran_9 : decode cX8_ran 9 = .ok (.aload_n 0, 1) := by decide +kernel
theorem dX8_ran_10 : decode cX8_ran 10 = .ok (.getfield 69, 3) := by decide +kernel
theorem dX8_ran_13 : decode cX8_ran 13 = .ok (.aload_n 0, 1) := by decide +kernel
theorem dX8_ran_14 : decode cX8_ran 14 = .ok (.getfield 343, 3) := by decide +kernel
theorem dX8_ran_17 : decode cX8_ran 17 = .ok (.iload_n 1, 1) := by decide +kernel
theorem dX8_ran_18 : decode cX8_ran 18 = .ok (.iastore, 1) := by decide +kernel
theorem dX8_ran_19 : decode cX8_ran 19 = .ok (.aload_n 0, 1) := by decide +kernel
theorem dX8_ran_20 : decode cX8_ran 20 = .ok (.dup, 1) := by decide +kernel
theorem dX8_ran_21 : decode cX8_ran 21 = .ok (.getfield 343, 3) := by decide +kernel
theorem dX8_ran_24 : decode cX8_ran 24 = .ok (.iconst 1, 1) := by decide +kernel
theorem dX8_ran_25 : decode cX8_ran 25 = .ok (.iadd, 1) := by decide +kernel
theorem dX8_ran_26 : decode cX8_ran 26 = .ok (.putfield 343, 3) := by decide +kernel
theorem dX8_ran_29 : decode cX8_ran 29 = .ok (.return_, 1) := by decide +kernel
theorem dX8_plainLifts_0 : decode cX8_plainLifts 0 = .ok (.aload_n 0, 1) := by decide +kernel
theorem dX8_plainLifts_1 : decode cX8_plainLifts 1 = .ok (.bipush 10, 2) := by decide +kernel
theorem dX8_plainLifts_3 : decode cX8_plainLifts 3 = .ok (.invokevirtual 346, 3) := by decide +kernel
theorem dX8_plainLifts_6 : decode cX8_plainLifts 6 = .ok (.iload_n 1, 1) := by decide +kernel
theorem dX8_plainLifts_7 : decode cX8_plainLifts 7 = .ok (.aload_n 0, 1) := by decide +kernel
theorem dX8_plainLifts_8 : decode cX8_plainLifts 8 = .ok (.getfield 349, 3) := by decide +kernel
theorem dX8_plainLifts_11 : decode cX8_plainLifts 11 = .ok (.iadd, 1) := by decide +kernel
theorem dX8_plainLifts_12 : decode cX8_plainLifts 12 = .ok (.ireturn, 1) := by decide +kernel
theorem dX8_leakyLifts_0 : decode cX8_leakyLifts 0 = .ok (.aload_n 0, 1) := by decide +kernel
theorem dX8_leakyLifts_1 : decode cX8_leakyLifts 1 = .ok (.bipush 30, 2) := by decide +kernel
theorem dX8_leakyLifts_3 : decode cX8_leakyLifts 3 = .ok (.invokevirtual 346, 3) := by decide +kernel
theorem dX8_leakyLifts_6 : decode cX8_leakyLifts 6 = .ok (.aload_n 0, 1) := by decide +kernel
theorem dX8_leakyLifts_7 : decode cX8_leakyLifts 7 = .ok (.iload_n 1, 1) := by decide +kernel
theorem dX8_leakyLifts_8 : decode cX8_leakyLifts 8 = .ok (.invokevirtual 352, 3) := by decide +kernel
theorem dX8_leakyLifts_11 : decode cX8_leakyLifts 11 = .ok (.iconst 3, 1) := by decide +kernel
theorem dX8_leakyLifts_12 : decode cX8_leakyLifts 12 = .ok (.imul, 1) := by decide +kernel
theorem dX8_leakyLifts_13 : decode cX8_leakyLifts 13 = .ok (.ireturn, 1) := by decide +kernel
theorem dX8_liftsIt_0 : decode cX8_liftsIt 0 = .ok (.aload_n 0, 1) := by decide +kernel
theorem dX8_liftsIt_1 : decode cX8_liftsIt 1 = .ok (.getfield 355, 3) := by decide +kernel
theorem dX8_liftsIt_4 : decode cX8_liftsIt 4 = .ok (.tableswitch 65 2 4 #[28, 34, 48], 28) := by decide +kernel
theorem dX8_liftsIt_32 : decode cX8_liftsIt 32 = .ok (.aload_n 0, 1) := by decide +kernel
theorem dX8_liftsIt_33 : decode cX8_liftsIt 33 = .ok (.iload_n 1, 1) := by decide +kernel
theorem dX8_liftsIt_34 : decode cX8_liftsIt 34 = .ok (.invokevirtual 358, 3) := by decide +kernel
theorem dX8_liftsIt_37 : decode cX8_liftsIt 37 = .ok (.ireturn, 1) := by decide +kernel
theorem dX8_liftsIt_38 : decode cX8_liftsIt 38 = .ok (.aload_n 0, 1) := by decide +kernel
theorem dX8_liftsIt_39 : decode cX8_liftsIt 39 = .ok (.bipush 40, 2) := by decide +kernel
theorem dX8_liftsIt_41 : decode cX8_liftsIt 41 = .ok (.invokevirtual 346, 3) := by decide +kernel
theorem dX8_liftsIt_44 : decode cX8_liftsIt 44 = .ok (.iconst 0, 1) := by decide +kernel
theorem dX8_liftsIt_45 : decode cX8_liftsIt 45 = .ok (.aload_n 0, 1) := by decide +kernel
theorem dX8_liftsIt_46 : decode cX8_liftsIt 46 = .ok (.iload_n 1, 1) := by decide +kernel
theorem dX8_liftsIt_47 : decode cX8_liftsIt 47 = .ok (.invokevirtual 358, 3) := by decide +kernel
theorem dX8_liftsIt_50 : decode cX8_liftsIt 50 = .ok (.isub, 1) := by decide +kernel
theorem dX8_liftsIt_51 : decode cX8_liftsIt 51 = .ok (.ireturn, 1) := by decide +kernel
theorem dX8_liftsIt_52 : decode cX8_liftsIt 52 = .ok (.aload_n 0, 1) := by decide +kernel
theorem dX8_liftsIt_53 : decode cX8_liftsIt 53 = .ok (.bipush 51, 2) := by decide +kernel
theorem dX8_liftsIt_55 : decode cX8_liftsIt 55 = .ok (.invokevirtual 346, 3) := by decide +kernel
theorem dX8_liftsIt_58 : decode cX8_liftsIt 58 = .ok (.aload_n 0, 1) := by decide +kernel
theorem dX8_liftsIt_59 : decode cX8_liftsIt 59 = .ok (.iload_n 1, 1) := by decide +kernel
theorem dX8_liftsIt_60 : decode cX8_liftsIt 60 = .ok (.invokevirtual 352, 3) := by decide +kernel
theorem dX8_liftsIt_63 : decode cX8_liftsIt 63 = .ok (.aload_n 0, 1) := by decide +kernel
theorem dX8_liftsIt_64 : decode cX8_liftsIt 64 = .ok (.getfield 349, 3) := by decide +kernel
theorem dX8_liftsIt_67 : decode cX8_liftsIt 67 = .ok (.isub, 1) := by decide +kernel
theorem dX8_liftsIt_68 : decode cX8_liftsIt 68 = .ok (.ireturn, 1) := by decide +kernel
theorem dX8_liftsIt_69 : decode cX8_liftsIt 69 = .ok (.aload_n 0, 1) := by decide +kernel
theorem dX8_liftsIt_70 : decode cX8_liftsIt 70 = .ok (.iload_n 1, 1) := by decide +kernel
theorem dX8_liftsIt_71 : decode cX8_liftsIt 71 = .ok (.invokevirtual 352, 3) := by decide +kernel
theorem dX8_liftsIt_74 : decode cX8_liftsIt 74 = .ok (.ireturn, 1) := by decide +kernel
theorem dX8_plainSinks_0 : decode cX8_plainSinks 0 = .ok (.aload_n 0, 1) := by decide +kernel
theorem dX8_plainSinks_1 : decode cX8_plainSinks 1 = .ok (.bipush 11, 2) := by decide +kernel
theorem dX8_plainSinks_3 : decode cX8_plainSinks 3 = .ok (.invokevirtual 346, 3) := by decide +kernel
theorem dX8_plainSinks_6 : decode cX8_plainSinks 6 = .ok (.aload_n 0, 1) := by decide +kernel
theorem dX8_plainSinks_7 : decode cX8_plainSinks 7 = .ok (.iload_n 1, 1) := by decide +kernel
theorem dX8_plainSinks_8 : decode cX8_plainSinks 8 = .ok (.invokevirtual 361, 3) := by decide +kernel
theorem dX8_plainSinks_11 : decode cX8_plainSinks 11 = .ok (.iconst 2, 1) := by decide +kernel
theorem dX8_plainSinks_12 : decode cX8_plainSinks 12 = .ok (.imul, 1) := by decide +kernel
theorem dX8_plainSinks_13 : decode cX8_plainSinks 13 = .ok (.ireturn, 1) := by decide +kernel
theorem dX8_sinksIt_0 : decode cX8_sinksIt 0 = .ok (.aload_n 0, 1) := by decide +kernel
theorem dX8_sinksIt_1 : decode cX8_sinksIt 1 = .ok (.getfield 355, 3) := by decide +kernel
theorem dX8_sinksIt_4 : decode cX8_sinksIt 4 = .ok (.iconst 1, 1) := by decide +kernel
theorem dX8_sinksIt_5 : decode cX8_sinksIt 5 = .ok (.if_icmp .eq 11, 3) := by decide +kernel
theorem dX8_sinksIt_8 : decode cX8_sinksIt 8 = .ok (.aload_n 0, 1) := by decide +kernel
theorem dX8_sinksIt_9 : decode cX8_sinksIt 9 = .ok (.getfield 355, 3) := by decide +kernel
theorem dX8_sinksIt_12 : decode cX8_sinksIt 12 = .ok (.iconst 4, 1) := by decide +kernel
theorem dX8_sinksIt_13 : decode cX8_sinksIt 13 = .ok (.if_icmp .ne 20, 3) := by decide +kernel
theorem dX8_sinksIt_16 : decode cX8_sinksIt 16 = .ok (.aload_n 0, 1) := by decide +kernel
theorem dX8_sinksIt_17 : decode cX8_sinksIt 17 = .ok (.bipush 20, 2) := by decide +kernel
theorem dX8_sinksIt_19 : decode cX8_sinksIt 19 = .ok (.invokevirtual 346, 3) := by decide +kernel
theorem dX8_sinksIt_22 : decode cX8_sinksIt 22 = .ok (.aload_n 0, 1) := by decide +kernel
theorem dX8_sinksIt_23 : decode cX8_sinksIt 23 = .ok (.iload_n 1, 1) := by decide +kernel
theorem dX8_sinksIt_24 : decode cX8_sinksIt 24 = .ok (.invokevirtual 364, 3) := by decide +kernel
theorem dX8_sinksIt_27 : decode cX8_sinksIt 27 = .ok (.aload_n 0, 1) := by decide +kernel
theorem dX8_sinksIt_28 : decode cX8_sinksIt 28 = .ok (.getfield 367, 3) := by decide +kernel
theorem dX8_sinksIt_31 : decode cX8_sinksIt 31 = .ok (.isub, 1) := by decide +kernel
theorem dX8_sinksIt_32 : decode cX8_sinksIt 32 = .ok (.ireturn, 1) := by decide +kernel
theorem dX8_sinksIt_33 : decode cX8_sinksIt 33 = .ok (.aload_n 0, 1) := by decide +kernel
theorem dX8_sinksIt_34 : decode cX8_sinksIt 34 = .ok (.getfield 355, 3) := by decide +kernel
theorem dX8_sinksIt_37 : decode cX8_sinksIt 37 = .ok (.iconst 3, 1) := by decide +kernel
theorem dX8_sinksIt_38 : decode cX8_sinksIt 38 = .ok (.if_icmp .ne 26, 3) := by decide +kernel
theorem dX8_sinksIt_41 : decode cX8_sinksIt 41 = .ok (.aload_n 0, 1) := by decide +kernel
theorem dX8_sinksIt_42 : decode cX8_sinksIt 42 = .ok (.bipush 41, 2) := by decide +kernel
theorem dX8_sinksIt_44 : decode cX8_sinksIt 44 = .ok (.invokevirtual 346, 3) := by decide +kernel
theorem dX8_sinksIt_47 : decode cX8_sinksIt 47 = .ok (.aload_n 0, 1) := by decide +kernel
theorem dX8_sinksIt_48 : decode cX8_sinksIt 48 = .ok (.iload_n 1, 1) := by decide +kernel
theorem dX8_sinksIt_49 : decode cX8_sinksIt 49 = .ok (.invokevirtual 364, 3) := by decide +kernel
theorem dX8_sinksIt_52 : decode cX8_sinksIt 52 = .ok (.istore_n 2, 1) := by decide +kernel
theorem dX8_sinksIt_53 : decode cX8_sinksIt 53 = .ok (.iload_n 2, 1) := by decide +kernel
theorem dX8_sinksIt_54 : decode cX8_sinksIt 54 = .ok (.aload_n 0, 1) := by decide +kernel
theorem dX8_sinksIt_55 : decode cX8_sinksIt 55 = .ok (.aload_n 0, 1) := by decide +kernel
theorem dX8_sinksIt_56 : decode cX8_sinksIt 56 = .ok (.getfield 349, 3) := by decide +kernel
theorem dX8_sinksIt_59 : decode cX8_sinksIt 59 = .ok (.invokevirtual 361, 3) := by decide +kernel
theorem dX8_sinksIt_62 : decode cX8_sinksIt 62 = .ok (.iadd, 1) := by decide +kernel
theorem dX8_sinksIt_63 : decode cX8_sinksIt 63 = .ok (.ireturn, 1) := by decide +kernel
theorem dX8_sinksIt_64 : decode cX8_sinksIt 64 = .ok (.aload_n 0, 1) := by decide +kernel
theorem dX8_sinksIt_65 : decode cX8_sinksIt 65 = .ok (.iload_n 1, 1) := by decide +kernel
theorem dX8_sinksIt_66 : decode cX8_sinksIt 66 = .ok (.invokevirtual 364, 3) := by decide +kernel
theorem dX8_sinksIt_69 : decode cX8_sinksIt 69 = .ok (.ireturn, 1) := by decide +kernel
theorem dX8_plainShares_0 : decode cX8_plainShares 0 = .ok (.aload_n 0, 1) := by decide +kernel
theorem dX8_plainShares_1 : decode cX8_plainShares 1 = .ok (.bipush 12, 2) := by decide +kernel
theorem dX8_plainShares_3 : decode cX8_plainShares 3 = .ok (.invokevirtual 346, 3) := by decide +kernel
theorem dX8_plainShares_6 : decode cX8_plainShares 6 = .ok (.aload_n 0, 1) := by decide +kernel
theorem dX8_plainShares_7 : decode cX8_plainShares 7 = .ok (.getfield 367, 3) := by decide +kernel
theorem dX8_plainShares_10 : decode cX8_plainShares 10 = .ok (.aload_n 0, 1) := by decide +kernel
theorem dX8_plainShares_11 : decode cX8_plainShares 11 = .ok (.getfield 349, 3) := by decide +kernel
theorem dX8_plainShares_14 : decode cX8_plainShares 14 = .ok (.if_icmp .ne 10, 3) := by decide +kernel
theorem dX8_plainShares_17 : decode cX8_plainShares 17 = .ok (.aload_n 0, 1) := by decide +kernel
theorem dX8_plainShares_18 : decode cX8_plainShares 18 = .ok (.iconst 1, 1) := by decide +kernel
theorem dX8_plainShares_19 : decode cX8_plainShares 19 = .ok (.putfield 370, 3) := by decide +kernel
theorem dX8_plainShares_22 : decode cX8_plainShares 22 = .ok (.iconst 0, 1) := by decide +kernel
theorem dX8_plainShares_23 : decode cX8_plainShares 23 = .ok (.ireturn, 1) := by decide +kernel
theorem dX8_plainShares_24 : decode cX8_plainShares 24 = .ok (.iload_n 1, 1) := by decide +kernel
theorem dX8_plainShares_25 : decode cX8_plainShares 25 = .ok (.aload_n 0, 1) := by decide +kernel
theorem dX8_plainShares_26 : decode cX8_plainShares 26 = .ok (.getfield 367, 3) := by decide +kernel
theorem dX8_plainShares_29 : decode cX8_plainShares 29 = .ok (.aload_n 0, 1) := by decide +kernel
theorem dX8_plainShares_30 : decode cX8_plainShares 30 = .ok (.getfield 349, 3) := by decide +kernel
theorem dX8_plainShares_33 : decode cX8_plainShares 33 = .ok (.isub, 1) := by decide +kernel
theorem dX8_plainShares_34 : decode cX8_plainShares 34 = .ok (.idiv, 1) := by decide +kernel
theorem dX8_plainShares_35 : decode cX8_plainShares 35 = .ok (.ireturn, 1) := by decide +kernel
theorem dX8_sharesIt_0 : decode cX8_sharesIt 0 = .ok (.aload_n 0, 1) := by decide +kernel
theorem dX8_sharesIt_1 : decode cX8_sharesIt 1 = .ok (.getfield 355, 3) := by decide +kernel
theorem dX8_sharesIt_4 : decode cX8_sharesIt 4 = .ok (.iconst 4, 1) := by decide +kernel
theorem dX8_sharesIt_5 : decode cX8_sharesIt 5 = .ok (.if_icmp .ne 19, 3) := by decide +kernel
theorem dX8_sharesIt_8 : decode cX8_sharesIt 8 = .ok (.aload_n 0, 1) := by decide +kernel
theorem dX8_sharesIt_9 : decode cX8_sharesIt 9 = .ok (.bipush 50, 2) := by decide +kernel
theorem dX8_sharesIt_11 : decode cX8_sharesIt 11 = .ok (.invokevirtual 346, 3) := by decide +kernel
theorem dX8_sharesIt_14 : decode cX8_sharesIt 14 = .ok (.aload_n 0, 1) := by decide +kernel
theorem dX8_sharesIt_15 : decode cX8_sharesIt 15 = .ok (.iload_n 1, 1) := by decide +kernel
theorem dX8_sharesIt_16 : decode cX8_sharesIt 16 = .ok (.iconst 2, 1) := by decide +kernel
theorem dX8_sharesIt_17 : decode cX8_sharesIt 17 = .ok (.iadd, 1) := by decide +kernel
theorem dX8_sharesIt_18 : decode cX8_sharesIt 18 = .ok (.invokevirtual 373, 3) := by decide +kernel
theorem dX8_sharesIt_21 : decode cX8_sharesIt 21 = .ok (.iconst 1, 1) := by decide +kernel
theorem dX8_sharesIt_22 : decode cX8_sharesIt 22 = .ok (.ixor, 1) := by decide +kernel
theorem dX8_sharesIt_23 : decode cX8_sharesIt 23 = .ok (.ireturn, 1) := by decide +kernel
theorem dX8_sharesIt_24 : decode cX8_sharesIt 24 = .ok (.aload_n 0, 1) := by decide +kernel
theorem dX8_sharesIt_25 : decode cX8_sharesIt 25 = .ok (.getfield 355, 3) := by decide +kernel
theorem dX8_sharesIt_28 : decode cX8_sharesIt 28 = .ok (.iconst 5, 1) := by decide +kernel
theorem dX8_sharesIt_29 : decode cX8_sharesIt 29 = .ok (.if_icmp .ne 37, 3) := by decide +kernel
theorem dX8_sharesIt_32 : decode cX8_sharesIt 32 = .ok (.aload_n 0, 1) := by decide +kernel
theorem dX8_sharesIt_33 : decode cX8_sharesIt 33 = .ok (.bipush 61, 2) := by decide +kernel
theorem dX8_sharesIt_35 : decode cX8_sharesIt 35 = .ok (.invokevirtual 346, 3) := by decide +kernel
theorem dX8_sharesIt_38 : decode cX8_sharesIt 38 = .ok (.aload_n 0, 1) := by decide +kernel
theorem dX8_sharesIt_39 : decode cX8_sharesIt 39 = .ok (.iload_n 1, 1) := by decide +kernel
theorem dX8_sharesIt_40 : decode cX8_sharesIt 40 = .ok (.invokevirtual 373, 3) := by decide +kernel
theorem dX8_sharesIt_43 : decode cX8_sharesIt 43 = .ok (.istore_n 2, 1) := by decide +kernel
theorem dX8_sharesIt_44 : decode cX8_sharesIt 44 = .ok (.aload_n 0, 1) := by decide +kernel
theorem dX8_sharesIt_45 : decode cX8_sharesIt 45 = .ok (.getfield 370, 3) := by decide +kernel
theorem dX8_sharesIt_48 : decode cX8_sharesIt 48 = .ok (.ifCond .eq 7, 3) := by decide +kernel
theorem dX8_sharesIt_51 : decode cX8_sharesIt 51 = .ok (.iconst 0, 1) := by decide +kernel
theorem dX8_sharesIt_52 : decode cX8_sharesIt 52 = .ok (.goto 13, 3) := by decide +kernel
theorem dX8_sharesIt_55 : decode cX8_sharesIt 55 = .ok (.iload_n 2, 1) := by decide +kernel
theorem dX8_sharesIt_56 : decode cX8_sharesIt 56 = .ok (.aload_n 0, 1) := by decide +kernel
theorem dX8_sharesIt_57 : decode cX8_sharesIt 57 = .ok (.aload_n 0, 1) := by decide +kernel
theorem dX8_sharesIt_58 : decode cX8_sharesIt 58 = .ok (.getfield 367, 3) := by decide +kernel
theorem dX8_sharesIt_61 : decode cX8_sharesIt 61 = .ok (.invokevirtual 361, 3) := by decide +kernel
theorem dX8_sharesIt_64 : decode cX8_sharesIt 64 = .ok (.iadd, 1) := by decide +kernel
theorem dX8_sharesIt_65 : decode cX8_sharesIt 65 = .ok (.ireturn, 1) := by decide +kernel
theorem dX8_sharesIt_66 : decode cX8_sharesIt 66 = .ok (.aload_n 0, 1) := by decide +kernel
theorem dX8_sharesIt_67 : decode cX8_sharesIt 67 = .ok (.iload_n 1, 1) := by decide +kernel
theorem dX8_sharesIt_68 : decode cX8_sharesIt 68 = .ok (.invokevirtual 373, 3) := by decide +kernel
theorem dX8_sharesIt_71 : decode cX8_sharesIt 71 = .ok (.ireturn, 1) := by decide +kernel
theorem dX8_plainTells_0 : decode cX8_plainTells 0 = .ok (.aload_n 0, 1) := by decide +kernel
theorem dX8_plainTells_1 : decode cX8_plainTells 1 = .ok (.bipush 13, 2) := by decide +kernel
theorem dX8_plainTells_3 : decode cX8_plainTells 3 = .ok (.invokevirtual 346, 3) := by decide +kernel
theorem dX8_plainTells_6 : decode cX8_plainTells 6 = .ok (.aload_n 0, 1) := by decide +kernel
theorem dX8_plainTells_7 : decode cX8_plainTells 7 = .ok (.iload_n 1, 1) := by decide +kernel
theorem dX8_plainTells_8 : decode cX8_plainTells 8 = .ok (.invokevirtual 376, 3) := by decide +kernel
theorem dX8_plainTells_11 : decode cX8_plainTells 11 = .ok (.aload_n 0, 1) := by decide +kernel
theorem dX8_plainTells_12 : decode cX8_plainTells 12 = .ok (.getfield 367, 3) := by decide +kernel
theorem dX8_plainTells_15 : decode cX8_plainTells 15 = .ok (.ixor, 1) := by decide +kernel
theorem dX8_plainTells_16 : decode cX8_plainTells 16 = .ok (.ireturn, 1) := by decide +kernel
theorem dX8_tellsIt_0 : decode cX8_tellsIt 0 = .ok (.aload_n 0, 1) := by decide +kernel
theorem dX8_tellsIt_1 : decode cX8_tellsIt 1 = .ok (.getfield 355, 3) := by decide +kernel
theorem dX8_tellsIt_4 : decode cX8_tellsIt 4 = .ok (.iconst 2, 1) := by decide +kernel
theorem dX8_tellsIt_5 : decode cX8_tellsIt 5 = .ok (.if_icmp .eq 11, 3) := by decide +kernel
theorem dX8_tellsIt_8 : decode cX8_tellsIt 8 = .ok (.aload_n 0, 1) := by decide +kernel
theorem dX8_tellsIt_9 : decode cX8_tellsIt 9 = .ok (.getfield 355, 3) := by decide +kernel
theorem dX8_tellsIt_12 : decode cX8_tellsIt 12 = .ok (.iconst 3, 1) := by decide +kernel
theorem dX8_tellsIt_13 : decode cX8_tellsIt 13 = .ok (.if_icmp .ne 26, 3) := by decide +kernel
theorem dX8_tellsIt_16 : decode cX8_tellsIt 16 = .ok (.aload_n 0, 1) := by decide +kernel
theorem dX8_tellsIt_17 : decode cX8_tellsIt 17 = .ok (.bipush 31, 2) := by decide +kernel
theorem dX8_tellsIt_19 : decode cX8_tellsIt 19 = .ok (.invokevirtual 346, 3) := by decide +kernel
theorem dX8_tellsIt_22 : decode cX8_tellsIt 22 = .ok (.aload_n 0, 1) := by decide +kernel
theorem dX8_tellsIt_23 : decode cX8_tellsIt 23 = .ok (.iload_n 1, 1) := by decide +kernel
theorem dX8_tellsIt_24 : decode cX8_tellsIt 24 = .ok (.invokevirtual 379, 3) := by decide +kernel
theorem dX8_tellsIt_27 : decode cX8_tellsIt 27 = .ok (.istore_n 2, 1) := by decide +kernel
theorem dX8_tellsIt_28 : decode cX8_tellsIt 28 = .ok (.iload_n 2, 1) := by decide +kernel
theorem dX8_tellsIt_29 : decode cX8_tellsIt 29 = .ok (.aload_n 0, 1) := by decide +kernel
theorem dX8_tellsIt_30 : decode cX8_tellsIt 30 = .ok (.aload_n 0, 1) := by decide +kernel
theorem dX8_tellsIt_31 : decode cX8_tellsIt 31 = .ok (.getfield 349, 3) := by decide +kernel
theorem dX8_tellsIt_34 : decode cX8_tellsIt 34 = .ok (.invokevirtual 382, 3) := by decide +kernel
theorem dX8_tellsIt_37 : decode cX8_tellsIt 37 = .ok (.iadd, 1) := by decide +kernel
theorem dX8_tellsIt_38 : decode cX8_tellsIt 38 = .ok (.ireturn, 1) := by decide +kernel
theorem dX8_tellsIt_39 : decode cX8_tellsIt 39 = .ok (.aload_n 0, 1) := by decide +kernel
theorem dX8_tellsIt_40 : decode cX8_tellsIt 40 = .ok (.getfield 355, 3) := by decide +kernel
theorem dX8_tellsIt_43 : decode cX8_tellsIt 43 = .ok (.iconst 5, 1) := by decide +kernel
theorem dX8_tellsIt_44 : decode cX8_tellsIt 44 = .ok (.if_icmp .ne 17, 3) := by decide +kernel
theorem dX8_tellsIt_47 : decode cX8_tellsIt 47 = .ok (.aload_n 0, 1) := by decide +kernel
theorem dX8_tellsIt_48 : decode cX8_tellsIt 48 = .ok (.bipush 60, 2) := by decide +kernel
theorem dX8_tellsIt_50 : decode cX8_tellsIt 50 = .ok (.invokevirtual 346, 3) := by decide +kernel
theorem dX8_tellsIt_53 : decode cX8_tellsIt 53 = .ok (.aload_n 0, 1) := by decide +kernel
theorem dX8_tellsIt_54 : decode cX8_tellsIt 54 = .ok (.iload_n 1, 1) := by decide +kernel
theorem dX8_tellsIt_55 : decode cX8_tellsIt 55 = .ok (.invokevirtual 379, 3) := by decide +kernel
theorem dX8_tellsIt_58 : decode cX8_tellsIt 58 = .ok (.iconst 2, 1) := by decide +kernel
theorem dX8_tellsIt_59 : decode cX8_tellsIt 59 = .ok (.imul, 1) := by decide +kernel
theorem dX8_tellsIt_60 : decode cX8_tellsIt 60 = .ok (.ireturn, 1) := by decide +kernel
theorem dX8_tellsIt_61 : decode cX8_tellsIt 61 = .ok (.aload_n 0, 1) := by decide +kernel
theorem dX8_tellsIt_62 : decode cX8_tellsIt 62 = .ok (.iload_n 1, 1) := by decide +kernel
theorem dX8_tellsIt_63 : decode cX8_tellsIt 63 = .ok (.invokevirtual 379, 3) := by decide +kernel
theorem dX8_tellsIt_66 : decode cX8_tellsIt 66 = .ok (.ireturn, 1) := by decide +kernel
theorem dX8_act_0 : decode cX8_act 0 = .ok (.aload_n 0, 1) := by decide +kernel
theorem dX8_act_1 : decode cX8_act 1 = .ok (.iconst 0, 1) := by decide +kernel
theorem dX8_act_2 : decode cX8_act 2 = .ok (.putfield 343, 3) := by decide +kernel
theorem dX8_act_5 : decode cX8_act 5 = .ok (.iload_n 1, 1) := by decide +kernel
theorem dX8_act_6 : decode cX8_act 6 = .ok (.invokestatic 324, 3) := by decide +kernel
theorem dX8_act_9 : decode cX8_act 9 = .ok (.ifCond .eq 11, 3) := by decide +kernel
theorem dX8_act_12 : decode cX8_act 12 = .ok (.aload_n 0, 1) := by decide +kernel
theorem dX8_act_13 : decode cX8_act 13 = .ok (.iload_n 1, 1) := by decide +kernel
theorem dX8_act_14 : decode cX8_act 14 = .ok (.invokevirtual 337, 3) := by decide +kernel
theorem dX8_act_17 : decode cX8_act 17 = .ok (.goto 4, 3) := by decide +kernel
theorem dX8_act_20 : decode cX8_act 20 = .ok (.iconst (-1), 1) := by decide +kernel
theorem dX8_act_21 : decode cX8_act 21 = .ok (.istore 4, 2) := by decide +kernel
theorem dX8_act_23 : decode cX8_act 23 = .ok (.iload_n 2, 1) := by decide +kernel
theorem dX8_act_24 : decode cX8_act 24 = .ok (.iconst 0, 1) := by decide +kernel
theorem dX8_act_25 : decode cX8_act 25 = .ok (.iconst 3, 1) := by decide +kernel
theorem dX8_act_26 : decode cX8_act 26 = .ok (.invokestatic 78, 3) := by decide +kernel
theorem dX8_act_29 : decode cX8_act 29 = .ok (.ifCond .eq 13, 3) := by decide +kernel
theorem dX8_act_32 : decode cX8_act 32 = .ok (.iload 4, 2) := by decide +kernel
theorem dX8_act_34 : decode cX8_act 34 = .ok (.iconst 0, 1) := by decide +kernel
theorem dX8_act_35 : decode cX8_act 35 = .ok (.iconst 5, 1) := by decide +kernel
theorem dX8_act_36 : decode cX8_act 36 = .ok (.invokestatic 78, 3) := by decide +kernel
theorem dX8_act_39 : decode cX8_act 39 = .ok (.ifCond .ne 5, 3) := by decide +kernel
theorem dX8_act_42 : decode cX8_act 42 = .ok (.iconst 0, 1) := by decide +kernel
theorem dX8_act_43 : decode cX8_act 43 = .ok (.ireturn, 1) := by decide +kernel
theorem dX8_act_44 : decode cX8_act 44 = .ok (.aload_n 0, 1) := by decide +kernel
theorem dX8_act_45 : decode cX8_act 45 = .ok (.iload 4, 2) := by decide +kernel
theorem dX8_act_47 : decode cX8_act 47 = .ok (.putfield 355, 3) := by decide +kernel
theorem dX8_act_50 : decode cX8_act 50 = .ok (.aload_n 0, 1) := by decide +kernel
theorem dX8_act_51 : decode cX8_act 51 = .ok (.aload_n 0, 1) := by decide +kernel
theorem dX8_act_52 : decode cX8_act 52 = .ok (.getfield 63, 3) := by decide +kernel
theorem dX8_act_55 : decode cX8_act 55 = .ok (.iload_n 1, 1) := by decide +kernel
theorem dX8_act_56 : decode cX8_act 56 = .ok (.iaload, 1) := by decide +kernel
theorem dX8_act_57 : decode cX8_act 57 = .ok (.putfield 349, 3) := by decide +kernel
theorem dX8_act_60 : decode cX8_act 60 = .ok (.aload_n 0, 1) := by decide +kernel
theorem dX8_act_61 : decode cX8_act 61 = .ok (.aload_n 0, 1) := by decide +kernel
theorem dX8_act_62 : decode cX8_act 62 = .ok (.getfield 20, 3) := by decide +kernel
theorem dX8_act_65 : decode cX8_act 65 = .ok (.aload_n 0, 1) := by decide +kernel
theorem dX8_act_66 : decode cX8_act 66 = .ok (.getfield 349, 3) := by decide +kernel
theorem dX8_act_69 : decode cX8_act 69 = .ok (.iaload, 1) := by decide +kernel
theorem dX8_act_70 : decode cX8_act 70 = .ok (.putfield 367, 3) := by decide +kernel
theorem dX8_act_73 : decode cX8_act 73 = .ok (.aload_n 0, 1) := by decide +kernel
theorem dX8_act_74 : decode cX8_act 74 = .ok (.iconst 0, 1) := by decide +kernel
theorem dX8_act_75 : decode cX8_act 75 = .ok (.putfield 370, 3) := by decide +kernel
theorem dX8_act_78 : decode cX8_act 78 = .ok (.iload_n 2, 1) := by decide +kernel
theorem dX8_act_79 : decode cX8_act 79 = .ok (.ifCond .ne 11, 3) := by decide +kernel
theorem dX8_act_82 : decode cX8_act 82 = .ok (.aload_n 0, 1) := by decide +kernel
theorem dX8_act_83 : decode cX8_act 83 = .ok (.iload_n 3, 1) := by decide +kernel
theorem dX8_act_84 : decode cX8_act 84 = .ok (.invokevirtual 361, 3) := by decide +kernel
theorem dX8_act_87 : decode cX8_act 87 = .ok (.goto 34, 3) := by decide +kernel
theorem dX8_act_90 : decode cX8_act 90 = .ok (.iload_n 2, 1) := by decide +kernel
theorem dX8_act_91 : decode cX8_act 91 = .ok (.iconst 1, 1) := by decide +kernel
theorem dX8_act_92 : decode cX8_act 92 = .ok (.if_icmp .ne 11, 3) := by decide +kernel
theorem dX8_act_95 : decode cX8_act 95 = .ok (.aload_n 0, 1) := by decide +kernel
theorem dX8_act_96 : decode cX8_act 96 = .ok (.iload_n 3, 1) := by decide +kernel
theorem dX8_act_97 : decode cX8_act 97 = .ok (.invokevirtual 376, 3) := by decide +kernel
theorem dX8_act_100 : decode cX8_act 100 = .ok (.goto 21, 3) := by decide +kernel
theorem dX8_act_103 : decode cX8_act 103 = .ok (.iload_n 2, 1) := by decide +kernel
theorem dX8_act_104 : decode cX8_act 104 = .ok (.iconst 2, 1) := by decide +kernel
theorem dX8_act_105 : decode cX8_act 105 = .ok (.if_icmp .ne 11, 3) := by decide +kernel
theorem dX8_act_108 : decode cX8_act 108 = .ok (.aload_n 0, 1) := by decide +kernel
theorem dX8_act_109 : decode cX8_act 109 = .ok (.iload_n 3, 1) := by decide +kernel
theorem dX8_act_110 : decode cX8_act 110 = .ok (.invokevirtual 382, 3) := by decide +kernel
theorem dX8_act_113 : decode cX8_act 113 = .ok (.goto 8, 3) := by decide +kernel
theorem dX8_act_116 : decode cX8_act 116 = .ok (.aload_n 0, 1) := by decide +kernel
theorem dX8_act_117 : decode cX8_act 117 = .ok (.iload_n 3, 1) := by decide +kernel
theorem dX8_act_118 : decode cX8_act 118 = .ok (.invokevirtual 385, 3) := by decide +kernel
theorem dX8_act_121 : decode cX8_act 121 = .ok (.istore 5, 2) := by decide +kernel
theorem dX8_act_123 : decode cX8_act 123 = .ok (.aload_n 0, 1) := by decide +kernel
theorem dX8_act_124 : decode cX8_act 124 = .ok (.getfield 370, 3) := by decide +kernel
theorem dX8_act_127 : decode cX8_act 127 = .ok (.ifCond .eq 8, 3) := by decide +kernel
theorem dX8_act_130 : decode cX8_act 130 = .ok (.bipush (-15), 2) := by decide +kernel
theorem dX8_act_132 : decode cX8_act 132 = .ok (.goto 5, 3) := by decide +kernel
theorem dX8_act_135 : decode cX8_act 135 = .ok (.iload 5, 2) := by decide +kernel
theorem dX8_act_137 : decode cX8_act 137 = .ok (.ireturn, 1) := by decide +kernel
theorem dX8_trace_0 : decode cX8_trace 0 = .ok (.iload_n 1, 1) := by decide +kernel
theorem dX8_trace_1 : decode cX8_trace 1 = .ok (.iconst 0, 1) := by decide +kernel
theorem dX8_trace_2 : decode cX8_trace 2 = .ok (.aload_n 0, 1) := by decide +kernel
theorem dX8_trace_3 : decode cX8_trace 3 = .ok (.getfield 343, 3) := by decide +kernel
theorem dX8_trace_6 : decode cX8_trace 6 = .ok (.iconst 1, 1) := by decide +kernel
theorem dX8_trace_7 : decode cX8_trace 7 = .ok (.isub, 1) := by decide +kernel
theorem dX8_trace_8 : decode cX8_trace 8 = .ok (.invokestatic 78, 3) := by decide +kernel
theorem dX8_trace_11 : decode cX8_trace 11 = .ok (.ifCond .eq 12, 3) := by decide +kernel
theorem dX8_trace_14 : decode cX8_trace 14 = .ok (.aload_n 0, 1) := by decide +kernel
theorem dX8_trace_15 : decode cX8_trace 15 = .ok (.getfield 69, 3) := by decide +kernel
theorem dX8_trace_18 : decode cX8_trace 18 = .ok (.iload_n 1, 1) := by decide +kernel
theorem dX8_trace_19 : decode cX8_trace 19 = .ok (.iaload, 1) := by decide +kernel
theorem dX8_trace_20 : decode cX8_trace 20 = .ok (.goto 5, 3) := by decide +kernel
theorem dX8_trace_23 : decode cX8_trace 23 = .ok (.bipush (-3), 2) := by decide +kernel
theorem dX8_trace_25 : decode cX8_trace 25 = .ok (.ireturn, 1) := by decide +kernel
theorem dX8_many_0 : decode cX8_many 0 = .ok (.iload_n 1, 1) := by decide +kernel
theorem dX8_many_1 : decode cX8_many 1 = .ok (.tableswitch 71 0 5 #[39, 44, 49, 56, 61, 66], 39) := by decide +kernel
theorem dX8_many_40 : decode cX8_many 40 = .ok (.aload_n 0, 1) := by decide +kernel
theorem dX8_many_41 : decode cX8_many 41 = .ok (.getfield 82, 3) := by decide +kernel
theorem dX8_many_44 : decode cX8_many 44 = .ok (.ireturn, 1) := by decide +kernel
theorem dX8_many_45 : decode cX8_many 45 = .ok (.aload_n 0, 1) := by decide +kernel
theorem dX8_many_46 : decode cX8_many 46 = .ok (.invokevirtual 307, 3) := by decide +kernel
theorem dX8_many_49 : decode cX8_many 49 = .ok (.ireturn, 1) := by decide +kernel
theorem dX8_many_50 : decode cX8_many 50 = .ok (.aload_n 0, 1) := by decide +kernel
theorem dX8_many_51 : decode cX8_many 51 = .ok (.getfield 23, 3) := by decide +kernel
theorem dX8_many_54 : decode cX8_many 54 = .ok (.iconst 0, 1) := by decide +kernel
theorem dX8_many_55 : decode cX8_many 55 = .ok (.iaload, 1) := by decide +kernel
theorem dX8_many_56 : decode cX8_many 56 = .ok (.ireturn, 1) := by decide +kernel
theorem dX8_many_57 : decode cX8_many 57 = .ok (.aload_n 0, 1) := by decide +kernel
theorem dX8_many_58 : decode cX8_many 58 = .ok (.getfield 202, 3) := by decide +kernel
theorem dX8_many_61 : decode cX8_many 61 = .ok (.ireturn, 1) := by decide +kernel
theorem dX8_many_62 : decode cX8_many 62 = .ok (.aload_n 0, 1) := by decide +kernel
theorem dX8_many_63 : decode cX8_many 63 = .ok (.getfield 88, 3) := by decide +kernel
theorem dX8_many_66 : decode cX8_many 66 = .ok (.ireturn, 1) := by decide +kernel
theorem dX8_many_67 : decode cX8_many 67 = .ok (.aload_n 0, 1) := by decide +kernel
theorem dX8_many_68 : decode cX8_many 68 = .ok (.getfield 343, 3) := by decide +kernel
theorem dX8_many_71 : decode cX8_many 71 = .ok (.ireturn, 1) := by decide +kernel
theorem dX8_many_72 : decode cX8_many 72 = .ok (.iconst (-1), 1) := by decide +kernel
theorem dX8_many_73 : decode cX8_many 73 = .ok (.ireturn, 1) := by decide +kernel
theorem dX8_moveRow_0 : decode cX8_moveRow 0 = .ok (.iconst 0, 1) := by decide +kernel
theorem dX8_moveRow_1 : decode cX8_moveRow 1 = .ok (.istore 4, 2) := by decide +kernel
theorem dX8_moveRow_3 : decode cX8_moveRow 3 = .ok (.iload 4, 2) := by decide +kernel
theorem dX8_moveRow_5 : decode cX8_moveRow 5 = .ok (.iload_n 2, 1) := by decide +kernel
theorem dX8_moveRow_6 : decode cX8_moveRow 6 = .ok (.if_icmp .ge 52, 3) := by decide +kernel
theorem dX8_moveRow_9 : decode cX8_moveRow 9 = .ok (.iload_n 3, 1) := by decide +kernel
theorem dX8_moveRow_10 : decode cX8_moveRow 10 = .ok (.ifCond .eq 19, 3) := by decide +kernel
theorem dX8_moveRow_13 : decode cX8_moveRow 13 = .ok (.aload_n 0, 1) := by decide +kernel
theorem dX8_moveRow_14 : decode cX8_moveRow 14 = .ok (.getfield 72, 3) := by decide +kernel
theorem dX8_moveRow_17 : decode cX8_moveRow 17 = .ok (.aload_n 0, 1) := by decide +kernel
theorem dX8_moveRow_18 : decode cX8_moveRow 18 = .ok (.getfield 388, 3) := by decide +kernel
theorem dX8_moveRow_21 : decode cX8_moveRow 21 = .ok (.aload_n 1, 1) := by decide +kernel
theorem dX8_moveRow_22 : decode cX8_moveRow 22 = .ok (.iload 4, 2) := by decide +kernel
theorem dX8_moveRow_24 : decode cX8_moveRow 24 = .ok (.iaload, 1) := by decide +kernel
theorem dX8_moveRow_25 : decode cX8_moveRow 25 = .ok (.iastore, 1) := by decide +kernel
theorem dX8_moveRow_26 : decode cX8_moveRow 26 = .ok (.goto 16, 3) := by decide +kernel
theorem dX8_moveRow_29 : decode cX8_moveRow 29 = .ok (.aload_n 1, 1) := by decide +kernel
theorem dX8_moveRow_30 : decode cX8_moveRow 30 = .ok (.iload 4, 2) := by decide +kernel
theorem dX8_moveRow_32 : decode cX8_moveRow 32 = .ok (.aload_n 0, 1) := by decide +kernel
theorem dX8_moveRow_33 : decode cX8_moveRow 33 = .ok (.getfield 72, 3) := by decide +kernel
theorem dX8_moveRow_36 : decode cX8_moveRow 36 = .ok (.aload_n 0, 1) := by decide +kernel
theorem dX8_moveRow_37 : decode cX8_moveRow 37 = .ok (.getfield 388, 3) := by decide +kernel
theorem dX8_moveRow_40 : decode cX8_moveRow 40 = .ok (.iaload, 1) := by decide +kernel
theorem dX8_moveRow_41 : decode cX8_moveRow 41 = .ok (.iastore, 1) := by decide +kernel
theorem dX8_moveRow_42 : decode cX8_moveRow 42 = .ok (.aload_n 0, 1) := by decide +kernel
theorem dX8_moveRow_43 : decode cX8_moveRow 43 = .ok (.dup, 1) := by decide +kernel
theorem dX8_moveRow_44 : decode cX8_moveRow 44 = .ok (.getfield 388, 3) := by decide +kernel
theorem dX8_moveRow_47 : decode cX8_moveRow 47 = .ok (.iconst 1, 1) := by decide +kernel
theorem dX8_moveRow_48 : decode cX8_moveRow 48 = .ok (.iadd, 1) := by decide +kernel
theorem dX8_moveRow_49 : decode cX8_moveRow 49 = .ok (.putfield 388, 3) := by decide +kernel
theorem dX8_moveRow_52 : decode cX8_moveRow 52 = .ok (.iinc 4 1, 3) := by decide +kernel
theorem dX8_moveRow_55 : decode cX8_moveRow 55 = .ok (.goto (-52), 3) := by decide +kernel
theorem dX8_moveRow_58 : decode cX8_moveRow 58 = .ok (.return_, 1) := by decide +kernel
theorem dX8_moveAll_0 : decode cX8_moveAll 0 = .ok (.aload_n 0, 1) := by decide +kernel
theorem dX8_moveAll_1 : decode cX8_moveAll 1 = .ok (.iconst 0, 1) := by decide +kernel
theorem dX8_moveAll_2 : decode cX8_moveAll 2 = .ok (.putfield 388, 3) := by decide +kernel
theorem dX8_moveAll_5 : decode cX8_moveAll 5 = .ok (.aload_n 0, 1) := by decide +kernel
theorem dX8_moveAll_6 : decode cX8_moveAll 6 = .ok (.getfield 75, 3) := by decide +kernel
theorem dX8_moveAll_9 : decode cX8_moveAll 9 = .ok (.iconst 0, 1) := by decide +kernel
theorem dX8_moveAll_10 : decode cX8_moveAll 10 = .ok (.aload_n 0, 1) := by decide +kernel
theorem dX8_moveAll_11 : decode cX8_moveAll 11 = .ok (.getfield 82, 3) := by decide +kernel
theorem dX8_moveAll_14 : decode cX8_moveAll 14 = .ok (.iastore, 1) := by decide +kernel
theorem dX8_moveAll_15 : decode cX8_moveAll 15 = .ok (.aload_n 0, 1) := by decide +kernel
theorem dX8_moveAll_16 : decode cX8_moveAll 16 = .ok (.getfield 75, 3) := by decide +kernel
theorem dX8_moveAll_19 : decode cX8_moveAll 19 = .ok (.iconst 1, 1) := by decide +kernel
theorem dX8_moveAll_20 : decode cX8_moveAll 20 = .ok (.aload_n 0, 1) := by decide +kernel
theorem dX8_moveAll_21 : decode cX8_moveAll 21 = .ok (.getfield 13, 3) := by decide +kernel
theorem dX8_moveAll_24 : decode cX8_moveAll 24 = .ok (.iastore, 1) := by decide +kernel
theorem dX8_moveAll_25 : decode cX8_moveAll 25 = .ok (.aload_n 0, 1) := by decide +kernel
theorem dX8_moveAll_26 : decode cX8_moveAll 26 = .ok (.getfield 75, 3) := by decide +kernel
theorem dX8_moveAll_29 : decode cX8_moveAll 29 = .ok (.iconst 2, 1) := by decide +kernel
theorem dX8_moveAll_30 : decode cX8_moveAll 30 = .ok (.aload_n 0, 1) := by decide +kernel
theorem dX8_moveAll_31 : decode cX8_moveAll 31 = .ok (.getfield 26, 3) := by decide +kernel
theorem dX8_moveAll_34 : decode cX8_moveAll 34 = .ok (.iastore, 1) := by decide +kernel
theorem dX8_moveAll_35 : decode cX8_moveAll 35 = .ok (.aload_n 0, 1) := by decide +kernel
theorem dX8_moveAll_36 : decode cX8_moveAll 36 = .ok (.aload_n 0, 1) := by decide +kernel
theorem dX8_moveAll_37 : decode cX8_moveAll 37 = .ok (.getfield 75, 3) := by decide +kernel
theorem dX8_moveAll_40 : decode cX8_moveAll 40 = .ok (.iconst 3, 1) := by decide +kernel
theorem dX8_moveAll_41 : decode cX8_moveAll 41 = .ok (.iload_n 1, 1) := by decide +kernel
theorem dX8_moveAll_42 : decode cX8_moveAll 42 = .ok (.invokevirtual 391, 3) := by decide +kernel
theorem dX8_moveAll_45 : decode cX8_moveAll 45 = .ok (.aload_n 0, 1) := by decide +kernel
theorem dX8_moveAll_46 : decode cX8_moveAll 46 = .ok (.aload_n 0, 1) := by decide +kernel
theorem dX8_moveAll_47 : decode cX8_moveAll 47 = .ok (.getfield 7, 3) := by decide +kernel
theorem dX8_moveAll_50 : decode cX8_moveAll 50 = .ok (.bipush 24, 2) := by decide +kernel
theorem dX8_moveAll_52 : decode cX8_moveAll 52 = .ok (.iload_n 1, 1) := by decide +kernel
theorem dX8_moveAll_53 : decode cX8_moveAll 53 = .ok (.invokevirtual 391, 3) := by decide +kernel
theorem dX8_moveAll_56 : decode cX8_moveAll 56 = .ok (.aload_n 0, 1) := by decide +kernel
theorem dX8_moveAll_57 : decode cX8_moveAll 57 = .ok (.aload_n 0, 1) := by decide +kernel
theorem dX8_moveAll_58 : decode cX8_moveAll 58 = .ok (.getfield 17, 3) := by decide +kernel
theorem dX8_moveAll_61 : decode cX8_moveAll 61 = .ok (.bipush 6, 2) := by decide +kernel
theorem dX8_moveAll_63 : decode cX8_moveAll 63 = .ok (.iload_n 1, 1) := by decide +kernel
theorem dX8_moveAll_64 : decode cX8_moveAll 64 = .ok (.invokevirtual 391, 3) := by decide +kernel
theorem dX8_moveAll_67 : decode cX8_moveAll 67 = .ok (.aload_n 0, 1) := by decide +kernel
theorem dX8_moveAll_68 : decode cX8_moveAll 68 = .ok (.aload_n 0, 1) := by decide +kernel
theorem dX8_moveAll_69 : decode cX8_moveAll 69 = .ok (.getfield 20, 3) := by decide +kernel
theorem dX8_moveAll_72 : decode cX8_moveAll 72 = .ok (.bipush 6, 2) := by decide +kernel
theorem dX8_moveAll_74 : decode cX8_moveAll 74 = .ok (.iload_n 1, 1) := by decide +kernel
theorem dX8_moveAll_75 : decode cX8_moveAll 75 = .ok (.invokevirtual 391, 3) := by decide +kernel
theorem dX8_moveAll_78 : decode cX8_moveAll 78 = .ok (.aload_n 0, 1) := by decide +kernel
theorem dX8_moveAll_79 : decode cX8_moveAll 79 = .ok (.aload_n 0, 1) := by decide +kernel
theorem dX8_moveAll_80 : decode cX8_moveAll 80 = .ok (.getfield 23, 3) := by decide +kernel
theorem dX8_moveAll_83 : decode cX8_moveAll 83 = .ok (.bipush 43, 2) := by decide +kernel
theorem dX8_moveAll_85 : decode cX8_moveAll 85 = .ok (.iload_n 1, 1) := by decide +kernel
theorem dX8_moveAll_86 : decode cX8_moveAll 86 = .ok (.invokevirtual 391, 3) := by decide +kernel
theorem dX8_moveAll_89 : decode cX8_moveAll 89 = .ok (.return_, 1) := by decide +kernel
theorem dX8_keep_0 : decode cX8_keep 0 = .ok (.aload_n 0, 1) := by decide +kernel
theorem dX8_keep_1 : decode cX8_keep 1 = .ok (.iconst 1, 1) := by decide +kernel
theorem dX8_keep_2 : decode cX8_keep 2 = .ok (.invokevirtual 395, 3) := by decide +kernel
theorem dX8_keep_5 : decode cX8_keep 5 = .ok (.aload_n 0, 1) := by decide +kernel
theorem dX8_keep_6 : decode cX8_keep 6 = .ok (.iconst 1, 1) := by decide +kernel
theorem dX8_keep_7 : decode cX8_keep 7 = .ok (.putfield 398, 3) := by decide +kernel
theorem dX8_keep_10 : decode cX8_keep 10 = .ok (.iconst 1, 1) := by decide +kernel
theorem dX8_keep_11 : decode cX8_keep 11 = .ok (.ireturn, 1) := by decide +kernel
theorem dX8_again_0 : decode cX8_again 0 = .ok (.aload_n 0, 1) := by decide +kernel
theorem dX8_again_1 : decode cX8_again 1 = .ok (.getfield 398, 3) := by decide +kernel
theorem dX8_again_4 : decode cX8_again 4 = .ok (.ifCond .ne 6, 3) := by decide +kernel
theorem dX8_again_7 : decode cX8_again 7 = .ok (.bipush (-3), 2) := by decide +kernel
theorem dX8_again_9 : decode cX8_again 9 = .ok (.ireturn, 1) := by decide +kernel
theorem dX8_again_10 : decode cX8_again 10 = .ok (.aload_n 0, 1) := by decide +kernel
theorem dX8_again_11 : decode cX8_again 11 = .ok (.iconst 0, 1) := by decide +kernel
theorem dX8_again_12 : decode cX8_again 12 = .ok (.invokevirtual 395, 3) := by decide +kernel
theorem dX8_again_15 : decode cX8_again 15 = .ok (.aload_n 0, 1) := by decide +kernel
theorem dX8_again_16 : decode cX8_again 16 = .ok (.aload_n 0, 1) := by decide +kernel
theorem dX8_again_17 : decode cX8_again 17 = .ok (.getfield 75, 3) := by decide +kernel
theorem dX8_again_20 : decode cX8_again 20 = .ok (.iconst 0, 1) := by decide +kernel
theorem dX8_again_21 : decode cX8_again 21 = .ok (.iaload, 1) := by decide +kernel
theorem dX8_again_22 : decode cX8_again 22 = .ok (.putfield 82, 3) := by decide +kernel
theorem dX8_again_25 : decode cX8_again 25 = .ok (.aload_n 0, 1) := by decide +kernel
theorem dX8_again_26 : decode cX8_again 26 = .ok (.aload_n 0, 1) := by decide +kernel
theorem dX8_again_27 : decode cX8_again 27 = .ok (.getfield 75, 3) := by decide +kernel
theorem dX8_again_30 : decode cX8_again 30 = .ok (.iconst 1, 1) := by decide +kernel
theorem dX8_again_31 : decode cX8_again 31 = .ok (.iaload, 1) := by decide +kernel
theorem dX8_again_32 : decode cX8_again 32 = .ok (.putfield 13, 3) := by decide +kernel
theorem dX8_again_35 : decode cX8_again 35 = .ok (.aload_n 0, 1) := by decide +kernel
theorem dX8_again_36 : decode cX8_again 36 = .ok (.aload_n 0, 1) := by decide +kernel
theorem dX8_again_37 : decode cX8_again 37 = .ok (.getfield 75, 3) := by decide +kernel
theorem dX8_again_40 : decode cX8_again 40 = .ok (.iconst 2, 1) := by decide +kernel
theorem dX8_again_41 : decode cX8_again 41 = .ok (.iaload, 1) := by decide +kernel
theorem dX8_again_42 : decode cX8_again 42 = .ok (.putfield 26, 3) := by decide +kernel
theorem dX8_again_45 : decode cX8_again 45 = .ok (.aload_n 0, 1) := by decide +kernel
theorem dX8_again_46 : decode cX8_again 46 = .ok (.getfield 23, 3) := by decide +kernel
theorem dX8_again_49 : decode cX8_again 49 = .ok (.iconst 0, 1) := by decide +kernel
theorem dX8_again_50 : decode cX8_again 50 = .ok (.iaload, 1) := by decide +kernel
theorem dX8_again_51 : decode cX8_again 51 = .ok (.ireturn, 1) := by decide +kernel
theorem dJ6_bitCount_0f7a4_0 : decode cJ6_bitCount_0f7a4 0 = .ok (.iload_n 0, 1) := by decide +kernel
theorem dJ6_bitCount_0f7a4_1 : decode cJ6_bitCount_0f7a4 1 = .ok (.iload_n 0, 1) := by decide +kernel
theorem dJ6_bitCount_0f7a4_2 : decode cJ6_bitCount_0f7a4 2 = .ok (.iconst 1, 1) := by decide +kernel
theorem dJ6_bitCount_0f7a4_3 : decode cJ6_bitCount_0f7a4 3 = .ok (.iushr, 1) := by decide +kernel
theorem dJ6_bitCount_0f7a4_4 : decode cJ6_bitCount_0f7a4 4 = .ok (.ldc_w 265, 3) := by decide +kernel
theorem dJ6_bitCount_0f7a4_7 : decode cJ6_bitCount_0f7a4 7 = .ok (.iand, 1) := by decide +kernel
theorem dJ6_bitCount_0f7a4_8 : decode cJ6_bitCount_0f7a4 8 = .ok (.isub, 1) := by decide +kernel
theorem dJ6_bitCount_0f7a4_9 : decode cJ6_bitCount_0f7a4 9 = .ok (.istore_n 0, 1) := by decide +kernel
theorem dJ6_bitCount_0f7a4_10 : decode cJ6_bitCount_0f7a4 10 = .ok (.iload_n 0, 1) := by decide +kernel
theorem dJ6_bitCount_0f7a4_11 : decode cJ6_bitCount_0f7a4 11 = .ok (.ldc_w 266, 3) := by decide +kernel
theorem dJ6_bitCount_0f7a4_14 : decode cJ6_bitCount_0f7a4 14 = .ok (.iand, 1) := by decide +kernel
theorem dJ6_bitCount_0f7a4_15 : decode cJ6_bitCount_0f7a4 15 = .ok (.iload_n 0, 1) := by decide +kernel
theorem dJ6_bitCount_0f7a4_16 : decode cJ6_bitCount_0f7a4 16 = .ok (.iconst 2, 1) := by decide +kernel
theorem dJ6_bitCount_0f7a4_17 : decode cJ6_bitCount_0f7a4 17 = .ok (.iushr, 1) := by decide +kernel
theorem dJ6_bitCount_0f7a4_18 : decode cJ6_bitCount_0f7a4 18 = .ok (.ldc_w 266, 3) := by decide +kernel
theorem dJ6_bitCount_0f7a4_21 : decode cJ6_bitCount_0f7a4 21 = .ok (.iand, 1) := by decide +kernel
theorem dJ6_bitCount_0f7a4_22 : decode cJ6_bitCount_0f7a4 22 = .ok (.iadd, 1) := by decide +kernel
theorem dJ6_bitCount_0f7a4_23 : decode cJ6_bitCount_0f7a4 23 = .ok (.istore_n 0, 1) := by decide +kernel
theorem dJ6_bitCount_0f7a4_24 : decode cJ6_bitCount_0f7a4 24 = .ok (.iload_n 0, 1) := by decide +kernel
theorem dJ6_bitCount_0f7a4_25 : decode cJ6_bitCount_0f7a4 25 = .ok (.iload_n 0, 1) := by decide +kernel
theorem dJ6_bitCount_0f7a4_26 : decode cJ6_bitCount_0f7a4 26 = .ok (.iconst 4, 1) := by decide +kernel
theorem dJ6_bitCount_0f7a4_27 : decode cJ6_bitCount_0f7a4 27 = .ok (.iushr, 1) := by decide +kernel
theorem dJ6_bitCount_0f7a4_28 : decode cJ6_bitCount_0f7a4 28 = .ok (.iadd, 1) := by decide +kernel
theorem dJ6_bitCount_0f7a4_29 : decode cJ6_bitCount_0f7a4 29 = .ok (.ldc_w 267, 3) := by decide +kernel
theorem dJ6_bitCount_0f7a4_32 : decode cJ6_bitCount_0f7a4 32 = .ok (.iand, 1) := by decide +kernel
theorem dJ6_bitCount_0f7a4_33 : decode cJ6_bitCount_0f7a4 33 = .ok (.istore_n 0, 1) := by decide +kernel
theorem dJ6_bitCount_0f7a4_34 : decode cJ6_bitCount_0f7a4 34 = .ok (.iload_n 0, 1) := by decide +kernel
theorem dJ6_bitCount_0f7a4_35 : decode cJ6_bitCount_0f7a4 35 = .ok (.iload_n 0, 1) := by decide +kernel
theorem dJ6_bitCount_0f7a4_36 : decode cJ6_bitCount_0f7a4 36 = .ok (.bipush 8, 2) := by decide +kernel
theorem dJ6_bitCount_0f7a4_38 : decode cJ6_bitCount_0f7a4 38 = .ok (.iushr, 1) := by decide +kernel
theorem dJ6_bitCount_0f7a4_39 : decode cJ6_bitCount_0f7a4 39 = .ok (.iadd, 1) := by decide +kernel
theorem dJ6_bitCount_0f7a4_40 : decode cJ6_bitCount_0f7a4 40 = .ok (.istore_n 0, 1) := by decide +kernel
theorem dJ6_bitCount_0f7a4_41 : decode cJ6_bitCount_0f7a4 41 = .ok (.iload_n 0, 1) := by decide +kernel
theorem dJ6_bitCount_0f7a4_42 : decode cJ6_bitCount_0f7a4 42 = .ok (.iload_n 0, 1) := by decide +kernel
theorem dJ6_bitCount_0f7a4_43 : decode cJ6_bitCount_0f7a4 43 = .ok (.bipush 16, 2) := by decide +kernel
theorem dJ6_bitCount_0f7a4_45 : decode cJ6_bitCount_0f7a4 45 = .ok (.iushr, 1) := by decide +kernel
theorem dJ6_bitCount_0f7a4_46 : decode cJ6_bitCount_0f7a4 46 = .ok (.iadd, 1) := by decide +kernel
theorem dJ6_bitCount_0f7a4_47 : decode cJ6_bitCount_0f7a4 47 = .ok (.istore_n 0, 1) := by decide +kernel
theorem dJ6_bitCount_0f7a4_48 : decode cJ6_bitCount_0f7a4 48 = .ok (.iload_n 0, 1) := by decide +kernel
theorem dJ6_bitCount_0f7a4_49 : decode cJ6_bitCount_0f7a4 49 = .ok (.bipush 63, 2) := by decide +kernel
theorem dJ6_bitCount_0f7a4_51 : decode cJ6_bitCount_0f7a4 51 = .ok (.iand, 1) := by decide +kernel
theorem dJ6_bitCount_0f7a4_52 : decode cJ6_bitCount_0f7a4 52 = .ok (.ireturn, 1) := by decide +kernel
theorem dJ9_abs_0f7a4_0 : decode cJ9_abs_0f7a4 0 = .ok (.iload_n 0, 1) := by decide +kernel
theorem dJ9_abs_0f7a4_1 : decode cJ9_abs_0f7a4 1 = .ok (.ifCond .ge 8, 3) := by decide +kernel
theorem dJ9_abs_0f7a4_4 : decode cJ9_abs_0f7a4 4 = .ok (.iload_n 0, 1) := by decide +kernel
theorem dJ9_abs_0f7a4_5 : decode cJ9_abs_0f7a4 5 = .ok (.ineg, 1) := by decide +kernel
theorem dJ9_abs_0f7a4_6 : decode cJ9_abs_0f7a4 6 = .ok (.goto 4, 3) := by decide +kernel
theorem dJ9_abs_0f7a4_9 : decode cJ9_abs_0f7a4 9 = .ok (.iload_n 0, 1) := by decide +kernel
theorem dJ9_abs_0f7a4_10 : decode cJ9_abs_0f7a4 10 = .ok (.ireturn, 1) := by decide +kernel
theorem dJ9_max_7cf53_0 : decode cJ9_max_7cf53 0 = .ok (.iload_n 0, 1) := by decide +kernel
theorem dJ9_max_7cf53_1 : decode cJ9_max_7cf53 1 = .ok (.iload_n 1, 1) := by decide +kernel
theorem dJ9_max_7cf53_2 : decode cJ9_max_7cf53 2 = .ok (.if_icmp .lt 7, 3) := by decide +kernel
theorem dJ9_max_7cf53_5 : decode cJ9_max_7cf53 5 = .ok (.iload_n 0, 1) := by decide +kernel
theorem dJ9_max_7cf53_6 : decode cJ9_max_7cf53 6 = .ok (.goto 4, 3) := by decide +kernel
theorem dJ9_max_7cf53_9 : decode cJ9_max_7cf53 9 = .ok (.iload_n 1, 1) := by decide +kernel
theorem dJ9_max_7cf53_10 : decode cJ9_max_7cf53 10 = .ok (.ireturn, 1) := by decide +kernel
theorem dJ9_min_7cf53_0 : decode cJ9_min_7cf53 0 = .ok (.iload_n 0, 1) := by decide +kernel
theorem dJ9_min_7cf53_1 : decode cJ9_min_7cf53 1 = .ok (.iload_n 1, 1) := by decide +kernel
theorem dJ9_min_7cf53_2 : decode cJ9_min_7cf53 2 = .ok (.if_icmp .gt 7, 3) := by decide +kernel
theorem dJ9_min_7cf53_5 : decode cJ9_min_7cf53 5 = .ok (.iload_n 0, 1) := by decide +kernel
theorem dJ9_min_7cf53_6 : decode cJ9_min_7cf53 6 = .ok (.goto 4, 3) := by decide +kernel
theorem dJ9_min_7cf53_9 : decode cJ9_min_7cf53 9 = .ok (.iload_n 1, 1) := by decide +kernel
theorem dJ9_min_7cf53_10 : decode cJ9_min_7cf53 10 = .ok (.ireturn, 1) := by decide +kernel
theorem dJ0_length_8abf5_0 : decode cJ0_length_8abf5 0 = .ok (.aload_n 0, 1) := by decide +kernel
theorem dJ0_length_8abf5_1 : decode cJ0_length_8abf5 1 = .ok (.getfield 9, 3) := by decide +kernel
theorem dJ0_length_8abf5_4 : decode cJ0_length_8abf5 4 = .ok (.arraylength, 1) := by decide +kernel
theorem dJ0_length_8abf5_5 : decode cJ0_length_8abf5 5 = .ok (.aload_n 0, 1) := by decide +kernel
theorem dJ0_length_8abf5_6 : decode cJ0_length_8abf5 6 = .ok (.invokevirtual 335, 3) := by decide +kernel
theorem dJ0_length_8abf5_9 : decode cJ0_length_8abf5 9 = .ok (.ishr, 1) := by decide +kernel
theorem dJ0_length_8abf5_10 : decode cJ0_length_8abf5 10 = .ok (.ireturn, 1) := by decide +kernel
theorem dJ0_charAt_5068e_0 : decode cJ0_charAt_5068e 0 = .ok (.aload_n 0, 1) := by decide +kernel
theorem dJ0_charAt_5068e_1 : decode cJ0_charAt_5068e 1 = .ok (.invokevirtual 492, 3) := by decide +kernel
theorem dJ0_charAt_5068e_4 : decode cJ0_charAt_5068e 4 = .ok (.ifCond .eq 12, 3) := by decide +kernel
theorem dJ0_charAt_5068e_7 : decode cJ0_charAt_5068e 7 = .ok (.aload_n 0, 1) := by decide +kernel
theorem dJ0_charAt_5068e_8 : decode cJ0_charAt_5068e 8 = .ok (.getfield 9, 3) := by decide +kernel
theorem dJ0_charAt_5068e_11 : decode cJ0_charAt_5068e 11 = .ok (.iload_n 1, 1) := by decide +kernel
theorem dJ0_charAt_5068e_12 : decode cJ0_charAt_5068e 12 = .ok (.invokestatic 495, 3) := by decide +kernel
theorem dJ0_charAt_5068e_15 : decode cJ0_charAt_5068e 15 = .ok (.ireturn, 1) := by decide +kernel
theorem dJ0_charAt_5068e_16 : decode cJ0_charAt_5068e 16 = .ok (.aload_n 0, 1) := by decide +kernel
theorem dJ0_charAt_5068e_17 : decode cJ0_charAt_5068e 17 = .ok (.getfield 9, 3) := by decide +kernel
theorem dJ0_charAt_5068e_20 : decode cJ0_charAt_5068e 20 = .ok (.iload_n 1, 1) := by decide +kernel
theorem dJ0_charAt_5068e_21 : decode cJ0_charAt_5068e 21 = .ok (.invokestatic 498, 3) := by decide +kernel
theorem dJ0_charAt_5068e_24 : decode cJ0_charAt_5068e 24 = .ok (.ireturn, 1) := by decide +kernel
theorem dJ0_coder_7d493_0 : decode cJ0_coder_7d493 0 = .ok (.getstatic 38, 3) := by decide +kernel
theorem dJ0_coder_7d493_3 : decode cJ0_coder_7d493 3 = .ok (.ifCond .eq 10, 3) := by decide +kernel
theorem dJ0_coder_7d493_6 : decode cJ0_coder_7d493 6 = .ok (.aload_n 0, 1) := by decide +kernel
theorem dJ0_coder_7d493_7 : decode cJ0_coder_7d493 7 = .ok (.getfield 15, 3) := by decide +kernel
theorem dJ0_coder_7d493_10 : decode cJ0_coder_7d493 10 = .ok (.goto 4, 3) := by decide +kernel
theorem dJ0_coder_7d493_13 : decode cJ0_coder_7d493 13 = .ok (.iconst 1, 1) := by decide +kernel
theorem dJ0_coder_7d493_14 : decode cJ0_coder_7d493 14 = .ok (.ireturn, 1) := by decide +kernel
theorem dJ0_isLatin1_aae02_0 : decode cJ0_isLatin1_aae02 0 = .ok (.getstatic 38, 3) := by decide +kernel
theorem dJ0_isLatin1_aae02_3 : decode cJ0_isLatin1_aae02 3 = .ok (.ifCond .eq 14, 3) := by decide +kernel
theorem dJ0_isLatin1_aae02_6 : decode cJ0_isLatin1_aae02 6 = .ok (.aload_n 0, 1) := by decide +kernel
theorem dJ0_isLatin1_aae02_7 : decode cJ0_isLatin1_aae02 7 = .ok (.getfield 15, 3) := by decide +kernel
theorem dJ0_isLatin1_aae02_10 : decode cJ0_isLatin1_aae02 10 = .ok (.ifCond .ne 7, 3) := by decide +kernel
theorem dJ0_isLatin1_aae02_13 : decode cJ0_isLatin1_aae02 13 = .ok (.iconst 1, 1) := by decide +kernel
theorem dJ0_isLatin1_aae02_14 : decode cJ0_isLatin1_aae02 14 = .ok (.goto 4, 3) := by decide +kernel
theorem dJ0_isLatin1_aae02_17 : decode cJ0_isLatin1_aae02 17 = .ok (.iconst 0, 1) := by decide +kernel
theorem dJ0_isLatin1_aae02_18 : decode cJ0_isLatin1_aae02 18 = .ok (.ireturn, 1) := by decide +kernel
theorem dJ0_checkIndex_df160_0 : decode cJ0_checkIndex_df160 0 = .ok (.iload_n 0, 1) := by decide +kernel
theorem dJ0_checkIndex_df160_1 : decode cJ0_checkIndex_df160 1 = .ok (.iload_n 1, 1) := by decide +kernel
theorem dJ0_checkIndex_df160_2 : decode cJ0_checkIndex_df160 2 = .ok (.getstatic 1053, 3) := by decide +kernel
theorem dJ0_checkIndex_df160_5 : decode cJ0_checkIndex_df160 5 = .ok (.invokestatic 1059, 3) := by decide +kernel
theorem dJ0_checkIndex_df160_8 : decode cJ0_checkIndex_df160 8 = .ok (.pop, 1) := by decide +kernel
theorem dJ0_checkIndex_df160_9 : decode cJ0_checkIndex_df160 9 = .ok (.return_, 1) := by decide +kernel
theorem dJ1_charAt_3b067_0 : decode cJ1_charAt_3b067 0 = .ok (.iload_n 1, 1) := by decide +kernel
theorem dJ1_charAt_3b067_1 : decode cJ1_charAt_3b067 1 = .ok (.aload_n 0, 1) := by decide +kernel
theorem dJ1_charAt_3b067_2 : decode cJ1_charAt_3b067 2 = .ok (.arraylength, 1) := by decide +kernel
theorem dJ1_charAt_3b067_3 : decode cJ1_charAt_3b067 3 = .ok (.invokestatic 9, 3) := by decide +kernel
theorem dJ1_charAt_3b067_6 : decode cJ1_charAt_3b067 6 = .ok (.aload_n 0, 1) := by decide +kernel
theorem dJ1_charAt_3b067_7 : decode cJ1_charAt_3b067 7 = .ok (.iload_n 1, 1) := by decide +kernel
theorem dJ1_charAt_3b067_8 : decode cJ1_charAt_3b067 8 = .ok (.baload, 1) := by decide +kernel
theorem dJ1_charAt_3b067_9 : decode cJ1_charAt_3b067 9 = .ok (.sipush 255, 3) := by decide +kernel
theorem dJ1_charAt_3b067_12 : decode cJ1_charAt_3b067 12 = .ok (.iand, 1) := by decide +kernel
theorem dJ1_charAt_3b067_13 : decode cJ1_charAt_3b067 13 = .ok (.i2c, 1) := by decide +kernel
theorem dJ1_charAt_3b067_14 : decode cJ1_charAt_3b067 14 = .ok (.ireturn, 1) := by decide +kernel
theorem dJ2_getChar_3b067_0 : decode cJ2_getChar_3b067 0 = .ok (.getstatic 44, 3) := by decide +kernel
theorem dJ2_getChar_3b067_3 : decode cJ2_getChar_3b067 3 = .ok (.ifCond .ne 25, 3) := by decide +kernel
theorem dJ2_getChar_3b067_6 : decode cJ2_getChar_3b067 6 = .ok (.iload_n 1, 1) := by decide +kernel
theorem dJ2_getChar_3b067_7 : decode cJ2_getChar_3b067 7 = .ok (.ifCond .lt 11, 3) := by decide +kernel
theorem dJ2_getChar_3b067_10 : decode cJ2_getChar_3b067 10 = .ok (.iload_n 1, 1) := by decide +kernel
theorem dJ2_getChar_3b067_11 : decode cJ2_getChar_3b067 11 = .ok (.aload_n 0, 1) := by decide +kernel
theorem dJ2_getChar_3b067_12 : decode cJ2_getChar_3b067 12 = .ok (.invokestatic 48, 3) := by decide +kernel
theorem dJ2_getChar_3b067_15 : decode cJ2_getChar_3b067 15 = .ok (.if_icmp .lt 13, 3) := by decide +kernel
theorem dJ2_getChar_3b067_18 : decode cJ2_getChar_3b067 18 = .ok (.new 52, 3) := by decide +kernel
theorem dJ2_getChar_3b067_21 : decode cJ2_getChar_3b067 21 = .ok (.dup, 1) := by decide +kernel
theorem dJ2_getChar_3b067_22 : decode cJ2_getChar_3b067 22 = .ok (.ldc 54, 2) := by decide +kernel
theorem dJ2_getChar_3b067_24 : decode cJ2_getChar_3b067 24 = .ok (.invokespecial 56, 3) := by decide +kernel
theorem dJ2_getChar_3b067_27 : decode cJ2_getChar_3b067 27 = .ok (.athrow, 1) := by decide +kernel
theorem dJ2_getChar_3b067_28 : decode cJ2_getChar_3b067 28 = .ok (.iload_n 1, 1) := by decide +kernel
theorem dJ2_getChar_3b067_29 : decode cJ2_getChar_3b067 29 = .ok (.iconst 1, 1) := by decide +kernel
theorem dJ2_getChar_3b067_30 : decode cJ2_getChar_3b067 30 = .ok (.ishl, 1) := by decide +kernel
theorem dJ2_getChar_3b067_31 : decode cJ2_getChar_3b067 31 = .ok (.istore_n 1, 1) := by decide +kernel
theorem dJ2_getChar_3b067_32 : decode cJ2_getChar_3b067 32 = .ok (.aload_n 0, 1) := by decide +kernel
theorem dJ2_getChar_3b067_33 : decode cJ2_getChar_3b067 33 = .ok (.iload_n 1, 1) := by decide +kernel
theorem dJ2_getChar_3b067_34 : decode cJ2_getChar_3b067 34 = .ok (.iinc 1 1, 3) := by decide +kernel
theorem dJ2_getChar_3b067_37 : decode cJ2_getChar_3b067 37 = .ok (.baload, 1) := by decide +kernel
theorem dJ2_getChar_3b067_38 : decode cJ2_getChar_3b067 38 = .ok (.sipush 255, 3) := by decide +kernel
theorem dJ2_getChar_3b067_41 : decode cJ2_getChar_3b067 41 = .ok (.iand, 1) := by decide +kernel
theorem dJ2_getChar_3b067_42 : decode cJ2_getChar_3b067 42 = .ok (.getstatic 59, 3) := by decide +kernel
theorem dJ2_getChar_3b067_45 : decode cJ2_getChar_3b067 45 = .ok (.ishl, 1) := by decide +kernel
theorem dJ2_getChar_3b067_46 : decode cJ2_getChar_3b067 46 = .ok (.aload_n 0, 1) := by decide +kernel
theorem dJ2_getChar_3b067_47 : decode cJ2_getChar_3b067 47 = .ok (.iload_n 1, 1) := by decide +kernel
theorem dJ2_getChar_3b067_48 : decode cJ2_getChar_3b067 48 = .ok (.baload, 1) := by decide +kernel
theorem dJ2_getChar_3b067_49 : decode cJ2_getChar_3b067 49 = .ok (.sipush 255, 3) := by decide +kernel
theorem dJ2_getChar_3b067_52 : decode cJ2_getChar_3b067 52 = .ok (.iand, 1) := by decide +kernel
theorem dJ2_getChar_3b067_53 : decode cJ2_getChar_3b067 53 = .ok (.getstatic 63, 3) := by decide +kernel
theorem dJ2_getChar_3b067_56 : decode cJ2_getChar_3b067 56 = .ok (.ishl, 1) := by decide +kernel
theorem dJ2_getChar_3b067_57 : decode cJ2_getChar_3b067 57 = .ok (.ior, 1) := by decide +kernel
theorem dJ2_getChar_3b067_58 : decode cJ2_getChar_3b067 58 = .ok (.i2c, 1) := by decide +kernel
theorem dJ2_getChar_3b067_59 : decode cJ2_getChar_3b067 59 = .ok (.ireturn, 1) := by decide +kernel
theorem dJ2_length_9d52b_0 : decode cJ2_length_9d52b 0 = .ok (.aload_n 0, 1) := by decide +kernel
theorem dJ2_length_9d52b_1 : decode cJ2_length_9d52b 1 = .ok (.arraylength, 1) := by decide +kernel
theorem dJ2_length_9d52b_2 : decode cJ2_length_9d52b 2 = .ok (.iconst 1, 1) := by decide +kernel
theorem dJ2_length_9d52b_3 : decode cJ2_length_9d52b 3 = .ok (.ishr, 1) := by decide +kernel
theorem dJ2_length_9d52b_4 : decode cJ2_length_9d52b 4 = .ok (.ireturn, 1) := by decide +kernel
theorem dJ2_charAt_3b067_0 : decode cJ2_charAt_3b067 0 = .ok (.iload_n 1, 1) := by decide +kernel
theorem dJ2_charAt_3b067_1 : decode cJ2_charAt_3b067 1 = .ok (.aload_n 0, 1) := by decide +kernel
theorem dJ2_charAt_3b067_2 : decode cJ2_charAt_3b067 2 = .ok (.invokestatic 67, 3) := by decide +kernel
theorem dJ2_charAt_3b067_5 : decode cJ2_charAt_3b067 5 = .ok (.aload_n 0, 1) := by decide +kernel
theorem dJ2_charAt_3b067_6 : decode cJ2_charAt_3b067 6 = .ok (.iload_n 1, 1) := by decide +kernel
theorem dJ2_charAt_3b067_7 : decode cJ2_charAt_3b067 7 = .ok (.invokestatic 71, 3) := by decide +kernel
theorem dJ2_charAt_3b067_10 : decode cJ2_charAt_3b067 10 = .ok (.ireturn, 1) := by decide +kernel
theorem dJ2_checkIndex_2214a_0 : decode cJ2_checkIndex_2214a 0 = .ok (.iload_n 0, 1) := by decide +kernel
theorem dJ2_checkIndex_2214a_1 : decode cJ2_checkIndex_2214a 1 = .ok (.aload_n 1, 1) := by decide +kernel
theorem dJ2_checkIndex_2214a_2 : decode cJ2_checkIndex_2214a 2 = .ok (.invokestatic 48, 3) := by decide +kernel
theorem dJ2_checkIndex_2214a_5 : decode cJ2_checkIndex_2214a 5 = .ok (.invokestatic 414, 3) := by decide +kernel
theorem dJ2_checkIndex_2214a_8 : decode cJ2_checkIndex_2214a 8 = .ok (.return_, 1) := by decide +kernel
theorem dJ3_checkIndex_8e157_0 : decode cJ3_checkIndex_8e157 0 = .ok (.iload_n 0, 1) := by decide +kernel
theorem dJ3_checkIndex_8e157_1 : decode cJ3_checkIndex_8e157 1 = .ok (.ifCond .lt 8, 3) := by decide +kernel
theorem dJ3_checkIndex_8e157_4 : decode cJ3_checkIndex_8e157 4 = .ok (.iload_n 0, 1) := by decide +kernel
theorem dJ3_checkIndex_8e157_5 : decode cJ3_checkIndex_8e157 5 = .ok (.iload_n 1, 1) := by decide +kernel
theorem dJ3_checkIndex_8e157_6 : decode cJ3_checkIndex_8e157 6 = .ok (.if_icmp .lt 10, 3) := by decide +kernel
theorem dJ3_checkIndex_8e157_9 : decode cJ3_checkIndex_8e157 9 = .ok (.aload_n 2, 1) := by decide +kernel
theorem dJ3_checkIndex_8e157_10 : decode cJ3_checkIndex_8e157 10 = .ok (.iload_n 0, 1) := by decide +kernel
theorem dJ3_checkIndex_8e157_11 : decode cJ3_checkIndex_8e157 11 = .ok (.iload_n 1, 1) := by decide +kernel
theorem dJ3_checkIndex_8e157_12 : decode cJ3_checkIndex_8e157 12 = .ok (.invokestatic 95, 3) := by decide +kernel
theorem dJ3_checkIndex_8e157_15 : decode cJ3_checkIndex_8e157 15 = .ok (.athrow, 1) := by decide +kernel
theorem dJ3_checkIndex_8e157_16 : decode cJ3_checkIndex_8e157 16 = .ok (.iload_n 0, 1) := by decide +kernel
theorem dJ3_checkIndex_8e157_17 : decode cJ3_checkIndex_8e157 17 = .ok (.ireturn, 1) := by decide +kernel
theorem dL_law_0 : decode cL_law 0 = .ok (.new 7, 3) := by decide +kernel
theorem dL_law_3 : decode cL_law 3 = .ok (.dup, 1) := by decide +kernel
theorem dL_law_4 : decode cL_law 4 = .ok (.invokespecial 9, 3) := by decide +kernel
theorem dL_law_7 : decode cL_law 7 = .ok (.astore_n 1, 1) := by decide +kernel
theorem dL_law_8 : decode cL_law 8 = .ok (.new 10, 3) := by decide +kernel
theorem dL_law_11 : decode cL_law 11 = .ok (.dup, 1) := by decide +kernel
theorem dL_law_12 : decode cL_law 12 = .ok (.invokespecial 12, 3) := by decide +kernel
theorem dL_law_15 : decode cL_law 15 = .ok (.astore_n 2, 1) := by decide +kernel
theorem dL_law_16 : decode cL_law 16 = .ok (.iconst 0, 1) := by decide +kernel
theorem dL_law_17 : decode cL_law 17 = .ok (.istore_n 3, 1) := by decide +kernel
theorem dL_law_18 : decode cL_law 18 = .ok (.iload_n 3, 1) := by decide +kernel
theorem dL_law_19 : decode cL_law 19 = .ok (.aload_n 0, 1) := by decide +kernel
theorem dL_law_20 : decode cL_law 20 = .ok (.arraylength, 1) := by decide +kernel
theorem dL_law_21 : decode cL_law 21 = .ok (.iconst 5, 1) := by decide +kernel
theorem dL_law_22 : decode cL_law 22 = .ok (.isub, 1) := by decide +kernel
theorem dL_law_23 : decode cL_law 23 = .ok (.if_icmp .gt 1552, 3) := by decide +kernel
theorem dL_law_26 : decode cL_law 26 = .ok (.aload_n 0, 1) := by decide +kernel
theorem dL_law_27 : decode cL_law 27 = .ok (.iload_n 3, 1) := by decide +kernel
theorem dL_law_28 : decode cL_law 28 = .ok (.iaload, 1) := by decide +kernel
theorem dL_law_29 : decode cL_law 29 = .ok (.bipush 63, 2) := by decide +kernel
theorem dL_law_31 : decode cL_law 31 = .ok (.iand, 1) := by decide +kernel
theorem dL_law_32 : decode cL_law 32 = .ok (.tableswitch 1537 0 42 #[188, 251, 264, 297, 320, 343, 386, 419, 462, 505, 538, 591, 614, 647, 670, 693, 726, 749, 782, 815, 848, 881, 904, 927, 950, 963, 986, 1009, 1032, 1065, 1098, 1141, 1164, 1217, 1260, 1303, 1346, 1389, 1422, 1465, 1488, 1511, 1524], 188) := by decide +kernel
theorem dL_law_220 : decode cL_law 220 = .ok (.aload_n 1, 1) := by decide +kernel
theorem dL_law_221 : decode cL_law 221 = .ok (.aload_n 0, 1) := by decide +kernel
theorem dL_law_222 : decode cL_law 222 = .ok (.iload_n 3, 1) := by decide +kernel
theorem dL_law_223 : decode cL_law 223 = .ok (.iconst 1, 1) := by decide +kernel
theorem dL_law_224 : decode cL_law 224 = .ok (.iadd, 1) := by decide +kernel
theorem dL_law_225 : decode cL_law 225 = .ok (.iaload, 1) := by decide +kernel
theorem dL_law_226 : decode cL_law 226 = .ok (.i2l, 1) := by decide +kernel
theorem dL_law_227 : decode cL_law 227 = .ok (.bipush 32, 2) := by decide +kernel
theorem dL_law_229 : decode cL_law 229 = .ok (.lshl, 1) := by decide +kernel
theorem dL_law_230 : decode cL_law 230 = .ok (.aload_n 0, 1) := by decide +kernel
theorem dL_law_231 : decode cL_law 231 = .ok (.iload_n 3, 1) := by decide +kernel
theorem dL_law_232 : decode cL_law 232 = .ok (.iconst 2, 1) := by decide +kernel
theorem dL_law_233 : decode cL_law 233 = .ok (.iadd, 1) := by decide +kernel
theorem dL_law_234 : decode cL_law 234 = .ok (.iaload, 1) := by decide +kernel
theorem dL_law_235 : decode cL_law 235 = .ok (.i2l, 1) := by decide +kernel
theorem dL_law_236 : decode cL_law 236 = .ok (.ldc2_w 13, 3) := by decide +kernel
theorem dL_law_239 : decode cL_law 239 = .ok (.land, 1) := by decide +kernel
theorem dL_law_240 : decode cL_law 240 = .ok (.lor, 1) := by decide +kernel
theorem dL_law_241 : decode cL_law 241 = .ok (.aload_n 0, 1) := by decide +kernel
theorem dL_law_242 : decode cL_law 242 = .ok (.iload_n 3, 1) := by decide +kernel
theorem dL_law_243 : decode cL_law 243 = .ok (.iconst 3, 1) := by decide +kernel
theorem dL_law_244 : decode cL_law 244 = .ok (.iadd, 1) := by decide +kernel
theorem dL_law_245 : decode cL_law 245 = .ok (.iaload, 1) := by decide +kernel
theorem dL_law_246 : decode cL_law 246 = .ok (.invokevirtual 15, 3) := by decide +kernel
theorem dL_law_249 : decode cL_law 249 = .ok (.aload_n 2, 1) := by decide +kernel
theorem dL_law_250 : decode cL_law 250 = .ok (.aload_n 0, 1) := by decide +kernel
theorem dL_law_251 : decode cL_law 251 = .ok (.iload_n 3, 1) := by decide +kernel
theorem dL_law_252 : decode cL_law 252 = .ok (.iconst 1, 1) := by decide +kernel
theorem dL_law_253 : decode cL_law 253 = .ok (.iadd, 1) := by decide +kernel
theorem dL_law_254 : decode cL_law 254 = .ok (.iaload, 1) := by decide +kernel
theorem dL_law_255 : decode cL_law 255 = .ok (.i2l, 1) := by decide +kernel
theorem dL_law_256 : decode cL_law 256 = .ok (.bipush 32, 2) := by decide +kernel
theorem dL_law_258 : decode cL_law 258 = .ok (.lshl, 1) := by decide +kernel
theorem dL_law_259 : decode cL_law 259 = .ok (.aload_n 0, 1) := by decide +kernel
theorem dL_law_260 : decode cL_law 260 = .ok (.iload_n 3, 1) := by decide +kernel
theorem dL_law_261 : decode cL_law 261 = .ok (.iconst 2, 1) := by decide +kernel
theorem dL_law_262 : decode cL_law 262 = .ok (.iadd, 1) := by decide +kernel
theorem dL_law_263 : decode cL_law 263 = .ok (.iaload, 1) := by decide +kernel
theorem dL_law_264 : decode cL_law 264 = .ok (.i2l, 1) := by decide +kernel
theorem dL_law_265 : decode cL_law 265 = .ok (.ldc2_w 13, 3) := by decide +kernel
theorem dL_law_268 : decode cL_law 268 = .ok (.land, 1) := by decide +kernel
theorem dL_law_269 : decode cL_law 269 = .ok (.lor, 1) := by decide +kernel
theorem dL_law_270 : decode cL_law 270 = .ok (.aload_n 0, 1) := by decide +kernel
theorem dL_law_271 : decode cL_law 271 = .ok (.iload_n 3, 1) := by decide +kernel
theorem dL_law_272 : decode cL_law 272 = .ok (.iconst 3, 1) := by decide +kernel
theorem dL_law_273 : decode cL_law 273 = .ok (.iadd, 1) := by decide +kernel
theorem dL_law_274 : decode cL_law 274 = .ok (.iaload, 1) := by decide +kernel
theorem dL_law_275 : decode cL_law 275 = .ok (.invokevirtual 19, 3) := by decide +kernel
theorem dL_law_278 : decode cL_law 278 = .ok (.if_icmp .eq 1291, 3) := by decide +kernel
theorem dL_law_281 : decode cL_law 281 = .ok (.iconst 0, 1) := by decide +kernel
theorem dL_law_282 : decode cL_law 282 = .ok (.ireturn, 1) := by decide +kernel
theorem dL_law_283 : decode cL_law 283 = .ok (.aload_n 1, 1) := by decide +kernel
theorem dL_law_284 : decode cL_law 284 = .ok (.invokevirtual 20, 3) := by decide +kernel
theorem dL_law_287 : decode cL_law 287 = .ok (.aload_n 2, 1) := by decide +kernel
theorem dL_law_288 : decode cL_law 288 = .ok (.invokevirtual 24, 3) := by decide +kernel
theorem dL_law_291 : decode cL_law 291 = .ok (.if_icmp .eq 1278, 3) := by decide +kernel
theorem dL_law_294 : decode cL_law 294 = .ok (.iconst 0, 1) := by decide +kernel
theorem dL_law_295 : decode cL_law 295 = .ok (.ireturn, 1) := by decide +kernel
theorem dL_law_296 : decode cL_law 296 = .ok (.aload_n 1, 1) := by decide +kernel
theorem dL_law_297 : decode cL_law 297 = .ok (.aload_n 0, 1) := by decide +kernel
theorem dL_law_298 : decode cL_law 298 = .ok (.iload_n 3, 1) := by decide +kernel
theorem dL_law_299 : decode cL_law 299 = .ok (.iconst 1, 1) := by decide +kernel
theorem dL_law_300 : decode cL_law 300 = .ok (.iadd, 1) := by decide +kernel
theorem dL_law_301 : decode cL_law 301 = .ok (.iaload, 1) := by decide +kernel
theorem dL_law_302 : decode cL_law 302 = .ok (.aload_n 0, 1) := by decide +kernel
theorem dL_law_303 : decode cL_law 303 = .ok (.iload_n 3, 1) := by decide +kernel
theorem dL_law_304 : decode cL_law 304 = .ok (.iconst 2, 1) := by decide +kernel
theorem dL_law_305 : decode cL_law 305 = .ok (.iadd, 1) := by decide +kernel
theorem dL_law_306 : decode cL_law 306 = .ok (.iaload, 1) := by decide +kernel
theorem dL_law_307 : decode cL_law 307 = .ok (.invokevirtual 25, 3) := by decide +kernel
theorem dL_law_310 : decode cL_law 310 = .ok (.aload_n 2, 1) := by decide +kernel
theorem dL_law_311 : decode cL_law 311 = .ok (.aload_n 0, 1) := by decide +kernel
theorem dL_law_312 : decode cL_law 312 = .ok (.iload_n 3, 1) := by decide +kernel
theorem dL_law_313 : decode cL_law 313 = .ok (.iconst 1, 1) := by decide +kernel
theorem dL_law_314 : decode cL_law 314 = .ok (.iadd, 1) := by decide +kernel
theorem dL_law_315 : decode cL_law 315 = .ok (.iaload, 1) := by decide +kernel
theorem dL_law_316 : decode cL_law 316 = .ok (.aload_n 0, 1) := by decide +kernel
theorem dL_law_317 : decode cL_law 317 = .ok (.iload_n 3, 1) := by decide +kernel
theorem dL_law_318 : decode cL_law 318 = .ok (.iconst 2, 1) := by decide +kernel
theorem dL_law_319 : decode cL_law 319 = .ok (.iadd, 1) := by decide +kernel
theorem dL_law_320 : decode cL_law 320 = .ok (.iaload, 1) := by decide +kernel
theorem dL_law_321 : decode cL_law 321 = .ok (.invokevirtual 29, 3) := by decide +kernel
theorem dL_law_324 : decode cL_law 324 = .ok (.if_icmp .eq 1245, 3) := by decide +kernel
theorem dL_law_327 : decode cL_law 327 = .ok (.iconst 0, 1) := by decide +kernel
theorem dL_law_328 : decode cL_law 328 = .ok (.ireturn, 1) := by decide +kernel
theorem dL_law_329 : decode cL_law 329 = .ok (.aload_n 1, 1) := by decide +kernel
theorem dL_law_330 : decode cL_law 330 = .ok (.aload_n 0, 1) := by decide +kernel
theorem dL_law_331 : decode cL_law 331 = .ok (.iload_n 3, 1) := by decide +kernel
theorem dL_law_332 : decode cL_law 332 = .ok (.iconst 1, 1) := by decide +kernel
theorem dL_law_333 : decode cL_law 333 = .ok (.iadd, 1) := by decide +kernel
theorem dL_law_334 : decode cL_law 334 = .ok (.iaload, 1) := by decide +kernel
theorem dL_law_335 : decode cL_law 335 = .ok (.invokevirtual 30, 3) := by decide +kernel
theorem dL_law_338 : decode cL_law 338 = .ok (.aload_n 2, 1) := by decide +kernel
theorem dL_law_339 : decode cL_law 339 = .ok (.aload_n 0, 1) := by decide +kernel
theorem dL_law_340 : decode cL_law 340 = .ok (.iload_n 3, 1) := by decide +kernel
theorem dL_law_341 : decode cL_law 341 = .ok (.iconst 1, 1) := by decide +kernel
theorem dL_law_342 : decode cL_law 342 = .ok (.iadd, 1) := by decide +kernel
theorem dL_law_343 : decode cL_law 343 = .ok (.iaload, 1) := by decide +kernel
theorem dL_law_344 : decode cL_law 344 = .ok (.invokevirtual 34, 3) := by decide +kernel
theorem dL_law_347 : decode cL_law 347 = .ok (.if_icmp .eq 1222, 3) := by decide +kernel
theorem dL_law_350 : decode cL_law 350 = .ok (.iconst 0, 1) := by decide +kernel
theorem dL_law_351 : decode cL_law 351 = .ok (.ireturn, 1) := by decide +kernel
theorem dL_law_352 : decode cL_law 352 = .ok (.aload_n 1, 1) := by decide +kernel
theorem dL_law_353 : decode cL_law 353 = .ok (.aload_n 0, 1) := by decide +kernel
theorem dL_law_354 : decode cL_law 354 = .ok (.iload_n 3, 1) := by decide +kernel
theorem dL_law_355 : decode cL_law 355 = .ok (.iconst 1, 1) := by decide +kernel
theorem dL_law_356 : decode cL_law 356 = .ok (.iadd, 1) := by decide +kernel
theorem dL_law_357 : decode cL_law 357 = .ok (.iaload, 1) := by decide +kernel
theorem dL_law_358 : decode cL_law 358 = .ok (.invokevirtual 35, 3) := by decide +kernel
theorem dL_law_361 : decode cL_law 361 = .ok (.aload_n 2, 1) := by decide +kernel
theorem dL_law_362 : decode cL_law 362 = .ok (.aload_n 0, 1) := by decide +kernel
theorem dL_law_363 : decode cL_law 363 = .ok (.iload_n 3, 1) := by decide +kernel
theorem dL_law_364 : decode cL_law 364 = .ok (.iconst 1, 1) := by decide +kernel
theorem dL_law_365 : decode cL_law 365 = .ok (.iadd, 1) := by decide +kernel
theorem dL_law_366 : decode cL_law 366 = .ok (.iaload, 1) := by decide +kernel
theorem dL_law_367 : decode cL_law 367 = .ok (.invokevirtual 38, 3) := by decide +kernel
theorem dL_law_370 : decode cL_law 370 = .ok (.if_icmp .eq 1199, 3) := by decide +kernel
theorem dL_law_373 : decode cL_law 373 = .ok (.iconst 0, 1) := by decide +kernel
theorem dL_law_374 : decode cL_law 374 = .ok (.ireturn, 1) := by decide +kernel
theorem dL_law_375 : decode cL_law 375 = .ok (.aload_n 1, 1) := by decide +kernel
theorem dL_law_376 : decode cL_law 376 = .ok (.aload_n 0, 1) := by decide +kernel
theorem dL_law_377 : decode cL_law 377 = .ok (.iload_n 3, 1) := by decide +kernel
theorem dL_law_378 : decode cL_law 378 = .ok (.iconst 1, 1) := by decide +kernel
theorem dL_law_379 : decode cL_law 379 = .ok (.iadd, 1) := by decide +kernel
theorem dL_law_380 : decode cL_law 380 = .ok (.iaload, 1) := by decide +kernel
theorem dL_law_381 : decode cL_law 381 = .ok (.aload_n 0, 1) := by decide +kernel
theorem dL_law_382 : decode cL_law 382 = .ok (.iload_n 3, 1) := by decide +kernel
theorem dL_law_383 : decode cL_law 383 = .ok (.iconst 2, 1) := by decide +kernel
theorem dL_law_384 : decode cL_law 384 = .ok (.iadd, 1) := by decide +kernel
theorem dL_law_385 : decode cL_law 385 = .ok (.iaload, 1) := by decide +kernel
theorem dL_law_386 : decode cL_law 386 = .ok (.aload_n 0, 1) := by decide +kernel
theorem dL_law_387 : decode cL_law 387 = .ok (.iload_n 3, 1) := by decide +kernel
theorem dL_law_388 : decode cL_law 388 = .ok (.iconst 3, 1) := by decide +kernel
theorem dL_law_389 : decode cL_law 389 = .ok (.iadd, 1) := by decide +kernel
theorem dL_law_390 : decode cL_law 390 = .ok (.iaload, 1) := by decide +kernel
theorem dL_law_391 : decode cL_law 391 = .ok (.invokevirtual 39, 3) := by decide +kernel
theorem dL_law_394 : decode cL_law 394 = .ok (.aload_n 2, 1) := by decide +kernel
theorem dL_law_395 : decode cL_law 395 = .ok (.aload_n 0, 1) := by decide +kernel
theorem dL_law_396 : decode cL_law 396 = .ok (.iload_n 3, 1) := by decide +kernel
theorem dL_law_397 : decode cL_law 397 = .ok (.iconst 1, 1) := by decide +kernel
theorem dL_law_398 : decode cL_law 398 = .ok (.iadd, 1) := by decide +kernel
theorem dL_law_399 : decode cL_law 399 = .ok (.iaload, 1) := by decide +kernel
theorem dL_law_400 : decode cL_law 400 = .ok (.aload_n 0, 1) := by decide +kernel
theorem dL_law_401 : decode cL_law 401 = .ok (.iload_n 3, 1) := by decide +kernel
theorem dL_law_402 : decode cL_law 402 = .ok (.iconst 2, 1) := by decide +kernel
theorem dL_law_403 : decode cL_law 403 = .ok (.iadd, 1) := by decide +kernel
theorem dL_law_404 : decode cL_law 404 = .ok (.iaload, 1) := by decide +kernel
theorem dL_law_405 : decode cL_law 405 = .ok (.aload_n 0, 1) := by decide +kernel
theorem dL_law_406 : decode cL_law 406 = .ok (.iload_n 3, 1) := by decide +kernel
theorem dL_law_407 : decode cL_law 407 = .ok (.iconst 3, 1) := by decide +kernel
theorem dL_law_408 : decode cL_law 408 = .ok (.iadd, 1) := by decide +kernel
theorem dL_law_409 : decode cL_law 409 = .ok (.iaload, 1) := by decide +kernel
theorem dL_law_410 : decode cL_law 410 = .ok (.invokevirtual 43, 3) := by decide +kernel
theorem dL_law_413 : decode cL_law 413 = .ok (.if_icmp .eq 1156, 3) := by decide +kernel
theorem dL_law_416 : decode cL_law 416 = .ok (.iconst 0, 1) := by decide +kernel
theorem dL_law_417 : decode cL_law 417 = .ok (.ireturn, 1) := by decide +kernel
theorem dL_law_418 : decode cL_law 418 = .ok (.aload_n 1, 1) := by decide +kernel
theorem dL_law_419 : decode cL_law 419 = .ok (.aload_n 0, 1) := by decide +kernel
theorem dL_law_420 : decode cL_law 420 = .ok (.iload_n 3, 1) := by decide +kernel
theorem dL_law_421 : decode cL_law 421 = .ok (.iconst 1, 1) := by decide +kernel
theorem dL_law_422 : decode cL_law 422 = .ok (.iadd, 1) := by decide +kernel
theorem dL_law_423 : decode cL_law 423 = .ok (.iaload, 1) := by decide +kernel
theorem dL_law_424 : decode cL_law 424 = .ok (.aload_n 0, 1) := by decide +kernel
theorem dL_law_425 : decode cL_law 425 = .ok (.iload_n 3, 1) := by decide +kernel
theorem dL_law_426 : decode cL_law 426 = .ok (.iconst 2, 1) := by decide +kernel
theorem dL_law_427 : decode cL_law 427 = .ok (.iadd, 1) := by decide +kernel
theorem dL_law_428 : decode cL_law 428 = .ok (.iaload, 1) := by decide +kernel
theorem dL_law_429 : decode cL_law 429 = .ok (.invokevirtual 44, 3) := by decide +kernel
theorem dL_law_432 : decode cL_law 432 = .ok (.aload_n 2, 1) := by decide +kernel
theorem dL_law_433 : decode cL_law 433 = .ok (.aload_n 0, 1) := by decide +kernel
theorem dL_law_434 : decode cL_law 434 = .ok (.iload_n 3, 1) := by decide +kernel
theorem dL_law_435 : decode cL_law 435 = .ok (.iconst 1, 1) := by decide +kernel
theorem dL_law_436 : decode cL_law 436 = .ok (.iadd, 1) := by decide +kernel
theorem dL_law_437 : decode cL_law 437 = .ok (.iaload, 1) := by decide +kernel
theorem dL_law_438 : decode cL_law 438 = .ok (.aload_n 0, 1) := by decide +kernel
theorem dL_law_439 : decode cL_law 439 = .ok (.iload_n 3, 1) := by decide +kernel
theorem dL_law_440 : decode cL_law 440 = .ok (.iconst 2, 1) := by decide +kernel
theorem dL_law_441 : decode cL_law 441 = .ok (.iadd, 1) := by decide +kernel
theorem dL_law_442 : decode cL_law 442 = .ok (.iaload, 1) := by decide +kernel
theorem dL_law_443 : decode cL_law 443 = .ok (.invokevirtual 47, 3) := by decide +kernel
theorem dL_law_446 : decode cL_law 446 = .ok (.if_icmp .eq 1123, 3) := by decide +kernel
theorem dL_law_449 : decode cL_law 449 = .ok (.iconst 0, 1) := by decide +kernel
theorem dL_law_450 : decode cL_law 450 = .ok (.ireturn, 1) := by decide +kernel
theorem dL_law_451 : decode cL_law 451 = .ok (.aload_n 1, 1) := by decide +kernel
theorem dL_law_452 : decode cL_law 452 = .ok (.aload_n 0, 1) := by decide +kernel
theorem dL_law_453 : decode cL_law 453 = .ok (.iload_n 3, 1) := by decide +kernel
theorem dL_law_454 : decode cL_law 454 = .ok (.iconst 1, 1) := by decide +kernel
theorem dL_law_455 : decode cL_law 455 = .ok (.iadd, 1) := by decide +kernel
theorem dL_law_456 : decode cL_law 456 = .ok (.iaload, 1) := by decide +kernel
theorem dL_law_457 : decode cL_law 457 = .ok (.aload_n 0, 1) := by decide +kernel
theorem dL_law_458 : decode cL_law 458 = .ok (.iload_n 3, 1) := by decide +kernel
theorem dL_law_459 : decode cL_law 459 = .ok (.iconst 2, 1) := by decide +kernel
theorem dL_law_460 : decode cL_law 460 = .ok (.iadd, 1) := by decide +kernel
theorem dL_law_461 : decode cL_law 461 = .ok (.iaload, 1) := by decide +kernel
theorem dL_law_462 : decode cL_law 462 = .ok (.aload_n 0, 1) := by decide +kernel
theorem dL_law_463 : decode cL_law 463 = .ok (.iload_n 3, 1) := by decide +kernel
theorem dL_law_464 : decode cL_law 464 = .ok (.iconst 3, 1) := by decide +kernel
theorem dL_law_465 : decode cL_law 465 = .ok (.iadd, 1) := by decide +kernel
theorem dL_law_466 : decode cL_law 466 = .ok (.iaload, 1) := by decide +kernel
theorem dL_law_467 : decode cL_law 467 = .ok (.invokevirtual 48, 3) := by decide +kernel
theorem dL_law_470 : decode cL_law 470 = .ok (.aload_n 2, 1) := by decide +kernel
theorem dL_law_471 : decode cL_law 471 = .ok (.aload_n 0, 1) := by decide +kernel
theorem dL_law_472 : decode cL_law 472 = .ok (.iload_n 3, 1) := by decide +kernel
theorem dL_law_473 : decode cL_law 473 = .ok (.iconst 1, 1) := by decide +kernel
theorem dL_law_474 : decode cL_law 474 = .ok (.iadd, 1) := by decide +kernel
theorem dL_law_475 : decode cL_law 475 = .ok (.iaload, 1) := by decide +kernel
theorem dL_law_476 : decode cL_law 476 = .ok (.aload_n 0, 1) := by decide +kernel
theorem dL_law_477 : decode cL_law 477 = .ok (.iload_n 3, 1) := by decide +kernel
theorem dL_law_478 : decode cL_law 478 = .ok (.iconst 2, 1) := by decide +kernel
theorem dL_law_479 : decode cL_law 479 = .ok (.iadd, 1) := by decide +kernel
theorem dL_law_480 : decode cL_law 480 = .ok (.iaload, 1) := by decide +kernel
theorem dL_law_481 : decode cL_law 481 = .ok (.aload_n 0, 1) := by decide +kernel
theorem dL_law_482 : decode cL_law 482 = .ok (.iload_n 3, 1) := by decide +kernel
theorem dL_law_483 : decode cL_law 483 = .ok (.iconst 3, 1) := by decide +kernel
theorem dL_law_484 : decode cL_law 484 = .ok (.iadd, 1) := by decide +kernel
theorem dL_law_485 : decode cL_law 485 = .ok (.iaload, 1) := by decide +kernel
theorem dL_law_486 : decode cL_law 486 = .ok (.invokevirtual 51, 3) := by decide +kernel
theorem dL_law_489 : decode cL_law 489 = .ok (.if_icmp .eq 1080, 3) := by decide +kernel
theorem dL_law_492 : decode cL_law 492 = .ok (.iconst 0, 1) := by decide +kernel
theorem dL_law_493 : decode cL_law 493 = .ok (.ireturn, 1) := by decide +kernel
theorem dL_law_494 : decode cL_law 494 = .ok (.aload_n 1, 1) := by decide +kernel
theorem dL_law_495 : decode cL_law 495 = .ok (.aload_n 0, 1) := by decide +kernel
theorem dL_law_496 : decode cL_law 496 = .ok (.iload_n 3, 1) := by decide +kernel
theorem dL_law_497 : decode cL_law 497 = .ok (.iconst 1, 1) := by decide +kernel
theorem dL_law_498 : decode cL_law 498 = .ok (.iadd, 1) := by decide +kernel
theorem dL_law_499 : decode cL_law 499 = .ok (.iaload, 1) := by decide +kernel
theorem dL_law_500 : decode cL_law 500 = .ok (.aload_n 0, 1) := by decide +kernel
theorem dL_law_501 : decode cL_law 501 = .ok (.iload_n 3, 1) := by decide +kernel
theorem dL_law_502 : decode cL_law 502 = .ok (.iconst 2, 1) := by decide +kernel
theorem dL_law_503 : decode cL_law 503 = .ok (.iadd, 1) := by decide +kernel
theorem dL_law_504 : decode cL_law 504 = .ok (.iaload, 1) := by decide +kernel
theorem dL_law_505 : decode cL_law 505 = .ok (.aload_n 0, 1) := by decide +kernel
theorem dL_law_506 : decode cL_law 506 = .ok (.iload_n 3, 1) := by decide +kernel
theorem dL_law_507 : decode cL_law 507 = .ok (.iconst 3, 1) := by decide +kernel
theorem dL_law_508 : decode cL_law 508 = .ok (.iadd, 1) := by decide +kernel
theorem dL_law_509 : decode cL_law 509 = .ok (.iaload, 1) := by decide +kernel
theorem dL_law_510 : decode cL_law 510 = .ok (.invokevirtual 52, 3) := by decide +kernel
theorem dL_law_513 : decode cL_law 513 = .ok (.aload_n 2, 1) := by decide +kernel
theorem dL_law_514 : decode cL_law 514 = .ok (.aload_n 0, 1) := by decide +kernel
theorem dL_law_515 : decode cL_law 515 = .ok (.iload_n 3, 1) := by decide +kernel
theorem dL_law_516 : decode cL_law 516 = .ok (.iconst 1, 1) := by decide +kernel
theorem dL_law_517 : decode cL_law 517 = .ok (.iadd, 1) := by decide +kernel
theorem dL_law_518 : decode cL_law 518 = .ok (.iaload, 1) := by decide +kernel
theorem dL_law_519 : decode cL_law 519 = .ok (.aload_n 0, 1) := by decide +kernel
theorem dL_law_520 : decode cL_law 520 = .ok (.iload_n 3, 1) := by decide +kernel
theorem dL_law_521 : decode cL_law 521 = .ok (.iconst 2, 1) := by decide +kernel
theorem dL_law_522 : decode cL_law 522 = .ok (.iadd, 1) := by decide +kernel
theorem dL_law_523 : decode cL_law 523 = .ok (.iaload, 1) := by decide +kernel
theorem dL_law_524 : decode cL_law 524 = .ok (.aload_n 0, 1) := by decide +kernel
theorem dL_law_525 : decode cL_law 525 = .ok (.iload_n 3, 1) := by decide +kernel
theorem dL_law_526 : decode cL_law 526 = .ok (.iconst 3, 1) := by decide +kernel
theorem dL_law_527 : decode cL_law 527 = .ok (.iadd, 1) := by decide +kernel
theorem dL_law_528 : decode cL_law 528 = .ok (.iaload, 1) := by decide +kernel
theorem dL_law_529 : decode cL_law 529 = .ok (.invokevirtual 55, 3) := by decide +kernel
theorem dL_law_532 : decode cL_law 532 = .ok (.if_icmp .eq 1037, 3) := by decide +kernel
theorem dL_law_535 : decode cL_law 535 = .ok (.iconst 0, 1) := by decide +kernel
theorem dL_law_536 : decode cL_law 536 = .ok (.ireturn, 1) := by decide +kernel
theorem dL_law_537 : decode cL_law 537 = .ok (.aload_n 1, 1) := by decide +kernel
theorem dL_law_538 : decode cL_law 538 = .ok (.aload_n 0, 1) := by decide +kernel
theorem dL_law_539 : decode cL_law 539 = .ok (.iload_n 3, 1) := by decide +kernel
theorem dL_law_540 : decode cL_law 540 = .ok (.iconst 1, 1) := by decide +kernel
theorem dL_law_541 : decode cL_law 541 = .ok (.iadd, 1) := by decide +kernel
theorem dL_law_542 : decode cL_law 542 = .ok (.iaload, 1) := by decide +kernel
theorem dL_law_543 : decode cL_law 543 = .ok (.aload_n 0, 1) := by decide +kernel
theorem dL_law_544 : decode cL_law 544 = .ok (.iload_n 3, 1) := by decide +kernel
theorem dL_law_545 : decode cL_law 545 = .ok (.iconst 2, 1) := by decide +kernel
theorem dL_law_546 : decode cL_law 546 = .ok (.iadd, 1) := by decide +kernel
theorem dL_law_547 : decode cL_law 547 = .ok (.iaload, 1) := by decide +kernel
theorem dL_law_548 : decode cL_law 548 = .ok (.invokevirtual 56, 3) := by decide +kernel
theorem dL_law_551 : decode cL_law 551 = .ok (.aload_n 2, 1) := by decide +kernel
theorem dL_law_552 : decode cL_law 552 = .ok (.aload_n 0, 1) := by decide +kernel
theorem dL_law_553 : decode cL_law 553 = .ok (.iload_n 3, 1) := by decide +kernel
theorem dL_law_554 : decode cL_law 554 = .ok (.iconst 1, 1) := by decide +kernel
theorem dL_law_555 : decode cL_law 555 = .ok (.iadd, 1) := by decide +kernel
theorem dL_law_556 : decode cL_law 556 = .ok (.iaload, 1) := by decide +kernel
theorem dL_law_557 : decode cL_law 557 = .ok (.aload_n 0, 1) := by decide +kernel
theorem dL_law_558 : decode cL_law 558 = .ok (.iload_n 3, 1) := by decide +kernel
theorem dL_law_559 : decode cL_law 559 = .ok (.iconst 2, 1) := by decide +kernel
theorem dL_law_560 : decode cL_law 560 = .ok (.iadd, 1) := by decide +kernel
theorem dL_law_561 : decode cL_law 561 = .ok (.iaload, 1) := by decide +kernel
theorem dL_law_562 : decode cL_law 562 = .ok (.invokevirtual 59, 3) := by decide +kernel
theorem dL_law_565 : decode cL_law 565 = .ok (.if_icmp .eq 1004, 3) := by decide +kernel
theorem dL_law_568 : decode cL_law 568 = .ok (.iconst 0, 1) := by decide +kernel
theorem dL_law_569 : decode cL_law 569 = .ok (.ireturn, 1) := by decide +kernel
theorem dL_law_570 : decode cL_law 570 = .ok (.aload_n 1, 1) := by decide +kernel
theorem dL_law_571 : decode cL_law 571 = .ok (.aload_n 0, 1) := by decide +kernel
theorem dL_law_572 : decode cL_law 572 = .ok (.iload_n 3, 1) := by decide +kernel
theorem dL_law_573 : decode cL_law 573 = .ok (.iconst 1, 1) := by decide +kernel
theorem dL_law_574 : decode cL_law 574 = .ok (.iadd, 1) := by decide +kernel
theorem dL_law_575 : decode cL_law 575 = .ok (.iaload, 1) := by decide +kernel
theorem dL_law_576 : decode cL_law 576 = .ok (.aload_n 0, 1) := by decide +kernel
theorem dL_law_577 : decode cL_law 577 = .ok (.iload_n 3, 1) := by decide +kernel
theorem dL_law_578 : decode cL_law 578 = .ok (.iconst 2, 1) := by decide +kernel
theorem dL_law_579 : decode cL_law 579 = .ok (.iadd, 1) := by decide +kernel
theorem dL_law_580 : decode cL_law 580 = .ok (.iaload, 1) := by decide +kernel
theorem dL_law_581 : decode cL_law 581 = .ok (.aload_n 0, 1) := by decide +kernel
theorem dL_law_582 : decode cL_law 582 = .ok (.iload_n 3, 1) := by decide +kernel
theorem dL_law_583 : decode cL_law 583 = .ok (.iconst 3, 1) := by decide +kernel
theorem dL_law_584 : decode cL_law 584 = .ok (.iadd, 1) := by decide +kernel
theorem dL_law_585 : decode cL_law 585 = .ok (.iaload, 1) := by decide +kernel
theorem dL_law_586 : decode cL_law 586 = .ok (.aload_n 0, 1) := by decide +kernel
theorem dL_law_587 : decode cL_law 587 = .ok (.iload_n 3, 1) := by decide +kernel
theorem dL_law_588 : decode cL_law 588 = .ok (.iconst 4, 1) := by decide +kernel
theorem dL_law_589 : decode cL_law 589 = .ok (.iadd, 1) := by decide +kernel
theorem dL_law_590 : decode cL_law 590 = .ok (.iaload, 1) := by decide +kernel
theorem dL_law_591 : decode cL_law 591 = .ok (.invokevirtual 60, 3) := by decide +kernel
theorem dL_law_594 : decode cL_law 594 = .ok (.aload_n 2, 1) := by decide +kernel
theorem dL_law_595 : decode cL_law 595 = .ok (.aload_n 0, 1) := by decide +kernel
theorem dL_law_596 : decode cL_law 596 = .ok (.iload_n 3, 1) := by decide +kernel
theorem dL_law_597 : decode cL_law 597 = .ok (.iconst 1, 1) := by decide +kernel
theorem dL_law_598 : decode cL_law 598 = .ok (.iadd, 1) := by decide +kernel
theorem dL_law_599 : decode cL_law 599 = .ok (.iaload, 1) := by decide +kernel
theorem dL_law_600 : decode cL_law 600 = .ok (.aload_n 0, 1) := by decide +kernel
theorem dL_law_601 : decode cL_law 601 = .ok (.iload_n 3, 1) := by decide +kernel
theorem dL_law_602 : decode cL_law 602 = .ok (.iconst 2, 1) := by decide +kernel
theorem dL_law_603 : decode cL_law 603 = .ok (.iadd, 1) := by decide +kernel
theorem dL_law_604 : decode cL_law 604 = .ok (.iaload, 1) := by decide +kernel
theorem dL_law_605 : decode cL_law 605 = .ok (.aload_n 0, 1) := by decide +kernel
theorem dL_law_606 : decode cL_law 606 = .ok (.iload_n 3, 1) := by decide +kernel
theorem dL_law_607 : decode cL_law 607 = .ok (.iconst 3, 1) := by decide +kernel
theorem dL_law_608 : decode cL_law 608 = .ok (.iadd, 1) := by decide +kernel
theorem dL_law_609 : decode cL_law 609 = .ok (.iaload, 1) := by decide +kernel
theorem dL_law_610 : decode cL_law 610 = .ok (.aload_n 0, 1) := by decide +kernel
theorem dL_law_611 : decode cL_law 611 = .ok (.iload_n 3, 1) := by decide +kernel
theorem dL_law_612 : decode cL_law 612 = .ok (.iconst 4, 1) := by decide +kernel
theorem dL_law_613 : decode cL_law 613 = .ok (.iadd, 1) := by decide +kernel
theorem dL_law_614 : decode cL_law 614 = .ok (.iaload, 1) := by decide +kernel
theorem dL_law_615 : decode cL_law 615 = .ok (.invokevirtual 64, 3) := by decide +kernel
theorem dL_law_618 : decode cL_law 618 = .ok (.if_icmp .eq 951, 3) := by decide +kernel
theorem dL_law_621 : decode cL_law 621 = .ok (.iconst 0, 1) := by decide +kernel
theorem dL_law_622 : decode cL_law 622 = .ok (.ireturn, 1) := by decide +kernel
theorem dL_law_623 : decode cL_law 623 = .ok (.aload_n 1, 1) := by decide +kernel
theorem dL_law_624 : decode cL_law 624 = .ok (.aload_n 0, 1) := by decide +kernel
theorem dL_law_625 : decode cL_law 625 = .ok (.iload_n 3, 1) := by decide +kernel
theorem dL_law_626 : decode cL_law 626 = .ok (.iconst 1, 1) := by decide +kernel
theorem dL_law_627 : decode cL_law 627 = .ok (.iadd, 1) := by decide +kernel
theorem dL_law_628 : decode cL_law 628 = .ok (.iaload, 1) := by decide +kernel
theorem dL_law_629 : decode cL_law 629 = .ok (.invokevirtual 65, 3) := by decide +kernel
theorem dL_law_632 : decode cL_law 632 = .ok (.aload_n 2, 1) := by decide +kernel
theorem dL_law_633 : decode cL_law 633 = .ok (.aload_n 0, 1) := by decide +kernel
theorem dL_law_634 : decode cL_law 634 = .ok (.iload_n 3, 1) := by decide +kernel
theorem dL_law_635 : decode cL_law 635 = .ok (.iconst 1, 1) := by decide +kernel
theorem dL_law_636 : decode cL_law 636 = .ok (.iadd, 1) := by decide +kernel
theorem dL_law_637 : decode cL_law 637 = .ok (.iaload, 1) := by decide +kernel
theorem dL_law_638 : decode cL_law 638 = .ok (.invokevirtual 68, 3) := by decide +kernel
theorem dL_law_641 : decode cL_law 641 = .ok (.if_icmp .eq 928, 3) := by decide +kernel
theorem dL_law_644 : decode cL_law 644 = .ok (.iconst 0, 1) := by decide +kernel
theorem dL_law_645 : decode cL_law 645 = .ok (.ireturn, 1) := by decide +kernel
theorem dL_law_646 : decode cL_law 646 = .ok (.aload_n 1, 1) := by decide +kernel
theorem dL_law_647 : decode cL_law 647 = .ok (.aload_n 0, 1) := by decide +kernel
theorem dL_law_648 : decode cL_law 648 = .ok (.iload_n 3, 1) := by decide +kernel
theorem dL_law_649 : decode cL_law 649 = .ok (.iconst 1, 1) := by decide +kernel
theorem dL_law_650 : decode cL_law 650 = .ok (.iadd, 1) := by decide +kernel
theorem dL_law_651 : decode cL_law 651 = .ok (.iaload, 1) := by decide +kernel
theorem dL_law_652 : decode cL_law 652 = .ok (.aload_n 0, 1) := by decide +kernel
theorem dL_law_653 : decode cL_law 653 = .ok (.iload_n 3, 1) := by decide +kernel
theorem dL_law_654 : decode cL_law 654 = .ok (.iconst 2, 1) := by decide +kernel
theorem dL_law_655 : decode cL_law 655 = .ok (.iadd, 1) := by decide +kernel
theorem dL_law_656 : decode cL_law 656 = .ok (.iaload, 1) := by decide +kernel
theorem dL_law_657 : decode cL_law 657 = .ok (.invokevirtual 69, 3) := by decide +kernel
theorem dL_law_660 : decode cL_law 660 = .ok (.aload_n 2, 1) := by decide +kernel
theorem dL_law_661 : decode cL_law 661 = .ok (.aload_n 0, 1) := by decide +kernel
theorem dL_law_662 : decode cL_law 662 = .ok (.iload_n 3, 1) := by decide +kernel
theorem dL_law_663 : decode cL_law 663 = .ok (.iconst 1, 1) := by decide +kernel
theorem dL_law_664 : decode cL_law 664 = .ok (.iadd, 1) := by decide +kernel
theorem dL_law_665 : decode cL_law 665 = .ok (.iaload, 1) := by decide +kernel
theorem dL_law_666 : decode cL_law 666 = .ok (.aload_n 0, 1) := by decide +kernel
theorem dL_law_667 : decode cL_law 667 = .ok (.iload_n 3, 1) := by decide +kernel
theorem dL_law_668 : decode cL_law 668 = .ok (.iconst 2, 1) := by decide +kernel
theorem dL_law_669 : decode cL_law 669 = .ok (.iadd, 1) := by decide +kernel
theorem dL_law_670 : decode cL_law 670 = .ok (.iaload, 1) := by decide +kernel
theorem dL_law_671 : decode cL_law 671 = .ok (.invokevirtual 72, 3) := by decide +kernel
theorem dL_law_674 : decode cL_law 674 = .ok (.if_icmp .eq 895, 3) := by decide +kernel
theorem dL_law_677 : decode cL_law 677 = .ok (.iconst 0, 1) := by decide +kernel
theorem dL_law_678 : decode cL_law 678 = .ok (.ireturn, 1) := by decide +kernel
theorem dL_law_679 : decode cL_law 679 = .ok (.aload_n 1, 1) := by decide +kernel
theorem dL_law_680 : decode cL_law 680 = .ok (.aload_n 0, 1) := by decide +kernel
theorem dL_law_681 : decode cL_law 681 = .ok (.iload_n 3, 1) := by decide +kernel
theorem dL_law_682 : decode cL_law 682 = .ok (.iconst 1, 1) := by decide +kernel
theorem dL_law_683 : decode cL_law 683 = .ok (.iadd, 1) := by decide +kernel
theorem dL_law_684 : decode cL_law 684 = .ok (.iaload, 1) := by decide +kernel
theorem dL_law_685 : decode cL_law 685 = .ok (.invokevirtual 73, 3) := by decide +kernel
theorem dL_law_688 : decode cL_law 688 = .ok (.aload_n 2, 1) := by decide +kernel
theorem dL_law_689 : decode cL_law 689 = .ok (.aload_n 0, 1) := by decide +kernel
theorem dL_law_690 : decode cL_law 690 = .ok (.iload_n 3, 1) := by decide +kernel
theorem dL_law_691 : decode cL_law 691 = .ok (.iconst 1, 1) := by decide +kernel
theorem dL_law_692 : decode cL_law 692 = .ok (.iadd, 1) := by decide +kernel
theorem dL_law_693 : decode cL_law 693 = .ok (.iaload, 1) := by decide +kernel
theorem dL_law_694 : decode cL_law 694 = .ok (.invokevirtual 76, 3) := by decide +kernel
theorem dL_law_697 : decode cL_law 697 = .ok (.if_icmp .eq 872, 3) := by decide +kernel
theorem dL_law_700 : decode cL_law 700 = .ok (.iconst 0, 1) := by decide +kernel
theorem dL_law_701 : decode cL_law 701 = .ok (.ireturn, 1) := by decide +kernel
theorem dL_law_702 : decode cL_law 702 = .ok (.aload_n 1, 1) := by decide +kernel
theorem dL_law_703 : decode cL_law 703 = .ok (.aload_n 0, 1) := by decide +kernel
theorem dL_law_704 : decode cL_law 704 = .ok (.iload_n 3, 1) := by decide +kernel
theorem dL_law_705 : decode cL_law 705 = .ok (.iconst 1, 1) := by decide +kernel
theorem dL_law_706 : decode cL_law 706 = .ok (.iadd, 1) := by decide +kernel
theorem dL_law_707 : decode cL_law 707 = .ok (.iaload, 1) := by decide +kernel
theorem dL_law_708 : decode cL_law 708 = .ok (.invokevirtual 77, 3) := by decide +kernel
theorem dL_law_711 : decode cL_law 711 = .ok (.aload_n 2, 1) := by decide +kernel
theorem dL_law_712 : decode cL_law 712 = .ok (.aload_n 0, 1) := by decide +kernel
theorem dL_law_713 : decode cL_law 713 = .ok (.iload_n 3, 1) := by decide +kernel
theorem dL_law_714 : decode cL_law 714 = .ok (.iconst 1, 1) := by decide +kernel
theorem dL_law_715 : decode cL_law 715 = .ok (.iadd, 1) := by decide +kernel
theorem dL_law_716 : decode cL_law 716 = .ok (.iaload, 1) := by decide +kernel
theorem dL_law_717 : decode cL_law 717 = .ok (.invokevirtual 80, 3) := by decide +kernel
theorem dL_law_720 : decode cL_law 720 = .ok (.if_icmp .eq 849, 3) := by decide +kernel
theorem dL_law_723 : decode cL_law 723 = .ok (.iconst 0, 1) := by decide +kernel
theorem dL_law_724 : decode cL_law 724 = .ok (.ireturn, 1) := by decide +kernel
theorem dL_law_725 : decode cL_law 725 = .ok (.aload_n 1, 1) := by decide +kernel
theorem dL_law_726 : decode cL_law 726 = .ok (.aload_n 0, 1) := by decide +kernel
theorem dL_law_727 : decode cL_law 727 = .ok (.iload_n 3, 1) := by decide +kernel
theorem dL_law_728 : decode cL_law 728 = .ok (.iconst 1, 1) := by decide +kernel
theorem dL_law_729 : decode cL_law 729 = .ok (.iadd, 1) := by decide +kernel
theorem dL_law_730 : decode cL_law 730 = .ok (.iaload, 1) := by decide +kernel
theorem dL_law_731 : decode cL_law 731 = .ok (.aload_n 0, 1) := by decide +kernel
theorem dL_law_732 : decode cL_law 732 = .ok (.iload_n 3, 1) := by decide +kernel
theorem dL_law_733 : decode cL_law 733 = .ok (.iconst 2, 1) := by decide +kernel
theorem dL_law_734 : decode cL_law 734 = .ok (.iadd, 1) := by decide +kernel
theorem dL_law_735 : decode cL_law 735 = .ok (.iaload, 1) := by decide +kernel
theorem dL_law_736 : decode cL_law 736 = .ok (.invokevirtual 81, 3) := by decide +kernel
theorem dL_law_739 : decode cL_law 739 = .ok (.aload_n 2, 1) := by decide +kernel
theorem dL_law_740 : decode cL_law 740 = .ok (.aload_n 0, 1) := by decide +kernel
theorem dL_law_741 : decode cL_law 741 = .ok (.iload_n 3, 1) := by decide +kernel
theorem dL_law_742 : decode cL_law 742 = .ok (.iconst 1, 1) := by decide +kernel
theorem dL_law_743 : decode cL_law 743 = .ok (.iadd, 1) := by decide +kernel
theorem dL_law_744 : decode cL_law 744 = .ok (.iaload, 1) := by decide +kernel
theorem dL_law_745 : decode cL_law 745 = .ok (.aload_n 0, 1) := by decide +kernel
theorem dL_law_746 : decode cL_law 746 = .ok (.iload_n 3, 1) := by decide +kernel
theorem dL_law_747 : decode cL_law 747 = .ok (.iconst 2, 1) := by decide +kernel
theorem dL_law_748 : decode cL_law 748 = .ok (.iadd, 1) := by decide +kernel
theorem dL_law_749 : decode cL_law 749 = .ok (.iaload, 1) := by decide +kernel
theorem dL_law_750 : decode cL_law 750 = .ok (.invokevirtual 84, 3) := by decide +kernel
theorem dL_law_753 : decode cL_law 753 = .ok (.if_icmp .eq 816, 3) := by decide +kernel
theorem dL_law_756 : decode cL_law 756 = .ok (.iconst 0, 1) := by decide +kernel
theorem dL_law_757 : decode cL_law 757 = .ok (.ireturn, 1) := by decide +kernel
theorem dL_law_758 : decode cL_law 758 = .ok (.aload_n 1, 1) := by decide +kernel
theorem dL_law_759 : decode cL_law 759 = .ok (.aload_n 0, 1) := by decide +kernel
theorem dL_law_760 : decode cL_law 760 = .ok (.iload_n 3, 1) := by decide +kernel
theorem dL_law_761 : decode cL_law 761 = .ok (.iconst 1, 1) := by decide +kernel
theorem dL_law_762 : decode cL_law 762 = .ok (.iadd, 1) := by decide +kernel
theorem dL_law_763 : decode cL_law 763 = .ok (.iaload, 1) := by decide +kernel
theorem dL_law_764 : decode cL_law 764 = .ok (.invokevirtual 85, 3) := by decide +kernel
theorem dL_law_767 : decode cL_law 767 = .ok (.aload_n 2, 1) := by decide +kernel
theorem dL_law_768 : decode cL_law 768 = .ok (.aload_n 0, 1) := by decide +kernel
theorem dL_law_769 : decode cL_law 769 = .ok (.iload_n 3, 1) := by decide +kernel
theorem dL_law_770 : decode cL_law 770 = .ok (.iconst 1, 1) := by decide +kernel
theorem dL_law_771 : decode cL_law 771 = .ok (.iadd, 1) := by decide +kernel
theorem dL_law_772 : decode cL_law 772 = .ok (.iaload, 1) := by decide +kernel
theorem dL_law_773 : decode cL_law 773 = .ok (.invokevirtual 88, 3) := by decide +kernel
theorem dL_law_776 : decode cL_law 776 = .ok (.if_icmp .eq 793, 3) := by decide +kernel
theorem dL_law_779 : decode cL_law 779 = .ok (.iconst 0, 1) := by decide +kernel
theorem dL_law_780 : decode cL_law 780 = .ok (.ireturn, 1) := by decide +kernel
theorem dL_law_781 : decode cL_law 781 = .ok (.aload_n 1, 1) := by decide +kernel
theorem dL_law_782 : decode cL_law 782 = .ok (.aload_n 0, 1) := by decide +kernel
theorem dL_law_783 : decode cL_law 783 = .ok (.iload_n 3, 1) := by decide +kernel
theorem dL_law_784 : decode cL_law 784 = .ok (.iconst 1, 1) := by decide +kernel
theorem dL_law_785 : decode cL_law 785 = .ok (.iadd, 1) := by decide +kernel
theorem dL_law_786 : decode cL_law 786 = .ok (.iaload, 1) := by decide +kernel
theorem dL_law_787 : decode cL_law 787 = .ok (.aload_n 0, 1) := by decide +kernel
theorem dL_law_788 : decode cL_law 788 = .ok (.iload_n 3, 1) := by decide +kernel
theorem dL_law_789 : decode cL_law 789 = .ok (.iconst 2, 1) := by decide +kernel
theorem dL_law_790 : decode cL_law 790 = .ok (.iadd, 1) := by decide +kernel
theorem dL_law_791 : decode cL_law 791 = .ok (.iaload, 1) := by decide +kernel
theorem dL_law_792 : decode cL_law 792 = .ok (.invokevirtual 89, 3) := by decide +kernel
theorem dL_law_795 : decode cL_law 795 = .ok (.aload_n 2, 1) := by decide +kernel
theorem dL_law_796 : decode cL_law 796 = .ok (.aload_n 0, 1) := by decide +kernel
theorem dL_law_797 : decode cL_law 797 = .ok (.iload_n 3, 1) := by decide +kernel
theorem dL_law_798 : decode cL_law 798 = .ok (.iconst 1, 1) := by decide +kernel
theorem dL_law_799 : decode cL_law 799 = .ok (.iadd, 1) := by decide +kernel
theorem dL_law_800 : decode cL_law 800 = .ok (.iaload, 1) := by decide +kernel
theorem dL_law_801 : decode cL_law 801 = .ok (.aload_n 0, 1) := by decide +kernel
theorem dL_law_802 : decode cL_law 802 = .ok (.iload_n 3, 1) := by decide +kernel
theorem dL_law_803 : decode cL_law 803 = .ok (.iconst 2, 1) := by decide +kernel
theorem dL_law_804 : decode cL_law 804 = .ok (.iadd, 1) := by decide +kernel
theorem dL_law_805 : decode cL_law 805 = .ok (.iaload, 1) := by decide +kernel
theorem dL_law_806 : decode cL_law 806 = .ok (.invokevirtual 92, 3) := by decide +kernel
theorem dL_law_809 : decode cL_law 809 = .ok (.if_icmp .eq 760, 3) := by decide +kernel
theorem dL_law_812 : decode cL_law 812 = .ok (.iconst 0, 1) := by decide +kernel
theorem dL_law_813 : decode cL_law 813 = .ok (.ireturn, 1) := by decide +kernel
theorem dL_law_814 : decode cL_law 814 = .ok (.aload_n 1, 1) := by decide +kernel
theorem dL_law_815 : decode cL_law 815 = .ok (.aload_n 0, 1) := by decide +kernel
theorem dL_law_816 : decode cL_law 816 = .ok (.iload_n 3, 1) := by decide +kernel
theorem dL_law_817 : decode cL_law 817 = .ok (.iconst 1, 1) := by decide +kernel
theorem dL_law_818 : decode cL_law 818 = .ok (.iadd, 1) := by decide +kernel
theorem dL_law_819 : decode cL_law 819 = .ok (.iaload, 1) := by decide +kernel
theorem dL_law_820 : decode cL_law 820 = .ok (.aload_n 0, 1) := by decide +kernel
theorem dL_law_821 : decode cL_law 821 = .ok (.iload_n 3, 1) := by decide +kernel
theorem dL_law_822 : decode cL_law 822 = .ok (.iconst 2, 1) := by decide +kernel
theorem dL_law_823 : decode cL_law 823 = .ok (.iadd, 1) := by decide +kernel
theorem dL_law_824 : decode cL_law 824 = .ok (.iaload, 1) := by decide +kernel
theorem dL_law_825 : decode cL_law 825 = .ok (.invokevirtual 93, 3) := by decide +kernel
theorem dL_law_828 : decode cL_law 828 = .ok (.aload_n 2, 1) := by decide +kernel
theorem dL_law_829 : decode cL_law 829 = .ok (.aload_n 0, 1) := by decide +kernel
theorem dL_law_830 : decode cL_law 830 = .ok (.iload_n 3, 1) := by decide +kernel
theorem dL_law_831 : decode cL_law 831 = .ok (.iconst 1, 1) := by decide +kernel
theorem dL_law_832 : decode cL_law 832 = .ok (.iadd, 1) := by decide +kernel
theorem dL_law_833 : decode cL_law 833 = .ok (.iaload, 1) := by decide +kernel
theorem dL_law_834 : decode cL_law 834 = .ok (.aload_n 0, 1) := by decide +kernel
theorem dL_law_835 : decode cL_law 835 = .ok (.iload_n 3, 1) := by decide +kernel
theorem dL_law_836 : decode cL_law 836 = .ok (.iconst 2, 1) := by decide +kernel
theorem dL_law_837 : decode cL_law 837 = .ok (.iadd, 1) := by decide +kernel
theorem dL_law_838 : decode cL_law 838 = .ok (.iaload, 1) := by decide +kernel
theorem dL_law_839 : decode cL_law 839 = .ok (.invokevirtual 96, 3) := by decide +kernel
theorem dL_law_842 : decode cL_law 842 = .ok (.if_icmp .eq 727, 3) := by decide +kernel
theorem dL_law_845 : decode cL_law 845 = .ok (.iconst 0, 1) := by decide +kernel
theorem dL_law_846 : decode cL_law 846 = .ok (.ireturn, 1) := by decide +kernel
theorem dL_law_847 : decode cL_law 847 = .ok (.aload_n 1, 1) := by decide +kernel
theorem dL_law_848 : decode cL_law 848 = .ok (.aload_n 0, 1) := by decide +kernel
theorem dL_law_849 : decode cL_law 849 = .ok (.iload_n 3, 1) := by decide +kernel
theorem dL_law_850 : decode cL_law 850 = .ok (.iconst 1, 1) := by decide +kernel
theorem dL_law_851 : decode cL_law 851 = .ok (.iadd, 1) := by decide +kernel
theorem dL_law_852 : decode cL_law 852 = .ok (.iaload, 1) := by decide +kernel
theorem dL_law_853 : decode cL_law 853 = .ok (.aload_n 0, 1) := by decide +kernel
theorem dL_law_854 : decode cL_law 854 = .ok (.iload_n 3, 1) := by decide +kernel
theorem dL_law_855 : decode cL_law 855 = .ok (.iconst 2, 1) := by decide +kernel
theorem dL_law_856 : decode cL_law 856 = .ok (.iadd, 1) := by decide +kernel
theorem dL_law_857 : decode cL_law 857 = .ok (.iaload, 1) := by decide +kernel
theorem dL_law_858 : decode cL_law 858 = .ok (.invokevirtual 97, 3) := by decide +kernel
theorem dL_law_861 : decode cL_law 861 = .ok (.aload_n 2, 1) := by decide +kernel
theorem dL_law_862 : decode cL_law 862 = .ok (.aload_n 0, 1) := by decide +kernel
theorem dL_law_863 : decode cL_law 863 = .ok (.iload_n 3, 1) := by decide +kernel
theorem dL_law_864 : decode cL_law 864 = .ok (.iconst 1, 1) := by decide +kernel
theorem dL_law_865 : decode cL_law 865 = .ok (.iadd, 1) := by decide +kernel
theorem dL_law_866 : decode cL_law 866 = .ok (.iaload, 1) := by decide +kernel
theorem dL_law_867 : decode cL_law 867 = .ok (.aload_n 0, 1) := by decide +kernel
theorem dL_law_868 : decode cL_law 868 = .ok (.iload_n 3, 1) := by decide +kernel
theorem dL_law_869 : decode cL_law 869 = .ok (.iconst 2, 1) := by decide +kernel
theorem dL_law_870 : decode cL_law 870 = .ok (.iadd, 1) := by decide +kernel
theorem dL_law_871 : decode cL_law 871 = .ok (.iaload, 1) := by decide +kernel
theorem dL_law_872 : decode cL_law 872 = .ok (.invokevirtual 100, 3) := by decide +kernel
theorem dL_law_875 : decode cL_law 875 = .ok (.if_icmp .eq 694, 3) := by decide +kernel
theorem dL_law_878 : decode cL_law 878 = .ok (.iconst 0, 1) := by decide +kernel
theorem dL_law_879 : decode cL_law 879 = .ok (.ireturn, 1) := by decide +kernel
theorem dL_law_880 : decode cL_law 880 = .ok (.aload_n 1, 1) := by decide +kernel
theorem dL_law_881 : decode cL_law 881 = .ok (.aload_n 0, 1) := by decide +kernel
theorem dL_law_882 : decode cL_law 882 = .ok (.iload_n 3, 1) := by decide +kernel
theorem dL_law_883 : decode cL_law 883 = .ok (.iconst 1, 1) := by decide +kernel
theorem dL_law_884 : decode cL_law 884 = .ok (.iadd, 1) := by decide +kernel
theorem dL_law_885 : decode cL_law 885 = .ok (.iaload, 1) := by decide +kernel
theorem dL_law_886 : decode cL_law 886 = .ok (.aload_n 0, 1) := by decide +kernel
theorem dL_law_887 : decode cL_law 887 = .ok (.iload_n 3, 1) := by decide +kernel
theorem dL_law_888 : decode cL_law 888 = .ok (.iconst 2, 1) := by decide +kernel
theorem dL_law_889 : decode cL_law 889 = .ok (.iadd, 1) := by decide +kernel
theorem dL_law_890 : decode cL_law 890 = .ok (.iaload, 1) := by decide +kernel
theorem dL_law_891 : decode cL_law 891 = .ok (.invokevirtual 101, 3) := by decide +kernel
theorem dL_law_894 : decode cL_law 894 = .ok (.aload_n 2, 1) := by decide +kernel
theorem dL_law_895 : decode cL_law 895 = .ok (.aload_n 0, 1) := by decide +kernel
theorem dL_law_896 : decode cL_law 896 = .ok (.iload_n 3, 1) := by decide +kernel
theorem dL_law_897 : decode cL_law 897 = .ok (.iconst 1, 1) := by decide +kernel
theorem dL_law_898 : decode cL_law 898 = .ok (.iadd, 1) := by decide +kernel
theorem dL_law_899 : decode cL_law 899 = .ok (.iaload, 1) := by decide +kernel
theorem dL_law_900 : decode cL_law 900 = .ok (.aload_n 0, 1) := by decide +kernel
theorem dL_law_901 : decode cL_law 901 = .ok (.iload_n 3, 1) := by decide +kernel
theorem dL_law_902 : decode cL_law 902 = .ok (.iconst 2, 1) := by decide +kernel
theorem dL_law_903 : decode cL_law 903 = .ok (.iadd, 1) := by decide +kernel
theorem dL_law_904 : decode cL_law 904 = .ok (.iaload, 1) := by decide +kernel
theorem dL_law_905 : decode cL_law 905 = .ok (.invokevirtual 104, 3) := by decide +kernel
theorem dL_law_908 : decode cL_law 908 = .ok (.if_icmp .eq 661, 3) := by decide +kernel
theorem dL_law_911 : decode cL_law 911 = .ok (.iconst 0, 1) := by decide +kernel
theorem dL_law_912 : decode cL_law 912 = .ok (.ireturn, 1) := by decide +kernel
theorem dL_law_913 : decode cL_law 913 = .ok (.aload_n 1, 1) := by decide +kernel
theorem dL_law_914 : decode cL_law 914 = .ok (.aload_n 0, 1) := by decide +kernel
theorem dL_law_915 : decode cL_law 915 = .ok (.iload_n 3, 1) := by decide +kernel
theorem dL_law_916 : decode cL_law 916 = .ok (.iconst 1, 1) := by decide +kernel
theorem dL_law_917 : decode cL_law 917 = .ok (.iadd, 1) := by decide +kernel
theorem dL_law_918 : decode cL_law 918 = .ok (.iaload, 1) := by decide +kernel
theorem dL_law_919 : decode cL_law 919 = .ok (.invokevirtual 105, 3) := by decide +kernel
theorem dL_law_922 : decode cL_law 922 = .ok (.aload_n 2, 1) := by decide +kernel
theorem dL_law_923 : decode cL_law 923 = .ok (.aload_n 0, 1) := by decide +kernel
theorem dL_law_924 : decode cL_law 924 = .ok (.iload_n 3, 1) := by decide +kernel
theorem dL_law_925 : decode cL_law 925 = .ok (.iconst 1, 1) := by decide +kernel
theorem dL_law_926 : decode cL_law 926 = .ok (.iadd, 1) := by decide +kernel
theorem dL_law_927 : decode cL_law 927 = .ok (.iaload, 1) := by decide +kernel
theorem dL_law_928 : decode cL_law 928 = .ok (.invokevirtual 108, 3) := by decide +kernel
theorem dL_law_931 : decode cL_law 931 = .ok (.if_icmp .eq 638, 3) := by decide +kernel
theorem dL_law_934 : decode cL_law 934 = .ok (.iconst 0, 1) := by decide +kernel
theorem dL_law_935 : decode cL_law 935 = .ok (.ireturn, 1) := by decide +kernel
theorem dL_law_936 : decode cL_law 936 = .ok (.aload_n 1, 1) := by decide +kernel
theorem dL_law_937 : decode cL_law 937 = .ok (.aload_n 0, 1) := by decide +kernel
theorem dL_law_938 : decode cL_law 938 = .ok (.iload_n 3, 1) := by decide +kernel
theorem dL_law_939 : decode cL_law 939 = .ok (.iconst 1, 1) := by decide +kernel
theorem dL_law_940 : decode cL_law 940 = .ok (.iadd, 1) := by decide +kernel
theorem dL_law_941 : decode cL_law 941 = .ok (.iaload, 1) := by decide +kernel
theorem dL_law_942 : decode cL_law 942 = .ok (.invokevirtual 109, 3) := by decide +kernel
theorem dL_law_945 : decode cL_law 945 = .ok (.aload_n 2, 1) := by decide +kernel
theorem dL_law_946 : decode cL_law 946 = .ok (.aload_n 0, 1) := by decide +kernel
theorem dL_law_947 : decode cL_law 947 = .ok (.iload_n 3, 1) := by decide +kernel
theorem dL_law_948 : decode cL_law 948 = .ok (.iconst 1, 1) := by decide +kernel
theorem dL_law_949 : decode cL_law 949 = .ok (.iadd, 1) := by decide +kernel
theorem dL_law_950 : decode cL_law 950 = .ok (.iaload, 1) := by decide +kernel
theorem dL_law_951 : decode cL_law 951 = .ok (.invokevirtual 112, 3) := by decide +kernel
theorem dL_law_954 : decode cL_law 954 = .ok (.if_icmp .eq 615, 3) := by decide +kernel
theorem dL_law_957 : decode cL_law 957 = .ok (.iconst 0, 1) := by decide +kernel
theorem dL_law_958 : decode cL_law 958 = .ok (.ireturn, 1) := by decide +kernel
theorem dL_law_959 : decode cL_law 959 = .ok (.aload_n 1, 1) := by decide +kernel
theorem dL_law_960 : decode cL_law 960 = .ok (.aload_n 0, 1) := by decide +kernel
theorem dL_law_961 : decode cL_law 961 = .ok (.iload_n 3, 1) := by decide +kernel
theorem dL_law_962 : decode cL_law 962 = .ok (.iconst 1, 1) := by decide +kernel
theorem dL_law_963 : decode cL_law 963 = .ok (.iadd, 1) := by decide +kernel
theorem dL_law_964 : decode cL_law 964 = .ok (.iaload, 1) := by decide +kernel
theorem dL_law_965 : decode cL_law 965 = .ok (.invokevirtual 113, 3) := by decide +kernel
theorem dL_law_968 : decode cL_law 968 = .ok (.aload_n 2, 1) := by decide +kernel
theorem dL_law_969 : decode cL_law 969 = .ok (.aload_n 0, 1) := by decide +kernel
theorem dL_law_970 : decode cL_law 970 = .ok (.iload_n 3, 1) := by decide +kernel
theorem dL_law_971 : decode cL_law 971 = .ok (.iconst 1, 1) := by decide +kernel
theorem dL_law_972 : decode cL_law 972 = .ok (.iadd, 1) := by decide +kernel
theorem dL_law_973 : decode cL_law 973 = .ok (.iaload, 1) := by decide +kernel
theorem dL_law_974 : decode cL_law 974 = .ok (.invokevirtual 116, 3) := by decide +kernel
theorem dL_law_977 : decode cL_law 977 = .ok (.if_icmp .eq 592, 3) := by decide +kernel
theorem dL_law_980 : decode cL_law 980 = .ok (.iconst 0, 1) := by decide +kernel
theorem dL_law_981 : decode cL_law 981 = .ok (.ireturn, 1) := by decide +kernel
theorem dL_law_982 : decode cL_law 982 = .ok (.aload_n 1, 1) := by decide +kernel
theorem dL_law_983 : decode cL_law 983 = .ok (.invokevirtual 117, 3) := by decide +kernel
theorem dL_law_986 : decode cL_law 986 = .ok (.aload_n 2, 1) := by decide +kernel
theorem dL_law_987 : decode cL_law 987 = .ok (.invokevirtual 120, 3) := by decide +kernel
theorem dL_law_990 : decode cL_law 990 = .ok (.if_icmp .eq 579, 3) := by decide +kernel
theorem dL_law_993 : decode cL_law 993 = .ok (.iconst 0, 1) := by decide +kernel
theorem dL_law_994 : decode cL_law 994 = .ok (.ireturn, 1) := by decide +kernel
theorem dL_law_995 : decode cL_law 995 = .ok (.aload_n 1, 1) := by decide +kernel
theorem dL_law_996 : decode cL_law 996 = .ok (.aload_n 0, 1) := by decide +kernel
theorem dL_law_997 : decode cL_law 997 = .ok (.iload_n 3, 1) := by decide +kernel
theorem dL_law_998 : decode cL_law 998 = .ok (.iconst 1, 1) := by decide +kernel
theorem dL_law_999 : decode cL_law 999 = .ok (.iadd, 1) := by decide +kernel
theorem dL_law_1000 : decode cL_law 1000 = .ok (.iaload, 1) := by decide +kernel
theorem dL_law_1001 : decode cL_law 1001 = .ok (.invokevirtual 121, 3) := by decide +kernel
theorem dL_law_1004 : decode cL_law 1004 = .ok (.aload_n 2, 1) := by decide +kernel
theorem dL_law_1005 : decode cL_law 1005 = .ok (.aload_n 0, 1) := by decide +kernel
theorem dL_law_1006 : decode cL_law 1006 = .ok (.iload_n 3, 1) := by decide +kernel
theorem dL_law_1007 : decode cL_law 1007 = .ok (.iconst 1, 1) := by decide +kernel
theorem dL_law_1008 : decode cL_law 1008 = .ok (.iadd, 1) := by decide +kernel
theorem dL_law_1009 : decode cL_law 1009 = .ok (.iaload, 1) := by decide +kernel
theorem dL_law_1010 : decode cL_law 1010 = .ok (.invokevirtual 124, 3) := by decide +kernel
theorem dL_law_1013 : decode cL_law 1013 = .ok (.if_icmp .eq 556, 3) := by decide +kernel
theorem dL_law_1016 : decode cL_law 1016 = .ok (.iconst 0, 1) := by decide +kernel
theorem dL_law_1017 : decode cL_law 1017 = .ok (.ireturn, 1) := by decide +kernel
theorem dL_law_1018 : decode cL_law 1018 = .ok (.aload_n 1, 1) := by decide +kernel
theorem dL_law_1019 : decode cL_law 1019 = .ok (.aload_n 0, 1) := by decide +kernel
theorem dL_law_1020 : decode cL_law 1020 = .ok (.iload_n 3, 1) := by decide +kernel
theorem dL_law_1021 : decode cL_law 1021 = .ok (.iconst 1, 1) := by decide +kernel
theorem dL_law_1022 : decode cL_law 1022 = .ok (.iadd, 1) := by decide +kernel
theorem dL_law_1023 : decode cL_law 1023 = .ok (.iaload, 1) := by decide +kernel
theorem dL_law_1024 : decode cL_law 1024 = .ok (.invokevirtual 125, 3) := by decide +kernel
theorem dL_law_1027 : decode cL_law 1027 = .ok (.aload_n 2, 1) := by decide +kernel
theorem dL_law_1028 : decode cL_law 1028 = .ok (.aload_n 0, 1) := by decide +kernel
theorem dL_law_1029 : decode cL_law 1029 = .ok (.iload_n 3, 1) := by decide +kernel
theorem dL_law_1030 : decode cL_law 1030 = .ok (.iconst 1, 1) := by decide +kernel
theorem dL_law_1031 : decode cL_law 1031 = .ok (.iadd, 1) := by decide +kernel
theorem dL_law_1032 : decode cL_law 1032 = .ok (.iaload, 1) := by decide +kernel
theorem dL_law_1033 : decode cL_law 1033 = .ok (.invokevirtual 128, 3) := by decide +kernel
theorem dL_law_1036 : decode cL_law 1036 = .ok (.if_icmp .eq 533, 3) := by decide +kernel
theorem dL_law_1039 : decode cL_law 1039 = .ok (.iconst 0, 1) := by decide +kernel
theorem dL_law_1040 : decode cL_law 1040 = .ok (.ireturn, 1) := by decide +kernel
theorem dL_law_1041 : decode cL_law 1041 = .ok (.aload_n 1, 1) := by decide +kernel
theorem dL_law_1042 : decode cL_law 1042 = .ok (.aload_n 0, 1) := by decide +kernel
theorem dL_law_1043 : decode cL_law 1043 = .ok (.iload_n 3, 1) := by decide +kernel
theorem dL_law_1044 : decode cL_law 1044 = .ok (.iconst 1, 1) := by decide +kernel
theorem dL_law_1045 : decode cL_law 1045 = .ok (.iadd, 1) := by decide +kernel
theorem dL_law_1046 : decode cL_law 1046 = .ok (.iaload, 1) := by decide +kernel
theorem dL_law_1047 : decode cL_law 1047 = .ok (.invokevirtual 129, 3) := by decide +kernel
theorem dL_law_1050 : decode cL_law 1050 = .ok (.aload_n 2, 1) := by decide +kernel
theorem dL_law_1051 : decode cL_law 1051 = .ok (.aload_n 0, 1) := by decide +kernel
theorem dL_law_1052 : decode cL_law 1052 = .ok (.iload_n 3, 1) := by decide +kernel
theorem dL_law_1053 : decode cL_law 1053 = .ok (.iconst 1, 1) := by decide +kernel
theorem dL_law_1054 : decode cL_law 1054 = .ok (.iadd, 1) := by decide +kernel
theorem dL_law_1055 : decode cL_law 1055 = .ok (.iaload, 1) := by decide +kernel
theorem dL_law_1056 : decode cL_law 1056 = .ok (.invokevirtual 132, 3) := by decide +kernel
theorem dL_law_1059 : decode cL_law 1059 = .ok (.if_icmp .eq 510, 3) := by decide +kernel
theorem dL_law_1062 : decode cL_law 1062 = .ok (.iconst 0, 1) := by decide +kernel
theorem dL_law_1063 : decode cL_law 1063 = .ok (.ireturn, 1) := by decide +kernel
theorem dL_law_1064 : decode cL_law 1064 = .ok (.aload_n 1, 1) := by decide +kernel
theorem dL_law_1065 : decode cL_law 1065 = .ok (.aload_n 0, 1) := by decide +kernel
theorem dL_law_1066 : decode cL_law 1066 = .ok (.iload_n 3, 1) := by decide +kernel
theorem dL_law_1067 : decode cL_law 1067 = .ok (.iconst 1, 1) := by decide +kernel
theorem dL_law_1068 : decode cL_law 1068 = .ok (.iadd, 1) := by decide +kernel
theorem dL_law_1069 : decode cL_law 1069 = .ok (.iaload, 1) := by decide +kernel
theorem dL_law_1070 : decode cL_law 1070 = .ok (.aload_n 0, 1) := by decide +kernel
theorem dL_law_1071 : decode cL_law 1071 = .ok (.iload_n 3, 1) := by decide +kernel
theorem dL_law_1072 : decode cL_law 1072 = .ok (.iconst 2, 1) := by decide +kernel
theorem dL_law_1073 : decode cL_law 1073 = .ok (.iadd, 1) := by decide +kernel
theorem dL_law_1074 : decode cL_law 1074 = .ok (.iaload, 1) := by decide +kernel
theorem dL_law_1075 : decode cL_law 1075 = .ok (.invokevirtual 133, 3) := by decide +kernel
theorem dL_law_1078 : decode cL_law 1078 = .ok (.aload_n 2, 1) := by decide +kernel
theorem dL_law_1079 : decode cL_law 1079 = .ok (.aload_n 0, 1) := by decide +kernel
theorem dL_law_1080 : decode cL_law 1080 = .ok (.iload_n 3, 1) := by decide +kernel
theorem dL_law_1081 : decode cL_law 1081 = .ok (.iconst 1, 1) := by decide +kernel
theorem dL_law_1082 : decode cL_law 1082 = .ok (.iadd, 1) := by decide +kernel
theorem dL_law_1083 : decode cL_law 1083 = .ok (.iaload, 1) := by decide +kernel
theorem dL_law_1084 : decode cL_law 1084 = .ok (.aload_n 0, 1) := by decide +kernel
theorem dL_law_1085 : decode cL_law 1085 = .ok (.iload_n 3, 1) := by decide +kernel
theorem dL_law_1086 : decode cL_law 1086 = .ok (.iconst 2, 1) := by decide +kernel
theorem dL_law_1087 : decode cL_law 1087 = .ok (.iadd, 1) := by decide +kernel
theorem dL_law_1088 : decode cL_law 1088 = .ok (.iaload, 1) := by decide +kernel
theorem dL_law_1089 : decode cL_law 1089 = .ok (.invokevirtual 136, 3) := by decide +kernel
theorem dL_law_1092 : decode cL_law 1092 = .ok (.if_icmp .eq 477, 3) := by decide +kernel
theorem dL_law_1095 : decode cL_law 1095 = .ok (.iconst 0, 1) := by decide +kernel
theorem dL_law_1096 : decode cL_law 1096 = .ok (.ireturn, 1) := by decide +kernel
theorem dL_law_1097 : decode cL_law 1097 = .ok (.aload_n 1, 1) := by decide +kernel
theorem dL_law_1098 : decode cL_law 1098 = .ok (.aload_n 0, 1) := by decide +kernel
theorem dL_law_1099 : decode cL_law 1099 = .ok (.iload_n 3, 1) := by decide +kernel
theorem dL_law_1100 : decode cL_law 1100 = .ok (.iconst 1, 1) := by decide +kernel
theorem dL_law_1101 : decode cL_law 1101 = .ok (.iadd, 1) := by decide +kernel
theorem dL_law_1102 : decode cL_law 1102 = .ok (.iaload, 1) := by decide +kernel
theorem dL_law_1103 : decode cL_law 1103 = .ok (.aload_n 0, 1) := by decide +kernel
theorem dL_law_1104 : decode cL_law 1104 = .ok (.iload_n 3, 1) := by decide +kernel
theorem dL_law_1105 : decode cL_law 1105 = .ok (.iconst 2, 1) := by decide +kernel
theorem dL_law_1106 : decode cL_law 1106 = .ok (.iadd, 1) := by decide +kernel
theorem dL_law_1107 : decode cL_law 1107 = .ok (.iaload, 1) := by decide +kernel
theorem dL_law_1108 : decode cL_law 1108 = .ok (.invokevirtual 137, 3) := by decide +kernel
theorem dL_law_1111 : decode cL_law 1111 = .ok (.aload_n 2, 1) := by decide +kernel
theorem dL_law_1112 : decode cL_law 1112 = .ok (.aload_n 0, 1) := by decide +kernel
theorem dL_law_1113 : decode cL_law 1113 = .ok (.iload_n 3, 1) := by decide +kernel
theorem dL_law_1114 : decode cL_law 1114 = .ok (.iconst 1, 1) := by decide +kernel
theorem dL_law_1115 : decode cL_law 1115 = .ok (.iadd, 1) := by decide +kernel
theorem dL_law_1116 : decode cL_law 1116 = .ok (.iaload, 1) := by decide +kernel
theorem dL_law_1117 : decode cL_law 1117 = .ok (.aload_n 0, 1) := by decide +kernel
theorem dL_law_1118 : decode cL_law 1118 = .ok (.iload_n 3, 1) := by decide +kernel
theorem dL_law_1119 : decode cL_law 1119 = .ok (.iconst 2, 1) := by decide +kernel
theorem dL_law_1120 : decode cL_law 1120 = .ok (.iadd, 1) := by decide +kernel
theorem dL_law_1121 : decode cL_law 1121 = .ok (.iaload, 1) := by decide +kernel
theorem dL_law_1122 : decode cL_law 1122 = .ok (.invokevirtual 140, 3) := by decide +kernel
theorem dL_law_1125 : decode cL_law 1125 = .ok (.if_icmp .eq 444, 3) := by decide +kernel
theorem dL_law_1128 : decode cL_law 1128 = .ok (.iconst 0, 1) := by decide +kernel
theorem dL_law_1129 : decode cL_law 1129 = .ok (.ireturn, 1) := by decide +kernel
theorem dL_law_1130 : decode cL_law 1130 = .ok (.aload_n 1, 1) := by decide +kernel
theorem dL_law_1131 : decode cL_law 1131 = .ok (.aload_n 0, 1) := by decide +kernel
theorem dL_law_1132 : decode cL_law 1132 = .ok (.iload_n 3, 1) := by decide +kernel
theorem dL_law_1133 : decode cL_law 1133 = .ok (.iconst 1, 1) := by decide +kernel
theorem dL_law_1134 : decode cL_law 1134 = .ok (.iadd, 1) := by decide +kernel
theorem dL_law_1135 : decode cL_law 1135 = .ok (.iaload, 1) := by decide +kernel
theorem dL_law_1136 : decode cL_law 1136 = .ok (.aload_n 0, 1) := by decide +kernel
theorem dL_law_1137 : decode cL_law 1137 = .ok (.iload_n 3, 1) := by decide +kernel
theorem dL_law_1138 : decode cL_law 1138 = .ok (.iconst 2, 1) := by decide +kernel
theorem dL_law_1139 : decode cL_law 1139 = .ok (.iadd, 1) := by decide +kernel
theorem dL_law_1140 : decode cL_law 1140 = .ok (.iaload, 1) := by decide +kernel
theorem dL_law_1141 : decode cL_law 1141 = .ok (.aload_n 0, 1) := by decide +kernel
theorem dL_law_1142 : decode cL_law 1142 = .ok (.iload_n 3, 1) := by decide +kernel
theorem dL_law_1143 : decode cL_law 1143 = .ok (.iconst 3, 1) := by decide +kernel
theorem dL_law_1144 : decode cL_law 1144 = .ok (.iadd, 1) := by decide +kernel
theorem dL_law_1145 : decode cL_law 1145 = .ok (.iaload, 1) := by decide +kernel
theorem dL_law_1146 : decode cL_law 1146 = .ok (.invokevirtual 141, 3) := by decide +kernel
theorem dL_law_1149 : decode cL_law 1149 = .ok (.aload_n 2, 1) := by decide +kernel
theorem dL_law_1150 : decode cL_law 1150 = .ok (.aload_n 0, 1) := by decide +kernel
theorem dL_law_1151 : decode cL_law 1151 = .ok (.iload_n 3, 1) := by decide +kernel
theorem dL_law_1152 : decode cL_law 1152 = .ok (.iconst 1, 1) := by decide +kernel
theorem dL_law_1153 : decode cL_law 1153 = .ok (.iadd, 1) := by decide +kernel
theorem dL_law_1154 : decode cL_law 1154 = .ok (.iaload, 1) := by decide +kernel
theorem dL_law_1155 : decode cL_law 1155 = .ok (.aload_n 0, 1) := by decide +kernel
theorem dL_law_1156 : decode cL_law 1156 = .ok (.iload_n 3, 1) := by decide +kernel
theorem dL_law_1157 : decode cL_law 1157 = .ok (.iconst 2, 1) := by decide +kernel
theorem dL_law_1158 : decode cL_law 1158 = .ok (.iadd, 1) := by decide +kernel
theorem dL_law_1159 : decode cL_law 1159 = .ok (.iaload, 1) := by decide +kernel
theorem dL_law_1160 : decode cL_law 1160 = .ok (.aload_n 0, 1) := by decide +kernel
theorem dL_law_1161 : decode cL_law 1161 = .ok (.iload_n 3, 1) := by decide +kernel
theorem dL_law_1162 : decode cL_law 1162 = .ok (.iconst 3, 1) := by decide +kernel
theorem dL_law_1163 : decode cL_law 1163 = .ok (.iadd, 1) := by decide +kernel
theorem dL_law_1164 : decode cL_law 1164 = .ok (.iaload, 1) := by decide +kernel
theorem dL_law_1165 : decode cL_law 1165 = .ok (.invokevirtual 144, 3) := by decide +kernel
theorem dL_law_1168 : decode cL_law 1168 = .ok (.if_icmp .eq 401, 3) := by decide +kernel
theorem dL_law_1171 : decode cL_law 1171 = .ok (.iconst 0, 1) := by decide +kernel
theorem dL_law_1172 : decode cL_law 1172 = .ok (.ireturn, 1) := by decide +kernel
theorem dL_law_1173 : decode cL_law 1173 = .ok (.aload_n 1, 1) := by decide +kernel
theorem dL_law_1174 : decode cL_law 1174 = .ok (.aload_n 0, 1) := by decide +kernel
theorem dL_law_1175 : decode cL_law 1175 = .ok (.iload_n 3, 1) := by decide +kernel
theorem dL_law_1176 : decode cL_law 1176 = .ok (.iconst 1, 1) := by decide +kernel
theorem dL_law_1177 : decode cL_law 1177 = .ok (.iadd, 1) := by decide +kernel
theorem dL_law_1178 : decode cL_law 1178 = .ok (.iaload, 1) := by decide +kernel
theorem dL_law_1179 : decode cL_law 1179 = .ok (.invokevirtual 145, 3) := by decide +kernel
theorem dL_law_1182 : decode cL_law 1182 = .ok (.aload_n 2, 1) := by decide +kernel
theorem dL_law_1183 : decode cL_law 1183 = .ok (.aload_n 0, 1) := by decide +kernel
theorem dL_law_1184 : decode cL_law 1184 = .ok (.iload_n 3, 1) := by decide +kernel
theorem dL_law_1185 : decode cL_law 1185 = .ok (.iconst 1, 1) := by decide +kernel
theorem dL_law_1186 : decode cL_law 1186 = .ok (.iadd, 1) := by decide +kernel
theorem dL_law_1187 : decode cL_law 1187 = .ok (.iaload, 1) := by decide +kernel
theorem dL_law_1188 : decode cL_law 1188 = .ok (.invokevirtual 148, 3) := by decide +kernel
theorem dL_law_1191 : decode cL_law 1191 = .ok (.if_icmp .eq 378, 3) := by decide +kernel
theorem dL_law_1194 : decode cL_law 1194 = .ok (.iconst 0, 1) := by decide +kernel
theorem dL_law_1195 : decode cL_law 1195 = .ok (.ireturn, 1) := by decide +kernel
theorem dL_law_1196 : decode cL_law 1196 = .ok (.aload_n 1, 1) := by decide +kernel
theorem dL_law_1197 : decode cL_law 1197 = .ok (.aload_n 0, 1) := by decide +kernel
theorem dL_law_1198 : decode cL_law 1198 = .ok (.iload_n 3, 1) := by decide +kernel
theorem dL_law_1199 : decode cL_law 1199 = .ok (.iconst 1, 1) := by decide +kernel
theorem dL_law_1200 : decode cL_law 1200 = .ok (.iadd, 1) := by decide +kernel
theorem dL_law_1201 : decode cL_law 1201 = .ok (.iaload, 1) := by decide +kernel
theorem dL_law_1202 : decode cL_law 1202 = .ok (.aload_n 0, 1) := by decide +kernel
theorem dL_law_1203 : decode cL_law 1203 = .ok (.iload_n 3, 1) := by decide +kernel
theorem dL_law_1204 : decode cL_law 1204 = .ok (.iconst 2, 1) := by decide +kernel
theorem dL_law_1205 : decode cL_law 1205 = .ok (.iadd, 1) := by decide +kernel
theorem dL_law_1206 : decode cL_law 1206 = .ok (.iaload, 1) := by decide +kernel
theorem dL_law_1207 : decode cL_law 1207 = .ok (.aload_n 0, 1) := by decide +kernel
theorem dL_law_1208 : decode cL_law 1208 = .ok (.iload_n 3, 1) := by decide +kernel
theorem dL_law_1209 : decode cL_law 1209 = .ok (.iconst 3, 1) := by decide +kernel
theorem dL_law_1210 : decode cL_law 1210 = .ok (.iadd, 1) := by decide +kernel
theorem dL_law_1211 : decode cL_law 1211 = .ok (.iaload, 1) := by decide +kernel
theorem dL_law_1212 : decode cL_law 1212 = .ok (.aload_n 0, 1) := by decide +kernel
theorem dL_law_1213 : decode cL_law 1213 = .ok (.iload_n 3, 1) := by decide +kernel
theorem dL_law_1214 : decode cL_law 1214 = .ok (.iconst 4, 1) := by decide +kernel
theorem dL_law_1215 : decode cL_law 1215 = .ok (.iadd, 1) := by decide +kernel
theorem dL_law_1216 : decode cL_law 1216 = .ok (.iaload, 1) := by decide +kernel
theorem dL_law_1217 : decode cL_law 1217 = .ok (.invokevirtual 149, 3) := by decide +kernel
theorem dL_law_1220 : decode cL_law 1220 = .ok (.aload_n 2, 1) := by decide +kernel
theorem dL_law_1221 : decode cL_law 1221 = .ok (.aload_n 0, 1) := by decide +kernel
theorem dL_law_1222 : decode cL_law 1222 = .ok (.iload_n 3, 1) := by decide +kernel
theorem dL_law_1223 : decode cL_law 1223 = .ok (.iconst 1, 1) := by decide +kernel
theorem dL_law_1224 : decode cL_law 1224 = .ok (.iadd, 1) := by decide +kernel
theorem dL_law_1225 : decode cL_law 1225 = .ok (.iaload, 1) := by decide +kernel
theorem dL_law_1226 : decode cL_law 1226 = .ok (.aload_n 0, 1) := by decide +kernel
theorem dL_law_1227 : decode cL_law 1227 = .ok (.iload_n 3, 1) := by decide +kernel
theorem dL_law_1228 : decode cL_law 1228 = .ok (.iconst 2, 1) := by decide +kernel
theorem dL_law_1229 : decode cL_law 1229 = .ok (.iadd, 1) := by decide +kernel
theorem dL_law_1230 : decode cL_law 1230 = .ok (.iaload, 1) := by decide +kernel
theorem dL_law_1231 : decode cL_law 1231 = .ok (.aload_n 0, 1) := by decide +kernel
theorem dL_law_1232 : decode cL_law 1232 = .ok (.iload_n 3, 1) := by decide +kernel
theorem dL_law_1233 : decode cL_law 1233 = .ok (.iconst 3, 1) := by decide +kernel
theorem dL_law_1234 : decode cL_law 1234 = .ok (.iadd, 1) := by decide +kernel
theorem dL_law_1235 : decode cL_law 1235 = .ok (.iaload, 1) := by decide +kernel
theorem dL_law_1236 : decode cL_law 1236 = .ok (.aload_n 0, 1) := by decide +kernel
theorem dL_law_1237 : decode cL_law 1237 = .ok (.iload_n 3, 1) := by decide +kernel
theorem dL_law_1238 : decode cL_law 1238 = .ok (.iconst 4, 1) := by decide +kernel
theorem dL_law_1239 : decode cL_law 1239 = .ok (.iadd, 1) := by decide +kernel
theorem dL_law_1240 : decode cL_law 1240 = .ok (.iaload, 1) := by decide +kernel
theorem dL_law_1241 : decode cL_law 1241 = .ok (.invokevirtual 152, 3) := by decide +kernel
theorem dL_law_1244 : decode cL_law 1244 = .ok (.if_icmp .eq 325, 3) := by decide +kernel
theorem dL_law_1247 : decode cL_law 1247 = .ok (.iconst 0, 1) := by decide +kernel
theorem dL_law_1248 : decode cL_law 1248 = .ok (.ireturn, 1) := by decide +kernel
theorem dL_law_1249 : decode cL_law 1249 = .ok (.aload_n 1, 1) := by decide +kernel
theorem dL_law_1250 : decode cL_law 1250 = .ok (.aload_n 0, 1) := by decide +kernel
theorem dL_law_1251 : decode cL_law 1251 = .ok (.iload_n 3, 1) := by decide +kernel
theorem dL_law_1252 : decode cL_law 1252 = .ok (.iconst 1, 1) := by decide +kernel
theorem dL_law_1253 : decode cL_law 1253 = .ok (.iadd, 1) := by decide +kernel
theorem dL_law_1254 : decode cL_law 1254 = .ok (.iaload, 1) := by decide +kernel
theorem dL_law_1255 : decode cL_law 1255 = .ok (.aload_n 0, 1) := by decide +kernel
theorem dL_law_1256 : decode cL_law 1256 = .ok (.iload_n 3, 1) := by decide +kernel
theorem dL_law_1257 : decode cL_law 1257 = .ok (.iconst 2, 1) := by decide +kernel
theorem dL_law_1258 : decode cL_law 1258 = .ok (.iadd, 1) := by decide +kernel
theorem dL_law_1259 : decode cL_law 1259 = .ok (.iaload, 1) := by decide +kernel
theorem dL_law_1260 : decode cL_law 1260 = .ok (.aload_n 0, 1) := by decide +kernel
theorem dL_law_1261 : decode cL_law 1261 = .ok (.iload_n 3, 1) := by decide +kernel
theorem dL_law_1262 : decode cL_law 1262 = .ok (.iconst 3, 1) := by decide +kernel
theorem dL_law_1263 : decode cL_law 1263 = .ok (.iadd, 1) := by decide +kernel
theorem dL_law_1264 : decode cL_law 1264 = .ok (.iaload, 1) := by decide +kernel
theorem dL_law_1265 : decode cL_law 1265 = .ok (.invokevirtual 153, 3) := by decide +kernel
theorem dL_law_1268 : decode cL_law 1268 = .ok (.aload_n 2, 1) := by decide +kernel
theorem dL_law_1269 : decode cL_law 1269 = .ok (.aload_n 0, 1) := by decide +kernel
theorem dL_law_1270 : decode cL_law 1270 = .ok (.iload_n 3, 1) := by decide +kernel
theorem dL_law_1271 : decode cL_law 1271 = .ok (.iconst 1, 1) := by decide +kernel
theorem dL_law_1272 : decode cL_law 1272 = .ok (.iadd, 1) := by decide +kernel
theorem dL_law_1273 : decode cL_law 1273 = .ok (.iaload, 1) := by decide +kernel
theorem dL_law_1274 : decode cL_law 1274 = .ok (.aload_n 0, 1) := by decide +kernel
theorem dL_law_1275 : decode cL_law 1275 = .ok (.iload_n 3, 1) := by decide +kernel
theorem dL_law_1276 : decode cL_law 1276 = .ok (.iconst 2, 1) := by decide +kernel
theorem dL_law_1277 : decode cL_law 1277 = .ok (.iadd, 1) := by decide +kernel
theorem dL_law_1278 : decode cL_law 1278 = .ok (.iaload, 1) := by decide +kernel
theorem dL_law_1279 : decode cL_law 1279 = .ok (.aload_n 0, 1) := by decide +kernel
theorem dL_law_1280 : decode cL_law 1280 = .ok (.iload_n 3, 1) := by decide +kernel
theorem dL_law_1281 : decode cL_law 1281 = .ok (.iconst 3, 1) := by decide +kernel
theorem dL_law_1282 : decode cL_law 1282 = .ok (.iadd, 1) := by decide +kernel
theorem dL_law_1283 : decode cL_law 1283 = .ok (.iaload, 1) := by decide +kernel
theorem dL_law_1284 : decode cL_law 1284 = .ok (.invokevirtual 156, 3) := by decide +kernel
theorem dL_law_1287 : decode cL_law 1287 = .ok (.if_icmp .eq 282, 3) := by decide +kernel
theorem dL_law_1290 : decode cL_law 1290 = .ok (.iconst 0, 1) := by decide +kernel
theorem dL_law_1291 : decode cL_law 1291 = .ok (.ireturn, 1) := by decide +kernel
theorem dL_law_1292 : decode cL_law 1292 = .ok (.aload_n 1, 1) := by decide +kernel
theorem dL_law_1293 : decode cL_law 1293 = .ok (.aload_n 0, 1) := by decide +kernel
theorem dL_law_1294 : decode cL_law 1294 = .ok (.iload_n 3, 1) := by decide +kernel
theorem dL_law_1295 : decode cL_law 1295 = .ok (.iconst 1, 1) := by decide +kernel
theorem dL_law_1296 : decode cL_law 1296 = .ok (.iadd, 1) := by decide +kernel
theorem dL_law_1297 : decode cL_law 1297 = .ok (.iaload, 1) := by decide +kernel
theorem dL_law_1298 : decode cL_law 1298 = .ok (.aload_n 0, 1) := by decide +kernel
theorem dL_law_1299 : decode cL_law 1299 = .ok (.iload_n 3, 1) := by decide +kernel
theorem dL_law_1300 : decode cL_law 1300 = .ok (.iconst 2, 1) := by decide +kernel
theorem dL_law_1301 : decode cL_law 1301 = .ok (.iadd, 1) := by decide +kernel
theorem dL_law_1302 : decode cL_law 1302 = .ok (.iaload, 1) := by decide +kernel
theorem dL_law_1303 : decode cL_law 1303 = .ok (.aload_n 0, 1) := by decide +kernel
theorem dL_law_1304 : decode cL_law 1304 = .ok (.iload_n 3, 1) := by decide +kernel
theorem dL_law_1305 : decode cL_law 1305 = .ok (.iconst 3, 1) := by decide +kernel
theorem dL_law_1306 : decode cL_law 1306 = .ok (.iadd, 1) := by decide +kernel
theorem dL_law_1307 : decode cL_law 1307 = .ok (.iaload, 1) := by decide +kernel
theorem dL_law_1308 : decode cL_law 1308 = .ok (.invokevirtual 157, 3) := by decide +kernel
theorem dL_law_1311 : decode cL_law 1311 = .ok (.aload_n 2, 1) := by decide +kernel
theorem dL_law_1312 : decode cL_law 1312 = .ok (.aload_n 0, 1) := by decide +kernel
theorem dL_law_1313 : decode cL_law 1313 = .ok (.iload_n 3, 1) := by decide +kernel
theorem dL_law_1314 : decode cL_law 1314 = .ok (.iconst 1, 1) := by decide +kernel
theorem dL_law_1315 : decode cL_law 1315 = .ok (.iadd, 1) := by decide +kernel
theorem dL_law_1316 : decode cL_law 1316 = .ok (.iaload, 1) := by decide +kernel
theorem dL_law_1317 : decode cL_law 1317 = .ok (.aload_n 0, 1) := by decide +kernel
theorem dL_law_1318 : decode cL_law 1318 = .ok (.iload_n 3, 1) := by decide +kernel
theorem dL_law_1319 : decode cL_law 1319 = .ok (.iconst 2, 1) := by decide +kernel
theorem dL_law_1320 : decode cL_law 1320 = .ok (.iadd, 1) := by decide +kernel
theorem dL_law_1321 : decode cL_law 1321 = .ok (.iaload, 1) := by decide +kernel
theorem dL_law_1322 : decode cL_law 1322 = .ok (.aload_n 0, 1) := by decide +kernel
theorem dL_law_1323 : decode cL_law 1323 = .ok (.iload_n 3, 1) := by decide +kernel
theorem dL_law_1324 : decode cL_law 1324 = .ok (.iconst 3, 1) := by decide +kernel
theorem dL_law_1325 : decode cL_law 1325 = .ok (.iadd, 1) := by decide +kernel
theorem dL_law_1326 : decode cL_law 1326 = .ok (.iaload, 1) := by decide +kernel
theorem dL_law_1327 : decode cL_law 1327 = .ok (.invokevirtual 160, 3) := by decide +kernel
theorem dL_law_1330 : decode cL_law 1330 = .ok (.if_icmp .eq 239, 3) := by decide +kernel
theorem dL_law_1333 : decode cL_law 1333 = .ok (.iconst 0, 1) := by decide +kernel
theorem dL_law_1334 : decode cL_law 1334 = .ok (.ireturn, 1) := by decide +kernel
theorem dL_law_1335 : decode cL_law 1335 = .ok (.aload_n 1, 1) := by decide +kernel
theorem dL_law_1336 : decode cL_law 1336 = .ok (.aload_n 0, 1) := by decide +kernel
theorem dL_law_1337 : decode cL_law 1337 = .ok (.iload_n 3, 1) := by decide +kernel
theorem dL_law_1338 : decode cL_law 1338 = .ok (.iconst 1, 1) := by decide +kernel
theorem dL_law_1339 : decode cL_law 1339 = .ok (.iadd, 1) := by decide +kernel
theorem dL_law_1340 : decode cL_law 1340 = .ok (.iaload, 1) := by decide +kernel
theorem dL_law_1341 : decode cL_law 1341 = .ok (.aload_n 0, 1) := by decide +kernel
theorem dL_law_1342 : decode cL_law 1342 = .ok (.iload_n 3, 1) := by decide +kernel
theorem dL_law_1343 : decode cL_law 1343 = .ok (.iconst 2, 1) := by decide +kernel
theorem dL_law_1344 : decode cL_law 1344 = .ok (.iadd, 1) := by decide +kernel
theorem dL_law_1345 : decode cL_law 1345 = .ok (.iaload, 1) := by decide +kernel
theorem dL_law_1346 : decode cL_law 1346 = .ok (.aload_n 0, 1) := by decide +kernel
theorem dL_law_1347 : decode cL_law 1347 = .ok (.iload_n 3, 1) := by decide +kernel
theorem dL_law_1348 : decode cL_law 1348 = .ok (.iconst 3, 1) := by decide +kernel
theorem dL_law_1349 : decode cL_law 1349 = .ok (.iadd, 1) := by decide +kernel
theorem dL_law_1350 : decode cL_law 1350 = .ok (.iaload, 1) := by decide +kernel
theorem dL_law_1351 : decode cL_law 1351 = .ok (.invokevirtual 161, 3) := by decide +kernel
theorem dL_law_1354 : decode cL_law 1354 = .ok (.aload_n 2, 1) := by decide +kernel
theorem dL_law_1355 : decode cL_law 1355 = .ok (.aload_n 0, 1) := by decide +kernel
theorem dL_law_1356 : decode cL_law 1356 = .ok (.iload_n 3, 1) := by decide +kernel
theorem dL_law_1357 : decode cL_law 1357 = .ok (.iconst 1, 1) := by decide +kernel
theorem dL_law_1358 : decode cL_law 1358 = .ok (.iadd, 1) := by decide +kernel
theorem dL_law_1359 : decode cL_law 1359 = .ok (.iaload, 1) := by decide +kernel
theorem dL_law_1360 : decode cL_law 1360 = .ok (.aload_n 0, 1) := by decide +kernel
theorem dL_law_1361 : decode cL_law 1361 = .ok (.iload_n 3, 1) := by decide +kernel
theorem dL_law_1362 : decode cL_law 1362 = .ok (.iconst 2, 1) := by decide +kernel
theorem dL_law_1363 : decode cL_law 1363 = .ok (.iadd, 1) := by decide +kernel
theorem dL_law_1364 : decode cL_law 1364 = .ok (.iaload, 1) := by decide +kernel
theorem dL_law_1365 : decode cL_law 1365 = .ok (.aload_n 0, 1) := by decide +kernel
theorem dL_law_1366 : decode cL_law 1366 = .ok (.iload_n 3, 1) := by decide +kernel
theorem dL_law_1367 : decode cL_law 1367 = .ok (.iconst 3, 1) := by decide +kernel
theorem dL_law_1368 : decode cL_law 1368 = .ok (.iadd, 1) := by decide +kernel
theorem dL_law_1369 : decode cL_law 1369 = .ok (.iaload, 1) := by decide +kernel
theorem dL_law_1370 : decode cL_law 1370 = .ok (.invokevirtual 164, 3) := by decide +kernel
theorem dL_law_1373 : decode cL_law 1373 = .ok (.if_icmp .eq 196, 3) := by decide +kernel
theorem dL_law_1376 : decode cL_law 1376 = .ok (.iconst 0, 1) := by decide +kernel
theorem dL_law_1377 : decode cL_law 1377 = .ok (.ireturn, 1) := by decide +kernel
theorem dL_law_1378 : decode cL_law 1378 = .ok (.aload_n 1, 1) := by decide +kernel
theorem dL_law_1379 : decode cL_law 1379 = .ok (.aload_n 0, 1) := by decide +kernel
theorem dL_law_1380 : decode cL_law 1380 = .ok (.iload_n 3, 1) := by decide +kernel
theorem dL_law_1381 : decode cL_law 1381 = .ok (.iconst 1, 1) := by decide +kernel
theorem dL_law_1382 : decode cL_law 1382 = .ok (.iadd, 1) := by decide +kernel
theorem dL_law_1383 : decode cL_law 1383 = .ok (.iaload, 1) := by decide +kernel
theorem dL_law_1384 : decode cL_law 1384 = .ok (.aload_n 0, 1) := by decide +kernel
theorem dL_law_1385 : decode cL_law 1385 = .ok (.iload_n 3, 1) := by decide +kernel
theorem dL_law_1386 : decode cL_law 1386 = .ok (.iconst 2, 1) := by decide +kernel
theorem dL_law_1387 : decode cL_law 1387 = .ok (.iadd, 1) := by decide +kernel
theorem dL_law_1388 : decode cL_law 1388 = .ok (.iaload, 1) := by decide +kernel
theorem dL_law_1389 : decode cL_law 1389 = .ok (.aload_n 0, 1) := by decide +kernel
theorem dL_law_1390 : decode cL_law 1390 = .ok (.iload_n 3, 1) := by decide +kernel
theorem dL_law_1391 : decode cL_law 1391 = .ok (.iconst 3, 1) := by decide +kernel
theorem dL_law_1392 : decode cL_law 1392 = .ok (.iadd, 1) := by decide +kernel
theorem dL_law_1393 : decode cL_law 1393 = .ok (.iaload, 1) := by decide +kernel
theorem dL_law_1394 : decode cL_law 1394 = .ok (.invokevirtual 165, 3) := by decide +kernel
theorem dL_law_1397 : decode cL_law 1397 = .ok (.aload_n 2, 1) := by decide +kernel
theorem dL_law_1398 : decode cL_law 1398 = .ok (.aload_n 0, 1) := by decide +kernel
theorem dL_law_1399 : decode cL_law 1399 = .ok (.iload_n 3, 1) := by decide +kernel
theorem dL_law_1400 : decode cL_law 1400 = .ok (.iconst 1, 1) := by decide +kernel
theorem dL_law_1401 : decode cL_law 1401 = .ok (.iadd, 1) := by decide +kernel
theorem dL_law_1402 : decode cL_law 1402 = .ok (.iaload, 1) := by decide +kernel
theorem dL_law_1403 : decode cL_law 1403 = .ok (.aload_n 0, 1) := by decide +kernel
theorem dL_law_1404 : decode cL_law 1404 = .ok (.iload_n 3, 1) := by decide +kernel
theorem dL_law_1405 : decode cL_law 1405 = .ok (.iconst 2, 1) := by decide +kernel
theorem dL_law_1406 : decode cL_law 1406 = .ok (.iadd, 1) := by decide +kernel
theorem dL_law_1407 : decode cL_law 1407 = .ok (.iaload, 1) := by decide +kernel
theorem dL_law_1408 : decode cL_law 1408 = .ok (.aload_n 0, 1) := by decide +kernel
theorem dL_law_1409 : decode cL_law 1409 = .ok (.iload_n 3, 1) := by decide +kernel
theorem dL_law_1410 : decode cL_law 1410 = .ok (.iconst 3, 1) := by decide +kernel
theorem dL_law_1411 : decode cL_law 1411 = .ok (.iadd, 1) := by decide +kernel
theorem dL_law_1412 : decode cL_law 1412 = .ok (.iaload, 1) := by decide +kernel
theorem dL_law_1413 : decode cL_law 1413 = .ok (.invokevirtual 168, 3) := by decide +kernel
theorem dL_law_1416 : decode cL_law 1416 = .ok (.if_icmp .eq 153, 3) := by decide +kernel
theorem dL_law_1419 : decode cL_law 1419 = .ok (.iconst 0, 1) := by decide +kernel
theorem dL_law_1420 : decode cL_law 1420 = .ok (.ireturn, 1) := by decide +kernel
theorem dL_law_1421 : decode cL_law 1421 = .ok (.aload_n 1, 1) := by decide +kernel
theorem dL_law_1422 : decode cL_law 1422 = .ok (.aload_n 0, 1) := by decide +kernel
theorem dL_law_1423 : decode cL_law 1423 = .ok (.iload_n 3, 1) := by decide +kernel
theorem dL_law_1424 : decode cL_law 1424 = .ok (.iconst 1, 1) := by decide +kernel
theorem dL_law_1425 : decode cL_law 1425 = .ok (.iadd, 1) := by decide +kernel
theorem dL_law_1426 : decode cL_law 1426 = .ok (.iaload, 1) := by decide +kernel
theorem dL_law_1427 : decode cL_law 1427 = .ok (.aload_n 0, 1) := by decide +kernel
theorem dL_law_1428 : decode cL_law 1428 = .ok (.iload_n 3, 1) := by decide +kernel
theorem dL_law_1429 : decode cL_law 1429 = .ok (.iconst 2, 1) := by decide +kernel
theorem dL_law_1430 : decode cL_law 1430 = .ok (.iadd, 1) := by decide +kernel
theorem dL_law_1431 : decode cL_law 1431 = .ok (.iaload, 1) := by decide +kernel
theorem dL_law_1432 : decode cL_law 1432 = .ok (.invokevirtual 169, 3) := by decide +kernel
theorem dL_law_1435 : decode cL_law 1435 = .ok (.aload_n 2, 1) := by decide +kernel
theorem dL_law_1436 : decode cL_law 1436 = .ok (.aload_n 0, 1) := by decide +kernel
theorem dL_law_1437 : decode cL_law 1437 = .ok (.iload_n 3, 1) := by decide +kernel
theorem dL_law_1438 : decode cL_law 1438 = .ok (.iconst 1, 1) := by decide +kernel
theorem dL_law_1439 : decode cL_law 1439 = .ok (.iadd, 1) := by decide +kernel
theorem dL_law_1440 : decode cL_law 1440 = .ok (.iaload, 1) := by decide +kernel
theorem dL_law_1441 : decode cL_law 1441 = .ok (.aload_n 0, 1) := by decide +kernel
theorem dL_law_1442 : decode cL_law 1442 = .ok (.iload_n 3, 1) := by decide +kernel
theorem dL_law_1443 : decode cL_law 1443 = .ok (.iconst 2, 1) := by decide +kernel
theorem dL_law_1444 : decode cL_law 1444 = .ok (.iadd, 1) := by decide +kernel
theorem dL_law_1445 : decode cL_law 1445 = .ok (.iaload, 1) := by decide +kernel
theorem dL_law_1446 : decode cL_law 1446 = .ok (.invokevirtual 172, 3) := by decide +kernel
theorem dL_law_1449 : decode cL_law 1449 = .ok (.if_icmp .eq 120, 3) := by decide +kernel
theorem dL_law_1452 : decode cL_law 1452 = .ok (.iconst 0, 1) := by decide +kernel
theorem dL_law_1453 : decode cL_law 1453 = .ok (.ireturn, 1) := by decide +kernel
theorem dL_law_1454 : decode cL_law 1454 = .ok (.aload_n 1, 1) := by decide +kernel
theorem dL_law_1455 : decode cL_law 1455 = .ok (.aload_n 0, 1) := by decide +kernel
theorem dL_law_1456 : decode cL_law 1456 = .ok (.iload_n 3, 1) := by decide +kernel
theorem dL_law_1457 : decode cL_law 1457 = .ok (.iconst 1, 1) := by decide +kernel
theorem dL_law_1458 : decode cL_law 1458 = .ok (.iadd, 1) := by decide +kernel
theorem dL_law_1459 : decode cL_law 1459 = .ok (.iaload, 1) := by decide +kernel
theorem dL_law_1460 : decode cL_law 1460 = .ok (.aload_n 0, 1) := by decide +kernel
theorem dL_law_1461 : decode cL_law 1461 = .ok (.iload_n 3, 1) := by decide +kernel
theorem dL_law_1462 : decode cL_law 1462 = .ok (.iconst 2, 1) := by decide +kernel
theorem dL_law_1463 : decode cL_law 1463 = .ok (.iadd, 1) := by decide +kernel
theorem dL_law_1464 : decode cL_law 1464 = .ok (.iaload, 1) := by decide +kernel
theorem dL_law_1465 : decode cL_law 1465 = .ok (.aload_n 0, 1) := by decide +kernel
theorem dL_law_1466 : decode cL_law 1466 = .ok (.iload_n 3, 1) := by decide +kernel
theorem dL_law_1467 : decode cL_law 1467 = .ok (.iconst 3, 1) := by decide +kernel
theorem dL_law_1468 : decode cL_law 1468 = .ok (.iadd, 1) := by decide +kernel
theorem dL_law_1469 : decode cL_law 1469 = .ok (.iaload, 1) := by decide +kernel
theorem dL_law_1470 : decode cL_law 1470 = .ok (.invokevirtual 173, 3) := by decide +kernel
theorem dL_law_1473 : decode cL_law 1473 = .ok (.aload_n 2, 1) := by decide +kernel
theorem dL_law_1474 : decode cL_law 1474 = .ok (.aload_n 0, 1) := by decide +kernel
theorem dL_law_1475 : decode cL_law 1475 = .ok (.iload_n 3, 1) := by decide +kernel
theorem dL_law_1476 : decode cL_law 1476 = .ok (.iconst 1, 1) := by decide +kernel
theorem dL_law_1477 : decode cL_law 1477 = .ok (.iadd, 1) := by decide +kernel
theorem dL_law_1478 : decode cL_law 1478 = .ok (.iaload, 1) := by decide +kernel
theorem dL_law_1479 : decode cL_law 1479 = .ok (.aload_n 0, 1) := by decide +kernel
theorem dL_law_1480 : decode cL_law 1480 = .ok (.iload_n 3, 1) := by decide +kernel
theorem dL_law_1481 : decode cL_law 1481 = .ok (.iconst 2, 1) := by decide +kernel
theorem dL_law_1482 : decode cL_law 1482 = .ok (.iadd, 1) := by decide +kernel
theorem dL_law_1483 : decode cL_law 1483 = .ok (.iaload, 1) := by decide +kernel
theorem dL_law_1484 : decode cL_law 1484 = .ok (.aload_n 0, 1) := by decide +kernel
theorem dL_law_1485 : decode cL_law 1485 = .ok (.iload_n 3, 1) := by decide +kernel
theorem dL_law_1486 : decode cL_law 1486 = .ok (.iconst 3, 1) := by decide +kernel
theorem dL_law_1487 : decode cL_law 1487 = .ok (.iadd, 1) := by decide +kernel
theorem dL_law_1488 : decode cL_law 1488 = .ok (.iaload, 1) := by decide +kernel
theorem dL_law_1489 : decode cL_law 1489 = .ok (.invokevirtual 176, 3) := by decide +kernel
theorem dL_law_1492 : decode cL_law 1492 = .ok (.if_icmp .eq 77, 3) := by decide +kernel
theorem dL_law_1495 : decode cL_law 1495 = .ok (.iconst 0, 1) := by decide +kernel
theorem dL_law_1496 : decode cL_law 1496 = .ok (.ireturn, 1) := by decide +kernel
theorem dL_law_1497 : decode cL_law 1497 = .ok (.aload_n 1, 1) := by decide +kernel
theorem dL_law_1498 : decode cL_law 1498 = .ok (.aload_n 0, 1) := by decide +kernel
theorem dL_law_1499 : decode cL_law 1499 = .ok (.iload_n 3, 1) := by decide +kernel
theorem dL_law_1500 : decode cL_law 1500 = .ok (.iconst 1, 1) := by decide +kernel
theorem dL_law_1501 : decode cL_law 1501 = .ok (.iadd, 1) := by decide +kernel
theorem dL_law_1502 : decode cL_law 1502 = .ok (.iaload, 1) := by decide +kernel
theorem dL_law_1503 : decode cL_law 1503 = .ok (.invokevirtual 177, 3) := by decide +kernel
theorem dL_law_1506 : decode cL_law 1506 = .ok (.aload_n 2, 1) := by decide +kernel
theorem dL_law_1507 : decode cL_law 1507 = .ok (.aload_n 0, 1) := by decide +kernel
theorem dL_law_1508 : decode cL_law 1508 = .ok (.iload_n 3, 1) := by decide +kernel
theorem dL_law_1509 : decode cL_law 1509 = .ok (.iconst 1, 1) := by decide +kernel
theorem dL_law_1510 : decode cL_law 1510 = .ok (.iadd, 1) := by decide +kernel
theorem dL_law_1511 : decode cL_law 1511 = .ok (.iaload, 1) := by decide +kernel
theorem dL_law_1512 : decode cL_law 1512 = .ok (.invokevirtual 180, 3) := by decide +kernel
theorem dL_law_1515 : decode cL_law 1515 = .ok (.if_icmp .eq 54, 3) := by decide +kernel
theorem dL_law_1518 : decode cL_law 1518 = .ok (.iconst 0, 1) := by decide +kernel
theorem dL_law_1519 : decode cL_law 1519 = .ok (.ireturn, 1) := by decide +kernel
theorem dL_law_1520 : decode cL_law 1520 = .ok (.aload_n 1, 1) := by decide +kernel
theorem dL_law_1521 : decode cL_law 1521 = .ok (.aload_n 0, 1) := by decide +kernel
theorem dL_law_1522 : decode cL_law 1522 = .ok (.iload_n 3, 1) := by decide +kernel
theorem dL_law_1523 : decode cL_law 1523 = .ok (.iconst 1, 1) := by decide +kernel
theorem dL_law_1524 : decode cL_law 1524 = .ok (.iadd, 1) := by decide +kernel
theorem dL_law_1525 : decode cL_law 1525 = .ok (.iaload, 1) := by decide +kernel
theorem dL_law_1526 : decode cL_law 1526 = .ok (.invokevirtual 181, 3) := by decide +kernel
theorem dL_law_1529 : decode cL_law 1529 = .ok (.aload_n 2, 1) := by decide +kernel
theorem dL_law_1530 : decode cL_law 1530 = .ok (.aload_n 0, 1) := by decide +kernel
theorem dL_law_1531 : decode cL_law 1531 = .ok (.iload_n 3, 1) := by decide +kernel
theorem dL_law_1532 : decode cL_law 1532 = .ok (.iconst 1, 1) := by decide +kernel
theorem dL_law_1533 : decode cL_law 1533 = .ok (.iadd, 1) := by decide +kernel
theorem dL_law_1534 : decode cL_law 1534 = .ok (.iaload, 1) := by decide +kernel
theorem dL_law_1535 : decode cL_law 1535 = .ok (.invokevirtual 184, 3) := by decide +kernel
theorem dL_law_1538 : decode cL_law 1538 = .ok (.if_icmp .eq 31, 3) := by decide +kernel
theorem dL_law_1541 : decode cL_law 1541 = .ok (.iconst 0, 1) := by decide +kernel
theorem dL_law_1542 : decode cL_law 1542 = .ok (.ireturn, 1) := by decide +kernel
theorem dL_law_1543 : decode cL_law 1543 = .ok (.aload_n 1, 1) := by decide +kernel
theorem dL_law_1544 : decode cL_law 1544 = .ok (.invokevirtual 185, 3) := by decide +kernel
theorem dL_law_1547 : decode cL_law 1547 = .ok (.aload_n 2, 1) := by decide +kernel
theorem dL_law_1548 : decode cL_law 1548 = .ok (.invokevirtual 188, 3) := by decide +kernel
theorem dL_law_1551 : decode cL_law 1551 = .ok (.if_icmp .eq 18, 3) := by decide +kernel
theorem dL_law_1554 : decode cL_law 1554 = .ok (.iconst 0, 1) := by decide +kernel
theorem dL_law_1555 : decode cL_law 1555 = .ok (.ireturn, 1) := by decide +kernel
theorem dL_law_1556 : decode cL_law 1556 = .ok (.aload_n 1, 1) := by decide +kernel
theorem dL_law_1557 : decode cL_law 1557 = .ok (.invokevirtual 189, 3) := by decide +kernel
theorem dL_law_1560 : decode cL_law 1560 = .ok (.aload_n 2, 1) := by decide +kernel
theorem dL_law_1561 : decode cL_law 1561 = .ok (.invokevirtual 192, 3) := by decide +kernel
theorem dL_law_1564 : decode cL_law 1564 = .ok (.if_icmp .eq 5, 3) := by decide +kernel
theorem dL_law_1567 : decode cL_law 1567 = .ok (.iconst 0, 1) := by decide +kernel
theorem dL_law_1568 : decode cL_law 1568 = .ok (.ireturn, 1) := by decide +kernel
theorem dL_law_1569 : decode cL_law 1569 = .ok (.iinc 3 5, 3) := by decide +kernel
theorem dL_law_1572 : decode cL_law 1572 = .ok (.goto (-1554), 3) := by decide +kernel
theorem dL_law_1575 : decode cL_law 1575 = .ok (.iconst 1, 1) := by decide +kernel
theorem dL_law_1576 : decode cL_law 1576 = .ok (.ireturn, 1) := by decide +kernel
end
section
/-- the words that go from a method to those that it calls -/
def pm_tbl : List Cond := lw_tbl.filter goodWord
theorem pm_in {w : Cond} (i : Nat) (h : lw_tbl[i]? = some w) (hg : goodWord w = true) : w ∈ pm_tbl := List.mem_filter.mpr ⟨List.mem_of_getElem? h, hg⟩
theorem pm_goodIn {w : Cond} (hw : w ∈ pm_tbl) : GoodIn pm_tbl (w :: pm_tbl) := by
  intro v hv
  have hm : v ∈ pm_tbl := by
    rcases List.mem_cons.mp hv with rfl | h
    · exact hw
    · exact h
  exact ⟨hm, good_of_word (List.mem_filter.mp hm).2⟩
/-- links between nest mates: of a static table, of a method -/
def pm_nF : List (String × Nat × String) := [(RX1, 15, "AT_FIRST"), (RX4, 77, "LEAST"), (RX4, 81, "MOST"), (RX5, 104, "MOST")]
def pm_nM : List (String × Nat × MethodName) := [(RX7, 28, yX4_init), (RX7, 65, yX0_init), (RX7, 70, yX2_init), (RX7, 71, yX3_init), (RX1, 32, yX7_held), (RX4, 145, yX7_within), (RX5, 34, yX1_init), (RX5, 45, yX7_within), (RX6, 11, yX1_init)]
def pm_AOI (U : State) : Prop := (Cond.arrayOver (.array .int)).before #[] U = true
/-! The world as two functions over a shape: ints and longs by address and slot. Addresses are places in the order of making; from 1000 on: what stood before (tables, texts). -/
abbrev pm_I : Type := Nat → Nat → Int32
abbrev pm_J : Type := Nat → Nat → Int64
/-- a field: .inl 0 an int, .inl 1 a long, .inr r a reference -/
abbrev pm_F : Type := Nat ⊕ Option Nat
/-- a cell: a row of numbers (its kind, its length), a row of references, an object (its number, its fields) -/
abbrev pm_S : Type := (Nat × Nat) ⊕ ((Nat × List (Option Nat)) ⊕ (Nat × List pm_F))
/-- where the new cells begin, where the old ones lie, the numbers of the objects' and of the rows' sorts -/
abbrev pm_U : Type := Nat × (Nat → Nat) × va_G × (Nat → ClassId)
def pm_ad (u : pm_U) (k : Nat) : Nat := if k < 1000 then u.1 + k else u.2.1 (k - 1000)
def pm_tr (u : pm_U) (v : Value) : Value := match v with
  | .ref k => .ref (pm_ad u k)
  | w => w
def pm_fv (u : pm_U) (I : pm_I) (J : pm_J) (k j : Nat) (f : pm_F) : Value := match f with
  | .inl 0 => .int (I k j)
  | .inl _ => .long (J k j)
  | .inr none => .null
  | .inr (some r) => .ref (pm_ad u r)
def pm_ce (u : pm_U) (I : pm_I) (J : pm_J) (k : Nat) (d : pm_S) : va_E := match d with
  | .inl q => .inl (u.2.2.2 q.1, q.2, if q.1 = 2 then .inr (.inl (J k)) else .inl (I k))
  | .inr (.inl q) => .inl (u.2.2.2 q.1, q.2.length, .inr (.inr (.inr (.inr (fun j => ((q.2)[j]?).bind (fun o => o.map (pm_ad u)))))))
  | .inr (.inr q) => .inr (q.1, q.2.zipIdx.map (fun x => pm_fv u I J k x.2 x.1))
def pm_ws (u : pm_U) (sh : List pm_S) (I : pm_I) (J : pm_J) : va_W := sh.zipIdx.map (fun x => (pm_ad u x.2, pm_ce u I J x.2 x.1))
def pm_A (u : pm_U) : Nat → Prop := fun q => u.1 ≤ q
def pm_tys (u : pm_U) : List (ClassId × FieldType) := [(u.2.2.2 0, .int), (u.2.2.2 1, .byte), (u.2.2.2 2, .long), (u.2.2.2 3, .object RX1), (u.2.2.2 4, .object RX2), (u.2.2.2 5, .object RX3), (u.2.2.2 6, .array .int)]
/-- int x stands at slot k of a -/
def pm_u (I : pm_I) (a k : Nat) (x : Int32) : pm_I := fun b => if b = a then upd (I a) k x else I b
def pm_uJ (J : pm_J) (a k : Nat) (x : Int64) : pm_J := fun b => if b = a then vp_updL (J a) k x else J b
/-- the static tables -/
def pm_tn (j : Nat) : String := match j with
  | 0 => "UNDER"
  | 1 => "LEAST"
  | 2 => "MOST"
  | _ => "AT_FIRST"
def pm_tv (j : Nat) : List Int32 := match j with
  | 0 => [-1, 0, 0, 2, 1, 0]
  | 1 => [0, 0, 0, 0, 1, 0, 0, 0, 0]
  | 2 => [5, 9, 5, 99, 99, 999, 999, 99, 9]
  | _ => [0, 0, 0, 0, 50, 100, 50, 20, 1]
/-- the texts: entry of the pool, text, bytes -/
def pm_tx (i : Nat) : Nat × String × List Int32 := match i with
  | 0 => (134, "balloon", [98, 97, 108, 108, 111, 111, 110])
  | 1 => (124, "silk", [115, 105, 108, 107])
  | 2 => (126, "leaky", [108, 101, 97, 107, 121])
  | 3 => (128, "patched", [112, 97, 116, 99, 104, 101, 100])
  | 4 => (130, "chapel", [99, 104, 97, 112, 101, 108])
  | 5 => (132, "barge", [98, 97, 114, 103, 101])
  | 6 => (84, "in", [105, 110])
  | 7 => (103, "gas", [103, 97, 115])
  | 8 => (109, "sand", [115, 97, 110, 100])
  | 9 => (111, "rope", [114, 111, 112, 101])
  | 10 => (113, "bread", [98, 114, 101, 97, 100])
  | 11 => (115, "mouths", [109, 111, 117, 116, 104, 115])
  | 12 => (47, "warm", [119, 97, 114, 109])
  | 13 => (57, "cold", [99, 111, 108, 100])
  | _ => (59, "gap", [103, 97, 112])
def pm_txl : List Nat := (List.range 15).map (fun i => (pm_tx i).2.2.length)
def pm_txb : List (List Int32) := (List.range 15).map (fun i => (pm_tx i).2.2)
/-- what stands since before: the sorts' numbers, the tables, the texts -/
def pm_K (u : pm_U) (s : State) (H : Heap) : Prop :=
  va_K u.2.2.1 vwCl (pm_tys u) s ∧ (∀ j, j < 4 → va_Z RX7 (pm_tn j) "[I" (.ref (u.2.1 j)) (pm_A u) s H ∧ va_T .int (u.2.1 j) (pm_tv j).length (fun i => .int ((pm_tv j).getD i 0)) (pm_A u) s H) ∧ (∀ i, i < 15 → vk_R RX4 (pm_tx i).1 (pm_tx i).2.1 (u.2.1 (10 + i)) s) ∧
  vk_S 15 pm_txl pm_txb (fun i => u.2.1 (10 + i)) (fun i => u.2.1 (30 + i)) (pm_A u) s H ∧ va_Z "java/lang/String" "COMPACT_STRINGS" "Z" (.int 1) (pm_A u) s H ∧ va_Zq "jdk/internal/util/Preconditions" "SIOOBE_FORMATTER" "Ljava/util/function/BiFunction;" (pm_A u) s H ∧
  (∀ q ∈ pm_nF, va_Nw (.fieldLinkNest q.1 q.2.1 RX7 q.2.2 "[I" RX7) s) ∧ (∀ q ∈ pm_nM, va_Nw (.methodLinkNest q.1 q.2.1 q.2.2 RX7) s) ∧ (va_AO RX1 s ∧ va_AO RX2 s ∧ va_AO RX3 s ∧ pm_AOI s)
def pm_Wd (u : pm_U) (sh : List pm_S) (I : pm_I) (J : pm_J) (H : Heap) : Prop := va_P u.2.2.1 vwCl (pm_ws u sh I J) H ∧ H.size = u.1 + sh.length ∧ sh.length ≤ 1000
theorem pm_K.go {u : pm_U} {s U : State} {H : Heap} (hW : s.WarmedH U.vm) (hq : ∀ a : Nat, a < s.heap.size → ¬ pm_A u a → H[a]? = s.heap[a]?) (h : pm_K u s s.heap) : pm_K u U H := by
  obtain ⟨h1, h2, h3, h4, h5, h6, h7, h8, h9, h10, h11, h12⟩ := h
  exact ⟨va_K.moved hW.alike h1, fun j hj => ⟨va_Z.moved hW.alike ((h2 j hj).1.kept hq), va_T.moved hW.alike ((h2 j hj).2.kept hq)⟩, fun i hi => vk_R.warm hW (h3 i hi), vk_S.moved hW.alike (h4.kept hq), va_Z.moved hW.alike (h5.kept hq), va_Zq.moved hW.alike (h6.kept hq), fun q hq => va_Nw.warmF hW (h7 q hq), fun q hq => va_Nw.warmM hW (h8 q hq), h9.moved hW.alike, h10.moved hW.alike, h11.moved hW.alike, arrayOver_alikeB hW.alike h12⟩
theorem pm_K.same {u : pm_U} {s U : State} {H : Heap} (hv : U.vm = s.vm) (h : pm_K u s H) : pm_K u U H := by
  obtain ⟨h1, h2, h3, h4, h5, h6, h7, h8, h9, h10, h11, h12⟩ := h
  have ha : s.vm.Alike U.vm := by rw [hv]; exact Vm.Alike.refl _
  exact ⟨va_K.moved ha h1, fun j hj => ⟨va_Z.moved ha (h2 j hj).1, va_T.moved ha (h2 j hj).2⟩, fun i hi => vk_R.same hv (h3 i hi), vk_S.moved ha h4, va_Z.moved ha h5, va_Zq.moved ha h6, fun q hq => va_Nw.same rfl hv.symm (h7 q hq), fun q hq => va_Nw.same rfl hv.symm (h8 q hq), h9.moved ha, h10.moved ha, h11.moved ha, arrayOver_alikeB ha h12⟩
theorem pm_ws_get {u : pm_U} {sh : List pm_S} {I : pm_I} {J : pm_J} {k : Nat} {d : pm_S} (h : sh[k]? = some d) : (pm_ws u sh I J)[k]? = some (pm_ad u k, pm_ce u I J k d) := by
  simp [pm_ws, h]
theorem pm_ws_len {u : pm_U} {sh : List pm_S} {I : pm_I} {J : pm_J} : (pm_ws u sh I J).length = sh.length := by simp [pm_ws]
theorem pm_ws_inv {u : pm_U} {sh : List pm_S} {I : pm_I} {J : pm_J} {k : Nat} {q : Nat × va_E} (h : (pm_ws u sh I J)[k]? = some q) : ∃ d, sh[k]? = some d ∧ q = (pm_ad u k, pm_ce u I J k d) := by
  have hk : k < sh.length := by rw [← pm_ws_len (u := u) (I := I) (J := J)]; exact (List.getElem?_eq_some_iff.mp h).1
  have h1 := pm_ws_get (u := u) (I := I) (J := J) (List.getElem?_eq_getElem hk)
  exact ⟨_, List.getElem?_eq_getElem hk, Option.some.inj (h.symm.trans h1)⟩
theorem pm_ad_lo {u : pm_U} {k : Nat} (h : k < 1000) : pm_ad u k = u.1 + k := if_pos h
theorem pm_ws_D {u : pm_U} {sh : List pm_S} {I : pm_I} {J : pm_J} (h : sh.length ≤ 1000) : va_D (pm_A u) (pm_ws u sh I J) := by
  refine ⟨fun i j p q hi hj e => ?_, fun k q hk => ?_⟩
  · have li := (List.getElem?_eq_some_iff.mp hi).1
    have lj := (List.getElem?_eq_some_iff.mp hj).1
    rw [pm_ws_len] at li lj
    obtain ⟨d, -, rfl⟩ := pm_ws_inv hi
    obtain ⟨d', -, rfl⟩ := pm_ws_inv hj
    have e2 : pm_ad u i = pm_ad u j := e
    rw [pm_ad_lo (by omega), pm_ad_lo (by omega)] at e2
    omega
  · have lk := (List.getElem?_eq_some_iff.mp hk).1
    rw [pm_ws_len] at lk
    obtain ⟨d, -, rfl⟩ := pm_ws_inv hk
    show u.1 ≤ pm_ad u k
    rw [pm_ad_lo (by omega)]
    omega
/-- one cell otherwise -/
theorem pm_ws_set {u : pm_U} {sh : List pm_S} {I I' : pm_I} {J J' : pm_J} {k : Nat} {d' : pm_S} (hk : k < sh.length) (hI : ∀ a, a ≠ k → I' a = I a) (hJ : ∀ a, a ≠ k → J' a = J a) :
    (pm_ws u sh I J).set k (pm_ad u k, pm_ce u I' J' k d') = pm_ws u (sh.set k d') I' J' := by
  apply List.ext_getElem?
  intro i
  by_cases hi : i = k
  · subst hi
    rw [List.getElem?_set_self (by rw [pm_ws_len]; exact hk), pm_ws_get (List.getElem?_set_self hk)]
  · rw [List.getElem?_set_ne (Ne.symm hi)]
    by_cases hl : i < sh.length
    · rw [pm_ws_get (List.getElem?_eq_getElem hl), pm_ws_get (d := sh[i]) (by rw [List.getElem?_set_ne (Ne.symm hi)]; exact List.getElem?_eq_getElem hl)]
      have e : pm_ce u I J i sh[i] = pm_ce u I' J' i sh[i] := by
        have e1 : ∀ (j : Nat) (f : pm_F), pm_fv u I J i j f = pm_fv u I' J' i j f := by
          intro j f
          unfold pm_fv
          rw [hI i hi, hJ i hi]
        rcases sh[i] with q | q | q
        · simp only [pm_ce]; rw [hI i hi, hJ i hi]
        · rfl
        · simp only [pm_ce]
          congr 2
          apply List.map_congr_left
          intro x _
          exact e1 _ _
      rw [e]
    · rw [List.getElem?_eq_none (by rw [pm_ws_len]; omega), List.getElem?_eq_none (by rw [pm_ws_len, List.length_set]; omega)]
theorem pm_ws_same {u : pm_U} {sh : List pm_S} {I I' : pm_I} {J J' : pm_J} {k : Nat} {d : pm_S} (hk : sh[k]? = some d) (hI : ∀ a, a ≠ k → I' a = I a) (hJ : ∀ a, a ≠ k → J' a = J a) :
    (pm_ws u sh I J).set k (pm_ad u k, pm_ce u I' J' k d) = pm_ws u sh I' J' := by
  have hl := (List.getElem?_eq_some_iff.mp hk)
  rw [pm_ws_set hl.1 hI hJ]
  congr 1
  rw [← hl.2]
  exact List.set_getElem_self hl.1
theorem pm_u_at {I : pm_I} {a k : Nat} {x : Int32} : pm_u I a k x a = upd (I a) k x := if_pos rfl
theorem pm_u_off {I : pm_I} {a k b : Nat} {x : Int32} (h : b ≠ a) : pm_u I a k x b = I b := if_neg h
theorem pm_uJ_at {J : pm_J} {a k : Nat} {x : Int64} : pm_uJ J a k x a = vp_updL (J a) k x := if_pos rfl
theorem pm_uJ_off {J : pm_J} {a k b : Nat} {x : Int64} (h : b ≠ a) : pm_uJ J a k x b = J b := if_neg h
/-- all that a walk holds fast -/
abbrev pm_T : Type := Program × Launch × Env × Room × State × MethodId × Array Value × List Frame × Method × Code × (State → Prop) × pm_U × Nat
/-- from here the machine comes to its end: at pc, with these locals, this stack, this world -/
def pm_G (Γ : pm_T) (cells slots pc : Nat) (L : List (Nat × Value)) (st : List Value) (sh : List pm_S) (I : pm_I) (J : pm_J) : Prop := match Γ with
  | (p, l, e, R, s, m, args, below, meth, c, Q, u, nL) => ∀ (H : Heap) (locs : List Loc) (ls : Array Slot), pm_Wd u sh I J H → va_S (pm_A u) s.heap H locs → lv_has ls nL (L.map fun q => (q.1, pm_tr u q.2)) → cells ≤ R.cells → slots ≤ R.slots → W p l e R s m args below meth c H locs cells slots Q (F0 m pc ls (st.map (pm_tr u)))
/-- the frame of a walk: the code, whose it is, how deep calls may go, how many locals -/
def pm_Cx (Γ : pm_T) (own : String) (cc : ByteArray) (d n : Nat) : Prop := match Γ with
  | (p, _, _, R, s, m, args, _, meth, c, _, u, nL) => p.tables.exec = Jvm.exec ∧ c.code = cc ∧ c.maxLocals = nL ∧ nL = n ∧ s.vm.findClass own = some m.cls ∧ (∀ w ∈ pm_tbl, w.before args s = true) ∧ meth.locks = false ∧ pm_K u s s.heap ∧ d ≤ R.frames ∧ 36 * d ≤ R.locals ∧ u.1 ≤ s.heap.size
def pm_Qc (u : pm_U) (Post : Option Value → List pm_S → pm_I → pm_J → Prop) : Array Value → State → Outcome → State → Prop := fun _ st oc t => (∃ (r : Option Value) (sh' : List pm_S) (I' : pm_I) (J' : pm_J), oc = .returned (r.map (pm_tr u)) ∧ Post r sh' I' J' ∧ pm_Wd u sh' I' J' t.heap) ∧ va_F (pm_A u) st t
/-- its end -/
def pm_Ct (Γ : pm_T) (nm : String) (ret : Option FieldType) (mc ms : Nat) (Post : Option Value → List pm_S → pm_I → pm_J → Prop) : Prop := match Γ with
  | (_, _, _, R, s, _, args, below, meth, _, Q, u, _) => meth.name = nm ∧ meth.sig.returnType = ret ∧ Q = MQ below (pm_Qc u Post) args s mc ms (pm_A u) ∧ R.cells = mc ∧ R.slots = ms
def pm_rm (d mc ms : Nat) : Room := { frames := d, cells := mc, slots := ms, locals := 36 * d }
/-- a method's contract -/
def pm_M (d mc ms : Nat) (y : MethodName) (bytes : ByteArray) (maxL : Nat) (ret : Option FieldType) (av : List Value) (sh : List pm_S) (I : pm_I) (J : pm_J) (Post : Option Value → List pm_S → pm_I → pm_J → Prop) : Prop :=
  ∀ (l : Launch) (u : pm_U), Met l y (.code y bytes maxL ret :: pm_tbl) (pm_rm d mc ms) (va_Pc (av.map (pm_tr u)) (fun U => pm_Wd u sh I J U.heap ∧ pm_K u U U.heap)) (pm_Qc u Post) mc ms (pm_A u)
theorem pm_tr_cat (u : pm_U) (v : Value) : (pm_tr u v).category = v.category := by cases v <;> rfl
theorem pm_args (u : pm_U) : ∀ (vs : List Value) (i : Nat), lv_args i (vs.map (pm_tr u)) = (lv_args i vs).map fun q => (q.1, pm_tr u q.2)
  | [], _ => rfl
  | v :: vs, i => by
    show (i, pm_tr u v) :: lv_args (if (pm_tr u v).category = 2 then i + 2 else i + 1) (vs.map (pm_tr u)) = _
    rw [pm_tr_cat, pm_args u vs]
    rfl
theorem pm_sl (u : pm_U) : ∀ (vs : List Value), (lg_sl (vs.map (pm_tr u))).length = (lg_sl vs).length
  | [] => rfl
  | v :: vs => by
    have e : lg_sl ((v :: vs).map (pm_tr u)) = (if (pm_tr u v).category = 2 then [.val (pm_tr u v), .second] else [.val (pm_tr u v)]) ++ lg_sl (vs.map (pm_tr u)) := rfl
    have e2 : lg_sl (v :: vs) = (if v.category = 2 then [.val v, .second] else [.val v]) ++ lg_sl vs := rfl
    rw [e, e2, List.length_append, List.length_append, pm_sl u vs, pm_tr_cat]
    split <;> rfl
/-- how a contract's proof begins -/
theorem pm_start {d mc ms : Nat} {y : MethodName} {bytes : ByteArray} {maxL : Nat} {ret : Option FieldType} {av : List Value} {sh : List pm_S} {I : pm_I} {J : pm_J} {Post : Option Value → List pm_S → pm_I → pm_J → Prop} {own nm : String} (hy : plainName y.cls = true) (ho : y.cls = own) (hnm : y.name = nm) {L : List (Nat × Value)} (hL : lv_args 0 av = L) (hn : (lg_sl av).length ≤ maxL)
    (k : ∀ Γ : pm_T, pm_Cx Γ own bytes d maxL → pm_Ct Γ nm ret mc ms Post → pm_G Γ 0 0 0 L [] sh I J) : pm_M d mc ms y bytes maxL ret av sh I J Post := by
  intro l u
  refine Met.ofW (cc := bytes) (maxL := maxL) (ret := ret) hy rfl ?_
  intro p e s m args below meth c s₁ B hml hv
  obtain ⟨rfl, hWd, hK⟩ := hv
  have hts := atoms_spec (ws := .code y bytes maxL ret :: pm_tbl) B.pre
  have hown : s.vm.findClass own = some m.cls := by rw [← ho]; exact findClass_of_methodNamed B.named
  have hname : meth.name = nm := (name_of_methodNamed B.named B.method).1.trans hnm
  have h := k (p, l, e, pm_rm d mc ms, s, m, (av.map (pm_tr u)).toArray, below, meth, c, MQ below (pm_Qc u Post) (av.map (pm_tr u)).toArray s mc ms (pm_A u), u, maxL)
    ⟨B.exec, B.bytes, hml, rfl, hown, fun w hw => hts w (List.mem_cons_of_mem _ hw), B.notSynchronized, hK, Nat.le_refl _, Nat.le_refl _, by rw [hWd.2.1]; omega⟩ ⟨hname, B.returns, rfl, rfl, rfl⟩
  rw [lg_entry_eq]
  have hl := lv_entry (av.map (pm_tr u)) (n := maxL) (by rw [pm_sl]; exact hn)
  rw [pm_args, hL] at hl
  exact h s.heap [] _ hWd va_S.rf hl (Nat.zero_le _) (Nat.zero_le _)
end
section
/-! One rule an instruction, over pm_G -/
theorem pm_lk {u : pm_U} {ls : Array Slot} {nL : Nat} {L : List (Nat × Value)} {i j : Nat} {v : Value} (h : lv_has ls nL (L.map fun q => (q.1, pm_tr u q.2))) (hj : L[j]? = some (i, v)) : ls[i]? = some (.val (pm_tr u v)) := lv_at h j (by rw [List.getElem?_map, hj]; rfl)
theorem pm_ad_hi (u : pm_U) (j : Nat) : pm_ad u (1000 + j) = u.2.1 j := by
  unfold pm_ad
  rw [if_neg (by omega), Nat.add_sub_cancel_left]
def pm_ins (i : Nat) (v : Value) : List (Nat × Value) → List (Nat × Value)
  | [] => [(i, v)]
  | q :: l => if i < q.1 then (i, v) :: q :: l else q :: pm_ins i v l
theorem pm_ins_mem {i : Nat} {v : Value} {q : Nat × Value} : ∀ {l : List (Nat × Value)}, q ∈ pm_ins i v l → q = (i, v) ∨ q ∈ l
  | [], h => Or.inl (List.mem_singleton.mp h)
  | x :: l, h => by
    unfold pm_ins at h
    split at h
    · rcases List.mem_cons.mp h with h | h
      · exact Or.inl h
      · exact Or.inr h
    · rcases List.mem_cons.mp h with h | h
      · exact Or.inr (h ▸ List.mem_cons_self)
      · rcases pm_ins_mem h with h | h
        · exact Or.inl h
        · exact Or.inr (List.mem_cons_of_mem _ h)
def pm_st (L : List (Nat × Value)) (i : Nat) (v : Value) : List (Nat × Value) := pm_ins i v (L.filter (fun q => !(q.1 == i) && !(q.1 + 1 == i && q.2.category == 2)))
def pm_stl (L : List (Nat × Value)) (i : Nat) (v : Value) : List (Nat × Value) := pm_ins i v (L.filter (fun q => !(q.1 == i) && (!(q.1 == i + 1) && !(q.1 + 1 == i && q.2.category == 2))))
theorem pm_st_has {u : pm_U} {ls : Array Slot} {nL : Nat} {L : List (Nat × Value)} {i : Nat} {v : Value} (h : lv_has ls nL ((i, pm_tr u v) :: (L.map fun q => (q.1, pm_tr u q.2)).filter (fun q => !(q.1 == i) && !(q.1 + 1 == i && q.2.category == 2)))) : lv_has ls nL ((pm_st L i v).map fun q => (q.1, pm_tr u q.2)) := by
  refine ⟨h.1, h.2.1, fun q hm => h.2.2 q ?_⟩
  obtain ⟨q0, hm0, rfl⟩ := List.mem_map.mp hm
  rcases pm_ins_mem hm0 with rfl | hm1
  · exact List.mem_cons_self
  · obtain ⟨m1, m2⟩ := List.mem_filter.mp hm1
    refine List.mem_cons_of_mem _ (List.mem_filter.mpr ⟨List.mem_map.mpr ⟨q0, m1, rfl⟩, ?_⟩)
    show (!(q0.1 == i) && !(q0.1 + 1 == i && (pm_tr u q0.2).category == 2)) = true
    rw [pm_tr_cat]
    exact m2
theorem pm_stl_has {u : pm_U} {ls : Array Slot} {nL : Nat} {L : List (Nat × Value)} {i : Nat} {v : Value} (h : lv_has ls nL ((i, pm_tr u v) :: (L.map fun q => (q.1, pm_tr u q.2)).filter (fun q => !(q.1 == i) && (!(q.1 == i + 1) && !(q.1 + 1 == i && q.2.category == 2))))) : lv_has ls nL ((pm_stl L i v).map fun q => (q.1, pm_tr u q.2)) := by
  refine ⟨h.1, h.2.1, fun q hm => h.2.2 q ?_⟩
  obtain ⟨q0, hm0, rfl⟩ := List.mem_map.mp hm
  rcases pm_ins_mem hm0 with rfl | hm1
  · exact List.mem_cons_self
  · obtain ⟨m1, m2⟩ := List.mem_filter.mp hm1
    refine List.mem_cons_of_mem _ (List.mem_filter.mpr ⟨List.mem_map.mpr ⟨q0, m1, rfl⟩, ?_⟩)
    show (!(q0.1 == i) && (!(q0.1 == i + 1) && !(q0.1 + 1 == i && (pm_tr u q0.2).category == 2))) = true
    rw [pm_tr_cat]
    exact m2
/-- a link to a field, read; written; written as final by its own maker -/
def pm_fl (own : String) (idx ci q : Nat) : Prop := ∃ (C : String) (T : u_T) (N : Nat), vwCl[ci]? = some (C, T, N) ∧ q < N ∧ Cond.fieldLink own idx (T q).1 (T q).2.1 (T q).2.2.1 ∈ pm_tbl ∧ (∀ w ∈ u_ws C T N, w ∈ pm_tbl)
def pm_fp (own : String) (idx ci q : Nat) (fin : Bool) (ty : FieldType) : Prop := ∃ (C : String) (T : u_T) (N : Nat) (ty9 : Nat → FieldType), vwCl[ci]? = some (C, T, N) ∧ q < N ∧ Cond.fieldLink own idx (T q).1 (T q).2.1 (T q).2.2.1 ∈ pm_tbl ∧ (∀ w ∈ u_ws C T N, w ∈ pm_tbl) ∧
  (∀ k, k < N → parseFieldDescriptor (T k).2.2.1 = some (ty9 k)) ∧ (∀ a, a < N → ∀ b, b < N → a ≠ b → (T a).2.1 ≠ (T b).2.1) ∧ (T q).2.2.2 = fin ∧ parseFieldDescriptor (T q).2.2.1 = some ty ∧ (fin = true → (T q).1 = own)
theorem pm_fget {u : pm_U} {I : pm_I} {J : pm_J} {a q : Nat} {fs : List pm_F} {f : pm_F} (h : fs[q]? = some f) : (fs.zipIdx.map (fun x => pm_fv u I J a x.2 x.1))[q]? = some (pm_fv u I J a q f) := by simp [h]
theorem pm_flen {u : pm_U} {I : pm_I} {J : pm_J} {a q : Nat} {fs : List pm_F} {f : pm_F} (h : fs[q]? = some f) : q < (fs.zipIdx.map (fun x => pm_fv u I J a x.2 x.1)).length := by
  rw [List.length_map, List.length_zipIdx]
  exact (List.getElem?_eq_some_iff.mp h).1
/-- an object's fields, one otherwise -/
theorem pm_fset {u : pm_U} {I I' : pm_I} {J J' : pm_J} {a q : Nat} {fs : List pm_F} {f f' : pm_F} (h : fs[q]? = some f) (hI : ∀ j, j ≠ q → I' a j = I a j) (hJ : ∀ j, j ≠ q → J' a j = J a j) :
    (fs.zipIdx.map (fun x => pm_fv u I J a x.2 x.1)).set q (pm_fv u I' J' a q f') = (fs.set q f').zipIdx.map (fun x => pm_fv u I' J' a x.2 x.1) := by
  have hq := (List.getElem?_eq_some_iff.mp h).1
  apply List.ext_getElem?
  intro i
  by_cases hi : i = q
  · subst hi
    rw [List.getElem?_set_self (by rw [List.length_map, List.length_zipIdx]; exact hq), pm_fget (f := f') (List.getElem?_set_self hq)]
  · rw [List.getElem?_set_ne (Ne.symm hi)]
    by_cases hl : i < fs.length
    · rw [pm_fget (List.getElem?_eq_getElem hl), pm_fget (f := fs[i]) (by rw [List.getElem?_set_ne (Ne.symm hi)]; exact List.getElem?_eq_getElem hl)]
      congr 1
      unfold pm_fv
      rw [hI i hi, hJ i hi]
    · rw [List.getElem?_eq_none (by simp; omega), List.getElem?_eq_none (by simp; omega)]
theorem pm_upd_off {f : Nat → Int32} {k j : Nat} {x : Int32} (h : j ≠ k) : upd f k x j = f j := pk_un h
theorem pm_oset {u : pm_U} {sh : List pm_S} {I I' : pm_I} {J J' : pm_J} {a ci q : Nat} {fs : List pm_F} {f f' : pm_F} (ha : sh[a]? = some (.inr (.inr (ci, fs)))) (hq : fs[q]? = some f) (hI : ∀ b, b ≠ a → I' b = I b) (hJ : ∀ b, b ≠ a → J' b = J b) (hI2 : ∀ j, j ≠ q → I' a j = I a j) (hJ2 : ∀ j, j ≠ q → J' a j = J a j) :
    (pm_ws u sh I J).set a (pm_ad u a, .inr (ci, (fs.zipIdx.map (fun x => pm_fv u I J a x.2 x.1)).set q (pm_fv u I' J' a q f'))) = pm_ws u (sh.set a (.inr (.inr (ci, fs.set q f')))) I' J' := by
  rw [pm_fset hq hI2 hJ2]
  exact pm_ws_set (d' := .inr (.inr (ci, fs.set q f'))) (List.getElem?_eq_some_iff.mp ha).1 hI hJ
theorem pm_shset {sh : List pm_S} {a : Nat} {d : pm_S} (h : sh[a]? = some d) : sh.set a d = sh := by
  obtain ⟨h1, h2⟩ := List.getElem?_eq_some_iff.mp h
  rw [← h2]
  exact List.set_getElem_self h1
theorem pm_fsset {fs : List pm_F} {a : Nat} {d : pm_F} (h : fs[a]? = some d) : fs.set a d = fs := by
  obtain ⟨h1, h2⟩ := List.getElem?_eq_some_iff.mp h
  rw [← h2]
  exact List.set_getElem_self h1
section PMW
variable {p : Program} {l : Launch} {e : Env} {R : Room} {s : State} {m : MethodId} {args : Array Value} {below : List Frame} {meth : Method} {c : Code} {H : Heap} {locs : List Loc} {cells slots : Nat} {Q : State → Prop} {own : String} {cc : ByteArray} {pc : Nat} {ls : Array Slot} {rest : List Value} {u : pm_U} {sh sh' : List pm_S} {I I' : pm_I} {J J' : pm_J}
theorem pm_put {idx a ci q : Nat} {fs : List pm_F} {ty : FieldType} {v : Value} {fin : Bool} (hx : p.tables.exec = Jvm.exec) (hb : c.code = cc) (hown : s.vm.findClass own = some m.cls) (hts : ∀ w ∈ pm_tbl, w.before args s = true) (hK : va_K u.2.2.1 vwCl (pm_tys u) s) (hW : pm_Wd u sh I J H) (hS : va_S (pm_A u) s.heap H locs) (hd : decode cc pc = .ok (.putfield idx, 3)) (K : pm_fp own idx ci q fin ty) (hfin : fin = true → meth.name = "<init>") (hn : narrow ty v = v) (hf : fits ty v = true) (ha : sh[a]? = some (.inr (.inr (ci, fs)))) (hq : q < fs.length) (hlen : sh'.length = sh.length)
    (hset : (pm_ws u sh I J).set a (pm_ad u a, .inr (ci, (fs.zipIdx.map (fun x => pm_fv u I J a x.2 x.1)).set q v)) = pm_ws u sh' I' J')
    (k : ∀ (H1 : Heap) (locs1 : List Loc), pm_Wd u sh' I' J' H1 → va_S (pm_A u) s.heap H1 locs1 → W p l e R s m args below meth c H1 locs1 cells slots Q (F0 m (pc + 3) ls rest)) : W p l e R s m args below meth c H locs cells slots Q (F0 m pc ls (v :: .ref (pm_ad u a) :: rest)) := by
  obtain ⟨C9, T9, N9, ty9, k1, k2, k3, k4, k5, k6, k7, k8, k9⟩ := K
  have hD := pm_ws_D (u := u) (I := I) (J := J) hW.2.2
  have he := pm_ws_get (u := u) (I := I) (J := J) ha
  have hap := va_apart (own := own) hts k4 ty9 k5 k6 hK k1
  obtain ⟨r, h1, cell, q1, q2, q3, q4⟩ := hW.1 a _ he
  have hr : r = (C9, T9, N9) := Option.some.inj (h1.symm.trans k1)
  subst hr
  obtain ⟨hS9, hfc, kC, hkC, hkind⟩ := hK.1 ci _ k1
  obtain ⟨cf, kf, fi, f, hi, hsl⟩ := hS9 q k2
  have hlay := hts _ (k4 _ (u_in_lay k2))
  unfold u_lay at hlay
  have hst := (u_facts hfc hkC (u_lays hts k4 k2) hi).1
  have key : ∀ (H1 : Heap) (locs1 : List Loc), H1[pm_ad u a]? = some (cell.setSlot (u.2.2.1.2 ci q) v) → H1.size = H.size → (∀ x : Nat, x ≠ pm_ad u a → H1[x]? = H[x]?) → W p l e R s m args below meth c H1 (locs ++ [⟨pm_ad u a, u.2.2.1.2 ci q⟩]) cells slots Q (F0 m (pc + 3) ls rest) := by
    intro H1 locs1 e1 e2 e3
    have hP1 := hW.1.set hD he (e := .inr (ci, (fs.zipIdx.map (fun x => pm_fv u I J a x.2 x.1)).set q v)) ⟨_, k1, t_OB.to (V := updV (vp_V (fs.zipIdx.map (fun x => pm_fv u I J a x.2 x.1))) q v) ⟨_, e1, q2, q3, t_set q4 hap k2 _⟩ (fun j _ => vp_updV_set (by rw [List.length_map, List.length_zipIdx]; exact hq) _ j)⟩ e3
    rw [hset] at hP1
    exact k H1 _ ⟨hP1, by rw [e2, hW.2.1, hlen], by rw [hlen]; exact hW.2.2⟩ (hS.put e2 e3 (hD.2 a _ he))
  cases fin with
  | false =>
    rw [if_neg (by rw [k7]; decide)] at hlay
    refine W.putK hx hb (f := f) ⟨hown, hts _ k3, ⟨_, _, _, hi⟩, hst⟩ (by rw [q2]; exact u_store hfc hkC hkind hlay hi k8 hn hf) q1 q3 (by rw [hsl]; exact k2_hasslot (q4 q k2)) rfl rfl hd fun H1 e1 e2 e3 => ?_
    rw [hsl] at e1 ⊢
    exact key H1 locs e1 e2 e3
  | true =>
    rw [if_pos k7] at hlay
    have hcf : m.cls = cf := by
      obtain ⟨_, _, c', _, _, _, -, -, hf', -, -, -, hown2, -⟩ := Cond.laysFinal_spec hlay
      have e1 : c' = cf := by have := hi.symm.trans hf'; simp at this; exact this.1.symm
      rw [k9 rfl] at hown2
      rw [← e1]; exact Option.some.inj (hown.symm.trans hown2)
    refine W.putFinK hx hb hown (hts _ k3) hi hst hcf (hfin rfl) (by rw [q2]; exact u_fits hfc hkC hkind (Or.inr hlay) hi k8 hn hf) q1 q3 (by rw [hsl]; exact k2_hasslot (q4 q k2)) rfl rfl hd fun H1 e1 e2 e3 => ?_
    rw [hsl] at e1 ⊢
    exact key H1 locs e1 e2 e3
theorem pm_clamp {i : Int32} {j N : Nat} (hi : i = nI j) (hj : j < N) (hN : N ≤ 100000) : i.toNatClampNeg = j ∧ vp_in i N := by
  subst hi
  exact ⟨nI_clamp (by omega), vp_in_nI hj (by omega)⟩
/-- a store into a row, after the machine's own step -/
theorem pm_ast {a : Nat} {d : pm_S} {H1 : Heap} {x : Nat} (hW : pm_Wd u sh I J H) (hS : va_S (pm_A u) s.heap H locs) (ha : sh[a]? = some d) (hI : ∀ b, b ≠ a → I' b = I b) (hJ : ∀ b, b ≠ a → J' b = J b) (he : va_at u.2.2.1 vwCl (pm_ad u a, pm_ce u I' J' a d) H1) (z : H1.size = H.size) (oq : ∀ q : Nat, q ≠ pm_ad u a → H1[q]? = H[q]?) : pm_Wd u sh I' J' H1 ∧ va_S (pm_A u) s.heap H1 (locs ++ [⟨pm_ad u a, x⟩]) := by
  have hD := pm_ws_D (u := u) (I := I) (J := J) hW.2.2
  have h0 := pm_ws_get (u := u) (I := I) (J := J) ha
  have hP1 := hW.1.set hD h0 he oq
  rw [pm_ws_same ha hI hJ] at hP1
  exact ⟨⟨hP1, z.trans hW.2.1, hW.2.2⟩, hS.put z oq (hD.2 a _ h0)⟩
end PMW
section PMR
variable {Γ : pm_T} {own : String} {cc : ByteArray} {d n cells slots pc : Nat} {L : List (Nat × Value)} {st : List Value} {sh : List pm_S} {I : pm_I} {J : pm_J}
theorem g_iconst {z : Int} {v : Int32} (C : pm_Cx Γ own cc d n) (hd : decode cc pc = .ok (.iconst z, 1)) (hv : Int32.ofInt z = v) (k : pm_G Γ cells slots (pc + 1) L (.int v :: st) sh I J) : pm_G Γ cells slots pc L st sh I J := by
  obtain ⟨p, l, e, R, s, m, args, below, meth, c, Q, u, nL⟩ := Γ
  obtain ⟨hx, hb, hml, rfl, hown, hts, hlk, hK, hfr, hlo, hB⟩ := C
  intro H locs ls hW hS hl hc hs
  exact lv_iconst hx hb hd hv (k H locs ls hW hS hl hc hs)
theorem g_bipush {z : Int} {v : Int32} (C : pm_Cx Γ own cc d n) (hd : decode cc pc = .ok (.bipush z, 2)) (hv : (Int8.ofInt z).toInt32 = v) (k : pm_G Γ cells slots (pc + 2) L (.int v :: st) sh I J) : pm_G Γ cells slots pc L st sh I J := by
  obtain ⟨p, l, e, R, s, m, args, below, meth, c, Q, u, nL⟩ := Γ
  obtain ⟨hx, hb, hml, rfl, hown, hts, hlk, hK, hfr, hlo, hB⟩ := C
  intro H locs ls hW hS hl hc hs
  exact lv_bipush hx hb hd hv (k H locs ls hW hS hl hc hs)
theorem g_sipush {z : Int} {v : Int32} (C : pm_Cx Γ own cc d n) (hd : decode cc pc = .ok (.sipush z, 3)) (hv : (Int16.ofInt z).toInt32 = v) (k : pm_G Γ cells slots (pc + 3) L (.int v :: st) sh I J) : pm_G Γ cells slots pc L st sh I J := by
  obtain ⟨p, l, e, R, s, m, args, below, meth, c, Q, u, nL⟩ := Γ
  obtain ⟨hx, hb, hml, rfl, hown, hts, hlk, hK, hfr, hlo, hB⟩ := C
  intro H locs ls hW hS hl hc hs
  exact lv_sipush hx hb hd hv (k H locs ls hW hS hl hc hs)
theorem g_lconst {z : Fin 2} {v : Int64} (C : pm_Cx Γ own cc d n) (hd : decode cc pc = .ok (.lconst z, 1)) (hv : Int64.ofNat (z : Nat) = v) (k : pm_G Γ cells slots (pc + 1) L (.long v :: st) sh I J) : pm_G Γ cells slots pc L st sh I J := by
  obtain ⟨p, l, e, R, s, m, args, below, meth, c, Q, u, nL⟩ := Γ
  obtain ⟨hx, hb, hml, rfl, hown, hts, hlk, hK, hfr, hlo, hB⟩ := C
  intro H locs ls hW hS hl hc hs
  exact lv_lconst hx hb hd hv (k H locs ls hW hS hl hc hs)
theorem g_ldc {idx : Nat} {v : Int32} (C : pm_Cx Γ own cc d n) (hd : decode cc pc = .ok (.ldc idx, 2)) (hw : Cond.constant own idx v ∈ pm_tbl) (k : pm_G Γ cells slots (pc + 2) L (.int v :: st) sh I J) : pm_G Γ cells slots pc L st sh I J := by
  obtain ⟨p, l, e, R, s, m, args, below, meth, c, Q, u, nL⟩ := Γ
  obtain ⟨hx, hb, hml, rfl, hown, hts, hlk, hK, hfr, hlo, hB⟩ := C
  intro H locs ls hW hS hl hc hs
  exact lv_ldc hx hb hown (hts _ hw) hd (k H locs ls hW hS hl hc hs)
theorem g_ldcw {idx : Nat} {v : Int32} (C : pm_Cx Γ own cc d n) (hd : decode cc pc = .ok (.ldc_w idx, 3)) (hw : Cond.constant own idx v ∈ pm_tbl) (k : pm_G Γ cells slots (pc + 3) L (.int v :: st) sh I J) : pm_G Γ cells slots pc L st sh I J := by
  obtain ⟨p, l, e, R, s, m, args, below, meth, c, Q, u, nL⟩ := Γ
  obtain ⟨hx, hb, hml, rfl, hown, hts, hlk, hK, hfr, hlo, hB⟩ := C
  intro H locs ls hW hS hl hc hs
  exact lv_ldcw hx hb hown (hts _ hw) hd (k H locs ls hW hS hl hc hs)
theorem g_ldc2 {idx : Nat} {v : Int64} (C : pm_Cx Γ own cc d n) (hd : decode cc pc = .ok (.ldc2_w idx, 3)) (hw : Cond.constantLong own idx v ∈ pm_tbl) (k : pm_G Γ cells slots (pc + 3) L (.long v :: st) sh I J) : pm_G Γ cells slots pc L st sh I J := by
  obtain ⟨p, l, e, R, s, m, args, below, meth, c, Q, u, nL⟩ := Γ
  obtain ⟨hx, hb, hml, rfl, hown, hts, hlk, hK, hfr, hlo, hB⟩ := C
  intro H locs ls hW hS hl hc hs
  exact lv_ldc2 hx hb hown (hts _ hw) hd (k H locs ls hW hS hl hc hs)
theorem g_iload_n {q : Fin 4} {i j : Nat} {x : Int32} (C : pm_Cx Γ own cc d n) (hd : decode cc pc = .ok (.iload_n q, 1)) (hi : (q : Nat) = i) (hj : L[j]? = some (i, .int x)) (k : pm_G Γ cells slots (pc + 1) L (.int x :: st) sh I J) : pm_G Γ cells slots pc L st sh I J := by
  obtain ⟨p, l, e, R, s, m, args, below, meth, c, Q, u, nL⟩ := Γ
  obtain ⟨hx, hb, hml, rfl, hown, hts, hlk, hK, hfr, hlo, hB⟩ := C
  intro H locs ls hW hS hl hc hs
  exact lv_iload_n hx hb hd hi (x := x) (pm_lk hl hj) (k H locs ls hW hS hl hc hs)
theorem g_iload {i j : Nat} {x : Int32} (C : pm_Cx Γ own cc d n) (hd : decode cc pc = .ok (.iload i, 2)) (hj : L[j]? = some (i, .int x)) (k : pm_G Γ cells slots (pc + 2) L (.int x :: st) sh I J) : pm_G Γ cells slots pc L st sh I J := by
  obtain ⟨p, l, e, R, s, m, args, below, meth, c, Q, u, nL⟩ := Γ
  obtain ⟨hx, hb, hml, rfl, hown, hts, hlk, hK, hfr, hlo, hB⟩ := C
  intro H locs ls hW hS hl hc hs
  exact lv_iload hx hb hd (x := x) (pm_lk hl hj) (k H locs ls hW hS hl hc hs)
theorem g_istore_n {q : Fin 4} {i : Nat} {x : Int32} {L2 : List (Nat × Value)} (C : pm_Cx Γ own cc d n) (hd : decode cc pc = .ok (.istore_n q, 1)) (hi : (q : Nat) = i) (hn : i < n) (hL : pm_st L i (.int x) = L2) (k : pm_G Γ cells slots (pc + 1) L2 st sh I J) : pm_G Γ cells slots pc L (.int x :: st) sh I J := by
  obtain ⟨p, l, e, R, s, m, args, below, meth, c, Q, u, nL⟩ := Γ
  obtain ⟨hx, hb, hml, rfl, hown, hts, hlk, hK, hfr, hlo, hB⟩ := C
  intro H locs ls hW hS hl hc hs
  subst hL
  exact lv_istore_n hx hb hd hi (x := x) hl hn rfl (fun ls2 h2 => k H locs ls2 hW hS (pm_st_has (v := .int x) h2) hc hs)
theorem g_istore {i : Nat} {x : Int32} {L2 : List (Nat × Value)} (C : pm_Cx Γ own cc d n) (hd : decode cc pc = .ok (.istore i, 2)) (hn : i < n) (hL : pm_st L i (.int x) = L2) (k : pm_G Γ cells slots (pc + 2) L2 st sh I J) : pm_G Γ cells slots pc L (.int x :: st) sh I J := by
  obtain ⟨p, l, e, R, s, m, args, below, meth, c, Q, u, nL⟩ := Γ
  obtain ⟨hx, hb, hml, rfl, hown, hts, hlk, hK, hfr, hlo, hB⟩ := C
  intro H locs ls hW hS hl hc hs
  subst hL
  exact lv_istore hx hb hd (x := x) hl hn rfl (fun ls2 h2 => k H locs ls2 hW hS (pm_st_has (v := .int x) h2) hc hs)
theorem g_lload_n {q : Fin 4} {i j : Nat} {x : Int64} (C : pm_Cx Γ own cc d n) (hd : decode cc pc = .ok (.lload_n q, 1)) (hi : (q : Nat) = i) (hj : L[j]? = some (i, .long x)) (k : pm_G Γ cells slots (pc + 1) L (.long x :: st) sh I J) : pm_G Γ cells slots pc L st sh I J := by
  obtain ⟨p, l, e, R, s, m, args, below, meth, c, Q, u, nL⟩ := Γ
  obtain ⟨hx, hb, hml, rfl, hown, hts, hlk, hK, hfr, hlo, hB⟩ := C
  intro H locs ls hW hS hl hc hs
  exact lv_lload_n hx hb hd hi (x := x) (pm_lk hl hj) (k H locs ls hW hS hl hc hs)
theorem g_lload {i j : Nat} {x : Int64} (C : pm_Cx Γ own cc d n) (hd : decode cc pc = .ok (.lload i, 2)) (hj : L[j]? = some (i, .long x)) (k : pm_G Γ cells slots (pc + 2) L (.long x :: st) sh I J) : pm_G Γ cells slots pc L st sh I J := by
  obtain ⟨p, l, e, R, s, m, args, below, meth, c, Q, u, nL⟩ := Γ
  obtain ⟨hx, hb, hml, rfl, hown, hts, hlk, hK, hfr, hlo, hB⟩ := C
  intro H locs ls hW hS hl hc hs
  exact lv_lload hx hb hd (x := x) (pm_lk hl hj) (k H locs ls hW hS hl hc hs)
theorem g_lstore_n {q : Fin 4} {i : Nat} {x : Int64} {L2 : List (Nat × Value)} (C : pm_Cx Γ own cc d n) (hd : decode cc pc = .ok (.lstore_n q, 1)) (hi : (q : Nat) = i) (hn : i + 1 < n) (hL : pm_stl L i (.long x) = L2) (k : pm_G Γ cells slots (pc + 1) L2 st sh I J) : pm_G Γ cells slots pc L (.long x :: st) sh I J := by
  obtain ⟨p, l, e, R, s, m, args, below, meth, c, Q, u, nL⟩ := Γ
  obtain ⟨hx, hb, hml, rfl, hown, hts, hlk, hK, hfr, hlo, hB⟩ := C
  intro H locs ls hW hS hl hc hs
  subst hL
  exact lv_lstore_n hx hb hd hi (x := x) hl hn rfl (fun ls2 h2 => k H locs ls2 hW hS (pm_stl_has (v := .long x) h2) hc hs)
theorem g_lstore {i : Nat} {x : Int64} {L2 : List (Nat × Value)} (C : pm_Cx Γ own cc d n) (hd : decode cc pc = .ok (.lstore i, 2)) (hn : i + 1 < n) (hL : pm_stl L i (.long x) = L2) (k : pm_G Γ cells slots (pc + 2) L2 st sh I J) : pm_G Γ cells slots pc L (.long x :: st) sh I J := by
  obtain ⟨p, l, e, R, s, m, args, below, meth, c, Q, u, nL⟩ := Γ
  obtain ⟨hx, hb, hml, rfl, hown, hts, hlk, hK, hfr, hlo, hB⟩ := C
  intro H locs ls hW hS hl hc hs
  subst hL
  exact lv_lstore hx hb hd (x := x) hl hn rfl (fun ls2 h2 => k H locs ls2 hW hS (pm_stl_has (v := .long x) h2) hc hs)
theorem g_aload_n {q : Fin 4} {i j : Nat} {x : Nat} (C : pm_Cx Γ own cc d n) (hd : decode cc pc = .ok (.aload_n q, 1)) (hi : (q : Nat) = i) (hj : L[j]? = some (i, .ref x)) (k : pm_G Γ cells slots (pc + 1) L (.ref x :: st) sh I J) : pm_G Γ cells slots pc L st sh I J := by
  obtain ⟨p, l, e, R, s, m, args, below, meth, c, Q, u, nL⟩ := Γ
  obtain ⟨hx, hb, hml, rfl, hown, hts, hlk, hK, hfr, hlo, hB⟩ := C
  intro H locs ls hW hS hl hc hs
  exact lv_aload_n hx hb hd hi (x := (pm_ad u x)) (pm_lk hl hj) (k H locs ls hW hS hl hc hs)
theorem g_aload {i j : Nat} {x : Nat} (C : pm_Cx Γ own cc d n) (hd : decode cc pc = .ok (.aload i, 2)) (hj : L[j]? = some (i, .ref x)) (k : pm_G Γ cells slots (pc + 2) L (.ref x :: st) sh I J) : pm_G Γ cells slots pc L st sh I J := by
  obtain ⟨p, l, e, R, s, m, args, below, meth, c, Q, u, nL⟩ := Γ
  obtain ⟨hx, hb, hml, rfl, hown, hts, hlk, hK, hfr, hlo, hB⟩ := C
  intro H locs ls hW hS hl hc hs
  exact lv_aload hx hb hd (x := (pm_ad u x)) (pm_lk hl hj) (k H locs ls hW hS hl hc hs)
theorem g_astore_n {q : Fin 4} {i : Nat} {x : Nat} {L2 : List (Nat × Value)} (C : pm_Cx Γ own cc d n) (hd : decode cc pc = .ok (.astore_n q, 1)) (hi : (q : Nat) = i) (hn : i < n) (hL : pm_st L i (.ref x) = L2) (k : pm_G Γ cells slots (pc + 1) L2 st sh I J) : pm_G Γ cells slots pc L (.ref x :: st) sh I J := by
  obtain ⟨p, l, e, R, s, m, args, below, meth, c, Q, u, nL⟩ := Γ
  obtain ⟨hx, hb, hml, rfl, hown, hts, hlk, hK, hfr, hlo, hB⟩ := C
  intro H locs ls hW hS hl hc hs
  subst hL
  exact lv_astore_n hx hb hd hi (x := (pm_ad u x)) hl hn rfl (fun ls2 h2 => k H locs ls2 hW hS (pm_st_has (v := .ref x) h2) hc hs)
theorem g_astore {i : Nat} {x : Nat} {L2 : List (Nat × Value)} (C : pm_Cx Γ own cc d n) (hd : decode cc pc = .ok (.astore i, 2)) (hn : i < n) (hL : pm_st L i (.ref x) = L2) (k : pm_G Γ cells slots (pc + 2) L2 st sh I J) : pm_G Γ cells slots pc L (.ref x :: st) sh I J := by
  obtain ⟨p, l, e, R, s, m, args, below, meth, c, Q, u, nL⟩ := Γ
  obtain ⟨hx, hb, hml, rfl, hown, hts, hlk, hK, hfr, hlo, hB⟩ := C
  intro H locs ls hW hS hl hc hs
  subst hL
  exact lv_astore hx hb hd (x := (pm_ad u x)) hl hn rfl (fun ls2 h2 => k H locs ls2 hW hS (pm_st_has (v := .ref x) h2) hc hs)
theorem g_iinc {i j : Nat} {z : Int} {x v : Int32} {L2 : List (Nat × Value)} (C : pm_Cx Γ own cc d n) (hd : decode cc pc = .ok (.iinc i z, 3)) (hj : L[j]? = some (i, .int x)) (hv : x + Int32.ofInt z = v) (hn : i < n) (hL : pm_st L i (.int v) = L2) (k : pm_G Γ cells slots (pc + 3) L2 st sh I J) : pm_G Γ cells slots pc L st sh I J := by
  obtain ⟨p, l, e, R, s, m, args, below, meth, c, Q, u, nL⟩ := Γ
  obtain ⟨hx, hb, hml, rfl, hown, hts, hlk, hK, hfr, hlo, hB⟩ := C
  intro H locs ls hW hS hl hc hs
  subst hL
  exact lv_iinc hx hb hd hl (k := j) (by rw [List.getElem?_map, hj]; rfl) hv hn rfl (fun ls2 h2 => k H locs ls2 hW hS (pm_st_has (v := .int v) h2) hc hs)
theorem g_iadd {x y : Int32} (C : pm_Cx Γ own cc d n) (hd : decode cc pc = .ok (.iadd, 1)) (k : pm_G Γ cells slots (pc + 1) L (.int (x + y) :: st) sh I J) : pm_G Γ cells slots pc L (.int y :: .int x :: st) sh I J := by
  obtain ⟨p, l, e, R, s, m, args, below, meth, c, Q, u, nL⟩ := Γ
  obtain ⟨hx, hb, hml, rfl, hown, hts, hlk, hK, hfr, hlo, hB⟩ := C
  intro H locs ls hW hS hl hc hs
  exact lv_iadd hx hb hd (k H locs ls hW hS hl hc hs)
theorem g_isub {x y : Int32} (C : pm_Cx Γ own cc d n) (hd : decode cc pc = .ok (.isub, 1)) (k : pm_G Γ cells slots (pc + 1) L (.int (x - y) :: st) sh I J) : pm_G Γ cells slots pc L (.int y :: .int x :: st) sh I J := by
  obtain ⟨p, l, e, R, s, m, args, below, meth, c, Q, u, nL⟩ := Γ
  obtain ⟨hx, hb, hml, rfl, hown, hts, hlk, hK, hfr, hlo, hB⟩ := C
  intro H locs ls hW hS hl hc hs
  exact lv_isub hx hb hd (k H locs ls hW hS hl hc hs)
theorem g_imul {x y : Int32} (C : pm_Cx Γ own cc d n) (hd : decode cc pc = .ok (.imul, 1)) (k : pm_G Γ cells slots (pc + 1) L (.int (x * y) :: st) sh I J) : pm_G Γ cells slots pc L (.int y :: .int x :: st) sh I J := by
  obtain ⟨p, l, e, R, s, m, args, below, meth, c, Q, u, nL⟩ := Γ
  obtain ⟨hx, hb, hml, rfl, hown, hts, hlk, hK, hfr, hlo, hB⟩ := C
  intro H locs ls hW hS hl hc hs
  exact lv_imul hx hb hd (k H locs ls hW hS hl hc hs)
theorem g_iand {x y : Int32} (C : pm_Cx Γ own cc d n) (hd : decode cc pc = .ok (.iand, 1)) (k : pm_G Γ cells slots (pc + 1) L (.int (x &&& y) :: st) sh I J) : pm_G Γ cells slots pc L (.int y :: .int x :: st) sh I J := by
  obtain ⟨p, l, e, R, s, m, args, below, meth, c, Q, u, nL⟩ := Γ
  obtain ⟨hx, hb, hml, rfl, hown, hts, hlk, hK, hfr, hlo, hB⟩ := C
  intro H locs ls hW hS hl hc hs
  exact lv_iand hx hb hd (k H locs ls hW hS hl hc hs)
theorem g_ior {x y : Int32} (C : pm_Cx Γ own cc d n) (hd : decode cc pc = .ok (.ior, 1)) (k : pm_G Γ cells slots (pc + 1) L (.int (x ||| y) :: st) sh I J) : pm_G Γ cells slots pc L (.int y :: .int x :: st) sh I J := by
  obtain ⟨p, l, e, R, s, m, args, below, meth, c, Q, u, nL⟩ := Γ
  obtain ⟨hx, hb, hml, rfl, hown, hts, hlk, hK, hfr, hlo, hB⟩ := C
  intro H locs ls hW hS hl hc hs
  exact lv_ior hx hb hd (k H locs ls hW hS hl hc hs)
theorem g_ixor {x y : Int32} (C : pm_Cx Γ own cc d n) (hd : decode cc pc = .ok (.ixor, 1)) (k : pm_G Γ cells slots (pc + 1) L (.int (x ^^^ y) :: st) sh I J) : pm_G Γ cells slots pc L (.int y :: .int x :: st) sh I J := by
  obtain ⟨p, l, e, R, s, m, args, below, meth, c, Q, u, nL⟩ := Γ
  obtain ⟨hx, hb, hml, rfl, hown, hts, hlk, hK, hfr, hlo, hB⟩ := C
  intro H locs ls hW hS hl hc hs
  exact lv_ixor hx hb hd (k H locs ls hW hS hl hc hs)
theorem g_ishl {x y : Int32} (C : pm_Cx Γ own cc d n) (hd : decode cc pc = .ok (.ishl, 1)) (k : pm_G Γ cells slots (pc + 1) L (.int (x <<< (y &&& 31)) :: st) sh I J) : pm_G Γ cells slots pc L (.int y :: .int x :: st) sh I J := by
  obtain ⟨p, l, e, R, s, m, args, below, meth, c, Q, u, nL⟩ := Γ
  obtain ⟨hx, hb, hml, rfl, hown, hts, hlk, hK, hfr, hlo, hB⟩ := C
  intro H locs ls hW hS hl hc hs
  exact lv_ishl hx hb hd (k H locs ls hW hS hl hc hs)
theorem g_ishr {x y : Int32} (C : pm_Cx Γ own cc d n) (hd : decode cc pc = .ok (.ishr, 1)) (k : pm_G Γ cells slots (pc + 1) L (.int (x >>> (y &&& 31)) :: st) sh I J) : pm_G Γ cells slots pc L (.int y :: .int x :: st) sh I J := by
  obtain ⟨p, l, e, R, s, m, args, below, meth, c, Q, u, nL⟩ := Γ
  obtain ⟨hx, hb, hml, rfl, hown, hts, hlk, hK, hfr, hlo, hB⟩ := C
  intro H locs ls hW hS hl hc hs
  exact lv_ishr hx hb hd (k H locs ls hW hS hl hc hs)
theorem g_idiv {x y : Int32} (C : pm_Cx Γ own cc d n) (hd : decode cc pc = .ok (.idiv, 1)) (hne : ¬ y = 0) (k : pm_G Γ cells slots (pc + 1) L (.int (x / y) :: st) sh I J) : pm_G Γ cells slots pc L (.int y :: .int x :: st) sh I J := by
  obtain ⟨p, l, e, R, s, m, args, below, meth, c, Q, u, nL⟩ := Γ
  obtain ⟨hx, hb, hml, rfl, hown, hts, hlk, hK, hfr, hlo, hB⟩ := C
  intro H locs ls hW hS hl hc hs
  exact lv_idiv hx hb hd hne (k H locs ls hW hS hl hc hs)
theorem g_irem {x y : Int32} (C : pm_Cx Γ own cc d n) (hd : decode cc pc = .ok (.irem, 1)) (hne : ¬ y = 0) (k : pm_G Γ cells slots (pc + 1) L (.int (x - x / y * y) :: st) sh I J) : pm_G Γ cells slots pc L (.int y :: .int x :: st) sh I J := by
  obtain ⟨p, l, e, R, s, m, args, below, meth, c, Q, u, nL⟩ := Γ
  obtain ⟨hx, hb, hml, rfl, hown, hts, hlk, hK, hfr, hlo, hB⟩ := C
  intro H locs ls hW hS hl hc hs
  exact lv_irem hx hb hd hne (k H locs ls hW hS hl hc hs)
theorem g_ladd {x y : Int64} (C : pm_Cx Γ own cc d n) (hd : decode cc pc = .ok (.ladd, 1)) (k : pm_G Γ cells slots (pc + 1) L (.long (x + y) :: st) sh I J) : pm_G Γ cells slots pc L (.long y :: .long x :: st) sh I J := by
  obtain ⟨p, l, e, R, s, m, args, below, meth, c, Q, u, nL⟩ := Γ
  obtain ⟨hx, hb, hml, rfl, hown, hts, hlk, hK, hfr, hlo, hB⟩ := C
  intro H locs ls hW hS hl hc hs
  exact lv_ladd hx hb hd (k H locs ls hW hS hl hc hs)
theorem g_lsub {x y : Int64} (C : pm_Cx Γ own cc d n) (hd : decode cc pc = .ok (.lsub, 1)) (k : pm_G Γ cells slots (pc + 1) L (.long (x - y) :: st) sh I J) : pm_G Γ cells slots pc L (.long y :: .long x :: st) sh I J := by
  obtain ⟨p, l, e, R, s, m, args, below, meth, c, Q, u, nL⟩ := Γ
  obtain ⟨hx, hb, hml, rfl, hown, hts, hlk, hK, hfr, hlo, hB⟩ := C
  intro H locs ls hW hS hl hc hs
  exact lv_lsub hx hb hd (k H locs ls hW hS hl hc hs)
theorem g_lmul {x y : Int64} (C : pm_Cx Γ own cc d n) (hd : decode cc pc = .ok (.lmul, 1)) (k : pm_G Γ cells slots (pc + 1) L (.long (x * y) :: st) sh I J) : pm_G Γ cells slots pc L (.long y :: .long x :: st) sh I J := by
  obtain ⟨p, l, e, R, s, m, args, below, meth, c, Q, u, nL⟩ := Γ
  obtain ⟨hx, hb, hml, rfl, hown, hts, hlk, hK, hfr, hlo, hB⟩ := C
  intro H locs ls hW hS hl hc hs
  exact lv_lmul hx hb hd (k H locs ls hW hS hl hc hs)
theorem g_land {x y : Int64} (C : pm_Cx Γ own cc d n) (hd : decode cc pc = .ok (.land, 1)) (k : pm_G Γ cells slots (pc + 1) L (.long (x &&& y) :: st) sh I J) : pm_G Γ cells slots pc L (.long y :: .long x :: st) sh I J := by
  obtain ⟨p, l, e, R, s, m, args, below, meth, c, Q, u, nL⟩ := Γ
  obtain ⟨hx, hb, hml, rfl, hown, hts, hlk, hK, hfr, hlo, hB⟩ := C
  intro H locs ls hW hS hl hc hs
  exact lv_land hx hb hd (k H locs ls hW hS hl hc hs)
theorem g_lor {x y : Int64} (C : pm_Cx Γ own cc d n) (hd : decode cc pc = .ok (.lor, 1)) (k : pm_G Γ cells slots (pc + 1) L (.long (x ||| y) :: st) sh I J) : pm_G Γ cells slots pc L (.long y :: .long x :: st) sh I J := by
  obtain ⟨p, l, e, R, s, m, args, below, meth, c, Q, u, nL⟩ := Γ
  obtain ⟨hx, hb, hml, rfl, hown, hts, hlk, hK, hfr, hlo, hB⟩ := C
  intro H locs ls hW hS hl hc hs
  exact lv_lor hx hb hd (k H locs ls hW hS hl hc hs)
theorem g_iushr {x y : Int32} (C : pm_Cx Γ own cc d n) (hd : decode cc pc = .ok (.iushr, 1)) (k : pm_G Γ cells slots (pc + 1) L (.int (x.toUInt32 >>> (y.toUInt32 &&& Int32.toUInt32 31)).toInt32 :: st) sh I J) : pm_G Γ cells slots pc L (.int y :: .int x :: st) sh I J := by
  obtain ⟨p, l, e, R, s, m, args, below, meth, c, Q, u, nL⟩ := Γ
  obtain ⟨hx, hb, hml, rfl, hown, hts, hlk, hK, hfr, hlo, hB⟩ := C
  intro H locs ls hW hS hl hc hs
  exact lv_iushr hx hb hd rfl (k H locs ls hW hS hl hc hs)
theorem g_lshl {x : Int64} {y : Int32} (C : pm_Cx Γ own cc d n) (hd : decode cc pc = .ok (.lshl, 1)) (k : pm_G Γ cells slots (pc + 1) L (.long (x <<< (y.toInt64 &&& 63)) :: st) sh I J) : pm_G Γ cells slots pc L (.int y :: .long x :: st) sh I J := by
  obtain ⟨p, l, e, R, s, m, args, below, meth, c, Q, u, nL⟩ := Γ
  obtain ⟨hx, hb, hml, rfl, hown, hts, hlk, hK, hfr, hlo, hB⟩ := C
  intro H locs ls hW hS hl hc hs
  exact lv_lshl hx hb hd rfl (k H locs ls hW hS hl hc hs)
theorem g_lshr {x : Int64} {y : Int32} (C : pm_Cx Γ own cc d n) (hd : decode cc pc = .ok (.lshr, 1)) (k : pm_G Γ cells slots (pc + 1) L (.long (x >>> (y.toInt64 &&& 63)) :: st) sh I J) : pm_G Γ cells slots pc L (.int y :: .long x :: st) sh I J := by
  obtain ⟨p, l, e, R, s, m, args, below, meth, c, Q, u, nL⟩ := Γ
  obtain ⟨hx, hb, hml, rfl, hown, hts, hlk, hK, hfr, hlo, hB⟩ := C
  intro H locs ls hW hS hl hc hs
  exact lv_lshr hx hb hd rfl (k H locs ls hW hS hl hc hs)
theorem g_i2l {x : Int32} (C : pm_Cx Γ own cc d n) (hd : decode cc pc = .ok (.i2l, 1)) (k : pm_G Γ cells slots (pc + 1) L (.long (x.toInt64) :: st) sh I J) : pm_G Γ cells slots pc L (.int x :: st) sh I J := by
  obtain ⟨p, l, e, R, s, m, args, below, meth, c, Q, u, nL⟩ := Γ
  obtain ⟨hx, hb, hml, rfl, hown, hts, hlk, hK, hfr, hlo, hB⟩ := C
  intro H locs ls hW hS hl hc hs
  exact lv_i2l hx hb hd rfl (k H locs ls hW hS hl hc hs)
theorem g_l2i {x : Int64} (C : pm_Cx Γ own cc d n) (hd : decode cc pc = .ok (.l2i, 1)) (k : pm_G Γ cells slots (pc + 1) L (.int (x.toInt32) :: st) sh I J) : pm_G Γ cells slots pc L (.long x :: st) sh I J := by
  obtain ⟨p, l, e, R, s, m, args, below, meth, c, Q, u, nL⟩ := Γ
  obtain ⟨hx, hb, hml, rfl, hown, hts, hlk, hK, hfr, hlo, hB⟩ := C
  intro H locs ls hW hS hl hc hs
  exact lv_l2i hx hb hd rfl (k H locs ls hW hS hl hc hs)
theorem g_i2b {x : Int32} (C : pm_Cx Γ own cc d n) (hd : decode cc pc = .ok (.i2b, 1)) (k : pm_G Γ cells slots (pc + 1) L (.int (x.toInt8.toInt32) :: st) sh I J) : pm_G Γ cells slots pc L (.int x :: st) sh I J := by
  obtain ⟨p, l, e, R, s, m, args, below, meth, c, Q, u, nL⟩ := Γ
  obtain ⟨hx, hb, hml, rfl, hown, hts, hlk, hK, hfr, hlo, hB⟩ := C
  intro H locs ls hW hS hl hc hs
  exact lv_i2b hx hb hd rfl (k H locs ls hW hS hl hc hs)
theorem g_i2s {x : Int32} (C : pm_Cx Γ own cc d n) (hd : decode cc pc = .ok (.i2s, 1)) (k : pm_G Γ cells slots (pc + 1) L (.int (x.toInt16.toInt32) :: st) sh I J) : pm_G Γ cells slots pc L (.int x :: st) sh I J := by
  obtain ⟨p, l, e, R, s, m, args, below, meth, c, Q, u, nL⟩ := Γ
  obtain ⟨hx, hb, hml, rfl, hown, hts, hlk, hK, hfr, hlo, hB⟩ := C
  intro H locs ls hW hS hl hc hs
  exact lv_i2s hx hb hd rfl (k H locs ls hW hS hl hc hs)
theorem g_i2c {x : Int32} (C : pm_Cx Γ own cc d n) (hd : decode cc pc = .ok (.i2c, 1)) (k : pm_G Γ cells slots (pc + 1) L (.int ((x.toUInt32 % 65536).toInt32) :: st) sh I J) : pm_G Γ cells slots pc L (.int x :: st) sh I J := by
  obtain ⟨p, l, e, R, s, m, args, below, meth, c, Q, u, nL⟩ := Γ
  obtain ⟨hx, hb, hml, rfl, hown, hts, hlk, hK, hfr, hlo, hB⟩ := C
  intro H locs ls hW hS hl hc hs
  exact lv_i2c hx hb hd rfl (k H locs ls hW hS hl hc hs)
theorem g_lcmp {x y : Int64} (C : pm_Cx Γ own cc d n) (hd : decode cc pc = .ok (.lcmp, 1)) (k : pm_G Γ cells slots (pc + 1) L (.int (lg_cmp x y) :: st) sh I J) : pm_G Γ cells slots pc L (.long y :: .long x :: st) sh I J := by
  obtain ⟨p, l, e, R, s, m, args, below, meth, c, Q, u, nL⟩ := Γ
  obtain ⟨hx, hb, hml, rfl, hown, hts, hlk, hK, hfr, hlo, hB⟩ := C
  intro H locs ls hW hS hl hc hs
  exact W.lcmp hx hb hd (k H locs ls hW hS hl hc hs)
theorem g_dup {v : Value} (C : pm_Cx Γ own cc d n) (hd : decode cc pc = .ok (.dup, 1)) (hv : v.category = 1) (k : pm_G Γ cells slots (pc + 1) L (v :: v :: st) sh I J) : pm_G Γ cells slots pc L (v :: st) sh I J := by
  obtain ⟨p, l, e, R, s, m, args, below, meth, c, Q, u, nL⟩ := Γ
  obtain ⟨hx, hb, hml, rfl, hown, hts, hlk, hK, hfr, hlo, hB⟩ := C
  intro H locs ls hW hS hl hc hs
  exact lv_dup hx hb hd (by rw [pm_tr_cat]; exact hv) (k H locs ls hW hS hl hc hs)
theorem g_dup2 {v w : Value} (C : pm_Cx Γ own cc d n) (hd : decode cc pc = .ok (.dup2, 1)) (hv : v.category = 1) (hw : w.category = 1) (k : pm_G Γ cells slots (pc + 1) L (v :: w :: v :: w :: st) sh I J) : pm_G Γ cells slots pc L (v :: w :: st) sh I J := by
  obtain ⟨p, l, e, R, s, m, args, below, meth, c, Q, u, nL⟩ := Γ
  obtain ⟨hx, hb, hml, rfl, hown, hts, hlk, hK, hfr, hlo, hB⟩ := C
  intro H locs ls hW hS hl hc hs
  exact lv_dup2_11 hx hb hd (by rw [pm_tr_cat]; exact hv) (by rw [pm_tr_cat]; exact hw) (k H locs ls hW hS hl hc hs)
theorem g_pop {v : Value} (C : pm_Cx Γ own cc d n) (hd : decode cc pc = .ok (.pop, 1)) (hv : v.category = 1) (k : pm_G Γ cells slots (pc + 1) L st sh I J) : pm_G Γ cells slots pc L (v :: st) sh I J := by
  obtain ⟨p, l, e, R, s, m, args, below, meth, c, Q, u, nL⟩ := Γ
  obtain ⟨hx, hb, hml, rfl, hown, hts, hlk, hK, hfr, hlo, hB⟩ := C
  intro H locs ls hW hS hl hc hs
  exact lv_pop hx hb hd (by rw [pm_tr_cat]; exact hv) (k H locs ls hW hS hl hc hs)
theorem g_goto {off : Int} {tgt : Nat} (C : pm_Cx Γ own cc d n) (hd : decode cc pc = .ok (.goto off, 3)) (ht : (pc : Int) + off = (tgt : Int)) (k : pm_G Γ cells slots tgt L st sh I J) : pm_G Γ cells slots pc L st sh I J := by
  obtain ⟨p, l, e, R, s, m, args, below, meth, c, Q, u, nL⟩ := Γ
  obtain ⟨hx, hb, hml, rfl, hown, hts, hlk, hK, hfr, hlo, hB⟩ := C
  intro H locs ls hW hS hl hc hs
  exact lv_goto hx hb hd ht (k H locs ls hW hS hl hc hs)
theorem g_if_eq {x : Int32} {off : Int} {tgt : Nat} (C : pm_Cx Γ own cc d n) (hd : decode cc pc = .ok (.ifCond .eq off, 3)) (ht : (pc : Int) + off = (tgt : Int)) (kt : x = 0 → pm_G Γ cells slots tgt L st sh I J) (kf : ¬ x = 0 → pm_G Γ cells slots (pc + 3) L st sh I J) : pm_G Γ cells slots pc L (.int x :: st) sh I J := by
  obtain ⟨p, l, e, R, s, m, args, below, meth, c, Q, u, nL⟩ := Γ
  obtain ⟨hx, hb, hml, rfl, hown, hts, hlk, hK, hfr, hlo, hB⟩ := C
  intro H locs ls hW hS hl hc hs
  exact lv_if_eq hx hb hd ht (fun h => kt h H locs ls hW hS hl hc hs) (fun h => kf h H locs ls hW hS hl hc hs)
theorem g_if_ne {x : Int32} {off : Int} {tgt : Nat} (C : pm_Cx Γ own cc d n) (hd : decode cc pc = .ok (.ifCond .ne off, 3)) (ht : (pc : Int) + off = (tgt : Int)) (kt : ¬ x = 0 → pm_G Γ cells slots tgt L st sh I J) (kf : x = 0 → pm_G Γ cells slots (pc + 3) L st sh I J) : pm_G Γ cells slots pc L (.int x :: st) sh I J := by
  obtain ⟨p, l, e, R, s, m, args, below, meth, c, Q, u, nL⟩ := Γ
  obtain ⟨hx, hb, hml, rfl, hown, hts, hlk, hK, hfr, hlo, hB⟩ := C
  intro H locs ls hW hS hl hc hs
  exact lv_if_ne hx hb hd ht (fun h => kt h H locs ls hW hS hl hc hs) (fun h => kf h H locs ls hW hS hl hc hs)
theorem g_if_lt {x : Int32} {off : Int} {tgt : Nat} (C : pm_Cx Γ own cc d n) (hd : decode cc pc = .ok (.ifCond .lt off, 3)) (ht : (pc : Int) + off = (tgt : Int)) (kt : x < 0 → pm_G Γ cells slots tgt L st sh I J) (kf : ¬ x < 0 → pm_G Γ cells slots (pc + 3) L st sh I J) : pm_G Γ cells slots pc L (.int x :: st) sh I J := by
  obtain ⟨p, l, e, R, s, m, args, below, meth, c, Q, u, nL⟩ := Γ
  obtain ⟨hx, hb, hml, rfl, hown, hts, hlk, hK, hfr, hlo, hB⟩ := C
  intro H locs ls hW hS hl hc hs
  exact lv_if_lt hx hb hd ht (fun h => kt h H locs ls hW hS hl hc hs) (fun h => kf h H locs ls hW hS hl hc hs)
theorem g_if_ge {x : Int32} {off : Int} {tgt : Nat} (C : pm_Cx Γ own cc d n) (hd : decode cc pc = .ok (.ifCond .ge off, 3)) (ht : (pc : Int) + off = (tgt : Int)) (kt : 0 ≤ x → pm_G Γ cells slots tgt L st sh I J) (kf : ¬ 0 ≤ x → pm_G Γ cells slots (pc + 3) L st sh I J) : pm_G Γ cells slots pc L (.int x :: st) sh I J := by
  obtain ⟨p, l, e, R, s, m, args, below, meth, c, Q, u, nL⟩ := Γ
  obtain ⟨hx, hb, hml, rfl, hown, hts, hlk, hK, hfr, hlo, hB⟩ := C
  intro H locs ls hW hS hl hc hs
  exact lv_if_ge hx hb hd ht (fun h => kt h H locs ls hW hS hl hc hs) (fun h => kf h H locs ls hW hS hl hc hs)
theorem g_if_gt {x : Int32} {off : Int} {tgt : Nat} (C : pm_Cx Γ own cc d n) (hd : decode cc pc = .ok (.ifCond .gt off, 3)) (ht : (pc : Int) + off = (tgt : Int)) (kt : 0 < x → pm_G Γ cells slots tgt L st sh I J) (kf : ¬ 0 < x → pm_G Γ cells slots (pc + 3) L st sh I J) : pm_G Γ cells slots pc L (.int x :: st) sh I J := by
  obtain ⟨p, l, e, R, s, m, args, below, meth, c, Q, u, nL⟩ := Γ
  obtain ⟨hx, hb, hml, rfl, hown, hts, hlk, hK, hfr, hlo, hB⟩ := C
  intro H locs ls hW hS hl hc hs
  exact lv_if_gt hx hb hd ht (fun h => kt h H locs ls hW hS hl hc hs) (fun h => kf h H locs ls hW hS hl hc hs)
theorem g_if_le {x : Int32} {off : Int} {tgt : Nat} (C : pm_Cx Γ own cc d n) (hd : decode cc pc = .ok (.ifCond .le off, 3)) (ht : (pc : Int) + off = (tgt : Int)) (kt : x ≤ 0 → pm_G Γ cells slots tgt L st sh I J) (kf : ¬ x ≤ 0 → pm_G Γ cells slots (pc + 3) L st sh I J) : pm_G Γ cells slots pc L (.int x :: st) sh I J := by
  obtain ⟨p, l, e, R, s, m, args, below, meth, c, Q, u, nL⟩ := Γ
  obtain ⟨hx, hb, hml, rfl, hown, hts, hlk, hK, hfr, hlo, hB⟩ := C
  intro H locs ls hW hS hl hc hs
  exact lv_if_le hx hb hd ht (fun h => kt h H locs ls hW hS hl hc hs) (fun h => kf h H locs ls hW hS hl hc hs)
theorem g_icmp_eq {x y : Int32} {off : Int} {tgt : Nat} (C : pm_Cx Γ own cc d n) (hd : decode cc pc = .ok (.if_icmp .eq off, 3)) (ht : (pc : Int) + off = (tgt : Int)) (kt : x = y → pm_G Γ cells slots tgt L st sh I J) (kf : ¬ x = y → pm_G Γ cells slots (pc + 3) L st sh I J) : pm_G Γ cells slots pc L (.int y :: .int x :: st) sh I J := by
  obtain ⟨p, l, e, R, s, m, args, below, meth, c, Q, u, nL⟩ := Γ
  obtain ⟨hx, hb, hml, rfl, hown, hts, hlk, hK, hfr, hlo, hB⟩ := C
  intro H locs ls hW hS hl hc hs
  exact lv_icmp_eq hx hb hd ht (fun h => kt h H locs ls hW hS hl hc hs) (fun h => kf h H locs ls hW hS hl hc hs)
theorem g_icmp_ne {x y : Int32} {off : Int} {tgt : Nat} (C : pm_Cx Γ own cc d n) (hd : decode cc pc = .ok (.if_icmp .ne off, 3)) (ht : (pc : Int) + off = (tgt : Int)) (kt : ¬ x = y → pm_G Γ cells slots tgt L st sh I J) (kf : x = y → pm_G Γ cells slots (pc + 3) L st sh I J) : pm_G Γ cells slots pc L (.int y :: .int x :: st) sh I J := by
  obtain ⟨p, l, e, R, s, m, args, below, meth, c, Q, u, nL⟩ := Γ
  obtain ⟨hx, hb, hml, rfl, hown, hts, hlk, hK, hfr, hlo, hB⟩ := C
  intro H locs ls hW hS hl hc hs
  exact lv_icmp_ne hx hb hd ht (fun h => kt h H locs ls hW hS hl hc hs) (fun h => kf h H locs ls hW hS hl hc hs)
theorem g_icmp_lt {x y : Int32} {off : Int} {tgt : Nat} (C : pm_Cx Γ own cc d n) (hd : decode cc pc = .ok (.if_icmp .lt off, 3)) (ht : (pc : Int) + off = (tgt : Int)) (kt : x < y → pm_G Γ cells slots tgt L st sh I J) (kf : ¬ x < y → pm_G Γ cells slots (pc + 3) L st sh I J) : pm_G Γ cells slots pc L (.int y :: .int x :: st) sh I J := by
  obtain ⟨p, l, e, R, s, m, args, below, meth, c, Q, u, nL⟩ := Γ
  obtain ⟨hx, hb, hml, rfl, hown, hts, hlk, hK, hfr, hlo, hB⟩ := C
  intro H locs ls hW hS hl hc hs
  exact lv_icmp_lt hx hb hd ht (fun h => kt h H locs ls hW hS hl hc hs) (fun h => kf h H locs ls hW hS hl hc hs)
theorem g_icmp_ge {x y : Int32} {off : Int} {tgt : Nat} (C : pm_Cx Γ own cc d n) (hd : decode cc pc = .ok (.if_icmp .ge off, 3)) (ht : (pc : Int) + off = (tgt : Int)) (kt : y ≤ x → pm_G Γ cells slots tgt L st sh I J) (kf : ¬ y ≤ x → pm_G Γ cells slots (pc + 3) L st sh I J) : pm_G Γ cells slots pc L (.int y :: .int x :: st) sh I J := by
  obtain ⟨p, l, e, R, s, m, args, below, meth, c, Q, u, nL⟩ := Γ
  obtain ⟨hx, hb, hml, rfl, hown, hts, hlk, hK, hfr, hlo, hB⟩ := C
  intro H locs ls hW hS hl hc hs
  exact lv_icmp_ge hx hb hd ht (fun h => kt h H locs ls hW hS hl hc hs) (fun h => kf h H locs ls hW hS hl hc hs)
theorem g_icmp_gt {x y : Int32} {off : Int} {tgt : Nat} (C : pm_Cx Γ own cc d n) (hd : decode cc pc = .ok (.if_icmp .gt off, 3)) (ht : (pc : Int) + off = (tgt : Int)) (kt : y < x → pm_G Γ cells slots tgt L st sh I J) (kf : ¬ y < x → pm_G Γ cells slots (pc + 3) L st sh I J) : pm_G Γ cells slots pc L (.int y :: .int x :: st) sh I J := by
  obtain ⟨p, l, e, R, s, m, args, below, meth, c, Q, u, nL⟩ := Γ
  obtain ⟨hx, hb, hml, rfl, hown, hts, hlk, hK, hfr, hlo, hB⟩ := C
  intro H locs ls hW hS hl hc hs
  exact lv_icmp_gt hx hb hd ht (fun h => kt h H locs ls hW hS hl hc hs) (fun h => kf h H locs ls hW hS hl hc hs)
theorem g_icmp_le {x y : Int32} {off : Int} {tgt : Nat} (C : pm_Cx Γ own cc d n) (hd : decode cc pc = .ok (.if_icmp .le off, 3)) (ht : (pc : Int) + off = (tgt : Int)) (kt : x ≤ y → pm_G Γ cells slots tgt L st sh I J) (kf : ¬ x ≤ y → pm_G Γ cells slots (pc + 3) L st sh I J) : pm_G Γ cells slots pc L (.int y :: .int x :: st) sh I J := by
  obtain ⟨p, l, e, R, s, m, args, below, meth, c, Q, u, nL⟩ := Γ
  obtain ⟨hx, hb, hml, rfl, hown, hts, hlk, hK, hfr, hlo, hB⟩ := C
  intro H locs ls hW hS hl hc hs
  exact lv_icmp_le hx hb hd ht (fun h => kt h H locs ls hW hS hl hc hs) (fun h => kf h H locs ls hW hS hl hc hs)
/-- a truth as an int -/
def pm_b (P : Prop) [Decidable P] : Int32 := if P then 1 else 0
theorem pm_b_0 {P : Prop} [Decidable P] : pm_b P = 0 ↔ ¬ P := by unfold pm_b; split <;> simp_all
theorem g_if_eqB {P : Prop} [Decidable P] {off : Int} {tgt : Nat} (C : pm_Cx Γ own cc d n) (hd : decode cc pc = .ok (.ifCond .eq off, 3)) (ht : (pc : Int) + off = (tgt : Int)) (kt : ¬ P → pm_G Γ cells slots tgt L st sh I J) (kf : P → pm_G Γ cells slots (pc + 3) L st sh I J) : pm_G Γ cells slots pc L (.int (pm_b P) :: st) sh I J :=
  g_if_eq C hd ht (fun h => kt (pm_b_0.mp h)) (fun h => kf (Decidable.of_not_not (fun q => h (pm_b_0.mpr q))))
theorem g_if_neB {P : Prop} [Decidable P] {off : Int} {tgt : Nat} (C : pm_Cx Γ own cc d n) (hd : decode cc pc = .ok (.ifCond .ne off, 3)) (ht : (pc : Int) + off = (tgt : Int)) (kt : P → pm_G Γ cells slots tgt L st sh I J) (kf : ¬ P → pm_G Γ cells slots (pc + 3) L st sh I J) : pm_G Γ cells slots pc L (.int (pm_b P) :: st) sh I J :=
  g_if_ne C hd ht (fun h => kt (Decidable.of_not_not (fun q => h (pm_b_0.mpr q)))) (fun h => kf (pm_b_0.mp h))
theorem g_tsIn {dflt lo hi : Int} {offs : Array Int} {len : Nat} {x : Int32} {off : Int} {tgt : Nat} (z : Int) (C : pm_Cx Γ own cc d n) (hd : decode cc pc = .ok (.tableswitch dflt lo hi offs, len)) (hx0 : x.toInt = z) (h1 : ¬ z < lo) (h2 : ¬ hi < z) (ho : offs[(z - lo).toNat]? = some off) (ht : (pc : Int) + off = (tgt : Int)) (k : pm_G Γ cells slots tgt L st sh I J) : pm_G Γ cells slots pc L (.int x :: st) sh I J := by
  obtain ⟨p, l, e, R, s, m, args, below, meth, c, Q, u, nL⟩ := Γ
  obtain ⟨hx, hb, hml, rfl, hown, hts, hlk, hK, hfr, hlo, hB⟩ := C
  intro H locs ls hW hS hl hc hs
  subst hx0
  exact lv_tableIn hx hb hd h1 h2 ho ht (k H locs ls hW hS hl hc hs)
theorem g_tsOut {dflt lo hi : Int} {offs : Array Int} {len : Nat} {x : Int32} {tgt : Nat} (C : pm_Cx Γ own cc d n) (hd : decode cc pc = .ok (.tableswitch dflt lo hi offs, len)) (h : x.toInt < lo ∨ hi < x.toInt) (ht : (pc : Int) + dflt = (tgt : Int)) (k : pm_G Γ cells slots tgt L st sh I J) : pm_G Γ cells slots pc L (.int x :: st) sh I J := by
  obtain ⟨p, l, e, R, s, m, args, below, meth, c, Q, u, nL⟩ := Γ
  obtain ⟨hx, hb, hml, rfl, hown, hts, hlk, hK, hfr, hlo, hB⟩ := C
  intro H locs ls hW hS hl hc hs
  exact lv_tableOut hx hb hd h ht (k H locs ls hW hS hl hc hs)
theorem g_ls {dflt : Int} {ps : Array (Int × Int)} {len : Nat} {x : Int32} {off : Int} {tgt : Nat} (C : pm_Cx Γ own cc d n) (hd : decode cc pc = .ok (.lookupswitch dflt ps, len)) (hp : (ps.toList.zip (ps.toList.drop 1)).all (fun (a, next) => a.1 < next.1) = true) (ho : Op.lookupswitch.offset ps.toList dflt x.toInt = off) (ht : (pc : Int) + off = (tgt : Int)) (k : pm_G Γ cells slots tgt L st sh I J) : pm_G Γ cells slots pc L (.int x :: st) sh I J := by
  obtain ⟨p, l, e, R, s, m, args, below, meth, c, Q, u, nL⟩ := Γ
  obtain ⟨hx, hb, hml, rfl, hown, hts, hlk, hK, hfr, hlo, hB⟩ := C
  intro H locs ls hW hS hl hc hs
  exact lv_lookup hx hb hd hp ho ht (k H locs ls hW hS hl hc hs)
theorem g_getI {idx a ci q : Nat} {fs : List pm_F} (C : pm_Cx Γ own cc d n) (hd : decode cc pc = .ok (.getfield idx, 3)) (K : pm_fl own idx ci q) (ha : sh[a]? = some (.inr (.inr (ci, fs)))) (hq : fs[q]? = some (.inl 0)) (k : pm_G Γ cells slots (pc + 3) L (.int (I a q) :: st) sh I J) : pm_G Γ cells slots pc L (.ref a :: st) sh I J := by
  obtain ⟨p, l, e, R, s, m, args, below, meth, c, Q, u, nL⟩ := Γ
  obtain ⟨hx, hb, hml, rfl, hown, hts, hlk, hK, hfr, hlo, hB⟩ := C
  intro H locs ls hW hS hl hc hs
  obtain ⟨C9, T9, N9, k1, k2, k3, k4⟩ := K
  exact va_get (D := u.2.2.1) hx hb hts k4 hown hK.1 hW.1 a (pm_ws_get ha) k1 q k2 (hts _ k3) (fun _ h9 => h9) (v := pm_tr u (.int (I a q))) (pm_fget hq) hd (k H locs ls hW hS hl hc hs)
theorem g_getJ {idx a ci q : Nat} {fs : List pm_F} (C : pm_Cx Γ own cc d n) (hd : decode cc pc = .ok (.getfield idx, 3)) (K : pm_fl own idx ci q) (ha : sh[a]? = some (.inr (.inr (ci, fs)))) (hq : fs[q]? = some (.inl 1)) (k : pm_G Γ cells slots (pc + 3) L (.long (J a q) :: st) sh I J) : pm_G Γ cells slots pc L (.ref a :: st) sh I J := by
  obtain ⟨p, l, e, R, s, m, args, below, meth, c, Q, u, nL⟩ := Γ
  obtain ⟨hx, hb, hml, rfl, hown, hts, hlk, hK, hfr, hlo, hB⟩ := C
  intro H locs ls hW hS hl hc hs
  obtain ⟨C9, T9, N9, k1, k2, k3, k4⟩ := K
  exact va_get (D := u.2.2.1) hx hb hts k4 hown hK.1 hW.1 a (pm_ws_get ha) k1 q k2 (hts _ k3) (fun _ h9 => h9) (v := pm_tr u (.long (J a q))) (pm_fget hq) hd (k H locs ls hW hS hl hc hs)
theorem g_getR {idx a ci q : Nat} {fs : List pm_F} {r : Nat} (C : pm_Cx Γ own cc d n) (hd : decode cc pc = .ok (.getfield idx, 3)) (K : pm_fl own idx ci q) (ha : sh[a]? = some (.inr (.inr (ci, fs)))) (hq : fs[q]? = some (.inr (some r))) (k : pm_G Γ cells slots (pc + 3) L (.ref r :: st) sh I J) : pm_G Γ cells slots pc L (.ref a :: st) sh I J := by
  obtain ⟨p, l, e, R, s, m, args, below, meth, c, Q, u, nL⟩ := Γ
  obtain ⟨hx, hb, hml, rfl, hown, hts, hlk, hK, hfr, hlo, hB⟩ := C
  intro H locs ls hW hS hl hc hs
  obtain ⟨C9, T9, N9, k1, k2, k3, k4⟩ := K
  exact va_get (D := u.2.2.1) hx hb hts k4 hown hK.1 hW.1 a (pm_ws_get ha) k1 q k2 (hts _ k3) (fun _ h9 => h9) (v := pm_tr u (.ref r)) (pm_fget hq) hd (k H locs ls hW hS hl hc hs)
theorem g_putI {idx a ci q : Nat} {fs : List pm_F} {x : Int32} {ty : FieldType} (C : pm_Cx Γ own cc d n) (hd : decode cc pc = .ok (.putfield idx, 3)) (K : pm_fp own idx ci q false ty) (hn : narrow ty (.int x) = .int x) (hf : fits ty (.int x) = true) (ha : sh[a]? = some (.inr (.inr (ci, fs)))) (hq : fs[q]? = some (.inl 0)) (k : pm_G Γ cells slots (pc + 3) L st sh (pm_u I a q x) J) : pm_G Γ cells slots pc L (.int x :: .ref a :: st) sh I J := by
  obtain ⟨p, l, e, R, s, m, args, below, meth, c, Q, u, nL⟩ := Γ
  obtain ⟨hx, hb, hml, rfl, hown, hts, hlk, hK, hfr, hlo, hB⟩ := C
  intro H locs ls hW hS hl hc hs
  have hv : pm_fv u (pm_u I a q x) (J) a q (.inl 0) = .int x := by
    show Value.int ((pm_u I a q x) a q) = _
    rw [pm_u_at, pk_us]
  refine pm_put hx hb hown hts hK.1 hW hS hd K (fun h => by cases h) hn hf ha (List.getElem?_eq_some_iff.mp hq).1 rfl (I' := pm_u I a q x) (J' := J) ?_ (fun H1 locs1 hW1 hS1 => k H1 locs1 ls hW1 hS1 hl hc hs)
  have h := pm_oset (u := u) (I := I) (J := J) (I' := pm_u I a q x) (J' := J) (f' := .inl 0) ha hq (fun b h => pm_u_off h) (fun _ _ => rfl) (fun j h => by rw [pm_u_at]; exact pk_un h) (fun _ _ => rfl)
  rw [hv, pm_fsset hq, pm_shset ha] at h
  exact h
theorem g_putJ {idx a ci q : Nat} {fs : List pm_F} {x : Int64} {ty : FieldType} (C : pm_Cx Γ own cc d n) (hd : decode cc pc = .ok (.putfield idx, 3)) (K : pm_fp own idx ci q false ty) (hn : narrow ty (.long x) = .long x) (hf : fits ty (.long x) = true) (ha : sh[a]? = some (.inr (.inr (ci, fs)))) (hq : fs[q]? = some (.inl 1)) (k : pm_G Γ cells slots (pc + 3) L st sh I (pm_uJ J a q x)) : pm_G Γ cells slots pc L (.long x :: .ref a :: st) sh I J := by
  obtain ⟨p, l, e, R, s, m, args, below, meth, c, Q, u, nL⟩ := Γ
  obtain ⟨hx, hb, hml, rfl, hown, hts, hlk, hK, hfr, hlo, hB⟩ := C
  intro H locs ls hW hS hl hc hs
  have hv : pm_fv u (I) (pm_uJ J a q x) a q (.inl 1) = .long x := by
    show Value.long ((pm_uJ J a q x) a q) = _
    rw [pm_uJ_at, pk_uLs]
  refine pm_put hx hb hown hts hK.1 hW hS hd K (fun h => by cases h) hn hf ha (List.getElem?_eq_some_iff.mp hq).1 rfl (I' := I) (J' := pm_uJ J a q x) ?_ (fun H1 locs1 hW1 hS1 => k H1 locs1 ls hW1 hS1 hl hc hs)
  have h := pm_oset (u := u) (I := I) (J := J) (I' := I) (J' := pm_uJ J a q x) (f' := .inl 1) ha hq (fun _ _ => rfl) (fun b h => pm_uJ_off h) (fun _ _ => rfl) (fun j h => by rw [pm_uJ_at]; exact pk_uLn h)
  rw [hv, pm_fsset hq, pm_shset ha] at h
  exact h
theorem g_putR {idx a ci q r : Nat} {fs : List pm_F} {f0 : pm_F} {ty : FieldType} {nm : String} {ret : Option FieldType} {mc ms : Nat} {Post : Option Value → List pm_S → pm_I → pm_J → Prop} (C : pm_Cx Γ own cc d n) (C2 : pm_Ct Γ "<init>" ret mc ms Post) (hd : decode cc pc = .ok (.putfield idx, 3)) (K : pm_fp own idx ci q true ty) (hn : ∀ x, narrow ty (.ref x) = .ref x) (hf : ∀ x, fits ty (.ref x) = true) (ha : sh[a]? = some (.inr (.inr (ci, fs)))) (hq : fs[q]? = some f0) (k : pm_G Γ cells slots (pc + 3) L st (sh.set a (.inr (.inr (ci, fs.set q (.inr (some r)))))) I J) : pm_G Γ cells slots pc L (.ref r :: .ref a :: st) sh I J := by
  obtain ⟨p, l, e, R, s, m, args, below, meth, c, Q, u, nL⟩ := Γ
  obtain ⟨hx, hb, hml, rfl, hown, hts, hlk, hK, hfr, hlo, hB⟩ := C
  intro H locs ls hW hS hl hc hs
  refine pm_put hx hb hown hts hK.1 hW hS hd K (fun _ => C2.1) (hn _) (hf _) ha (List.getElem?_eq_some_iff.mp hq).1 (by rw [List.length_set]) (I' := I) (J' := J) ?_ (fun H1 locs1 hW1 hS1 => k H1 locs1 ls hW1 hS1 hl hc hs)
  exact pm_oset (u := u) (I := I) (J := J) (f' := .inr (some r)) ha hq (fun _ _ => rfl) (fun _ _ => rfl) (fun _ _ => rfl) (fun _ _ => rfl)
theorem g_iald {a N j : Nat} {i : Int32} (C : pm_Cx Γ own cc d n) (hd : decode cc pc = .ok (.iaload, 1)) (ha : sh[a]? = some (.inl (0, N))) (hN : N ≤ 100000) (hi : i = nI j) (hj : j < N) (k : pm_G Γ cells slots (pc + 1) L (.int (I a j) :: st) sh I J) : pm_G Γ cells slots pc L (.int i :: .ref a :: st) sh I J := by
  obtain ⟨p, l, e, R, s, m, args, below, meth, c, Q, u, nL⟩ := Γ
  obtain ⟨hx, hb, hml, rfl, hown, hts, hlk, hK, hfr, hlo, hB⟩ := C
  intro H locs ls hW hS hl hc hs
  obtain ⟨c1, c2⟩ := pm_clamp hi hj hN
  refine va_iald hx hb hK.1 hW.1 a 0 (pm_ws_get ha) rfl c2 hd ?_
  rw [c1]
  exact k H locs ls hW hS hl hc hs
theorem g_iast {a N j : Nat} {i x : Int32} (C : pm_Cx Γ own cc d n) (hd : decode cc pc = .ok (.iastore, 1)) (ha : sh[a]? = some (.inl (0, N))) (hN : N ≤ 100000) (hi : i = nI j) (hj : j < N) (k : pm_G Γ cells slots (pc + 1) L st sh (pm_u I a j (x)) J) : pm_G Γ cells slots pc L (.int x :: .int i :: .ref a :: st) sh I J := by
  obtain ⟨p, l, e, R, s, m, args, below, meth, c, Q, u, nL⟩ := Γ
  obtain ⟨hx, hb, hml, rfl, hown, hts, hlk, hK, hfr, hlo, hB⟩ := C
  intro H locs ls hW hS hl hc hs
  obtain ⟨c1, c2⟩ := pm_clamp hi hj hN
  have he0 : H[pm_ad u a]? = some (vp_cell (u.2.2.2 0) (N, .inl (I a))) := hW.1 a _ (pm_ws_get ha)
  refine W.iast hx hb he0 ((hK.1.2 0 _ rfl).1 N (fun j => .int (I a j))) (fun q => by cases q) (by show ¬ (i < 0 ∨ (arrV _ _ _).slots.size ≤ _); rw [arrV_size]; exact c2) rfl rfl hd fun H1 e1 z oq => ?_
  obtain ⟨w1, w2⟩ := pm_ast (I' := pm_u I a j (x)) (J' := J) (H1 := H1) (x := i.toNatClampNeg) hW hS ha (fun b h => pm_u_off h) (fun _ _ => rfl) (by
    show H1[pm_ad u a]? = some (vp_cell (u.2.2.2 0) (N, .inl (pm_u I a j (x) a)))
    rw [e1, vp_cell_i, vp_cell_i, arrV_store, pm_u_at, c1]
    congr 2
    funext q
    by_cases hq : q = j
    · subst hq
      simp [updV, upd]
    · simp [updV, upd, hq]) z oq
  exact k H1 _ ls w1 w2 hl hc hs
theorem g_bald {a N j : Nat} {i : Int32} (C : pm_Cx Γ own cc d n) (hd : decode cc pc = .ok (.baload, 1)) (ha : sh[a]? = some (.inl (1, N))) (hN : N ≤ 100000) (hi : i = nI j) (hj : j < N) (k : pm_G Γ cells slots (pc + 1) L (.int (I a j) :: st) sh I J) : pm_G Γ cells slots pc L (.int i :: .ref a :: st) sh I J := by
  obtain ⟨p, l, e, R, s, m, args, below, meth, c, Q, u, nL⟩ := Γ
  obtain ⟨hx, hb, hml, rfl, hown, hts, hlk, hK, hfr, hlo, hB⟩ := C
  intro H locs ls hW hS hl hc hs
  obtain ⟨c1, c2⟩ := pm_clamp hi hj hN
  refine va_bald hx hb hK.1 hW.1 a 1 (pm_ws_get ha) rfl c2 hd ?_
  rw [c1]
  exact k H locs ls hW hS hl hc hs
theorem g_bast {a N j : Nat} {i x : Int32} (C : pm_Cx Γ own cc d n) (hd : decode cc pc = .ok (.bastore, 1)) (ha : sh[a]? = some (.inl (1, N))) (hN : N ≤ 100000) (hi : i = nI j) (hj : j < N) (k : pm_G Γ cells slots (pc + 1) L st sh (pm_u I a j (x.toInt8.toInt32)) J) : pm_G Γ cells slots pc L (.int x :: .int i :: .ref a :: st) sh I J := by
  obtain ⟨p, l, e, R, s, m, args, below, meth, c, Q, u, nL⟩ := Γ
  obtain ⟨hx, hb, hml, rfl, hown, hts, hlk, hK, hfr, hlo, hB⟩ := C
  intro H locs ls hW hS hl hc hs
  obtain ⟨c1, c2⟩ := pm_clamp hi hj hN
  have he0 : H[pm_ad u a]? = some (vp_cell (u.2.2.2 1) (N, .inl (I a))) := hW.1 a _ (pm_ws_get ha)
  refine W.bast hx hb he0 ((hK.1.2 1 _ rfl).1 N (fun j => .int (I a j))) (fun q => by cases q) (by show ¬ (i < 0 ∨ (arrV _ _ _).slots.size ≤ _); rw [arrV_size]; exact c2) rfl rfl hd fun H1 e1 z oq => ?_
  obtain ⟨w1, w2⟩ := pm_ast (I' := pm_u I a j (x.toInt8.toInt32)) (J' := J) (H1 := H1) (x := i.toNatClampNeg) hW hS ha (fun b h => pm_u_off h) (fun _ _ => rfl) (by
    show H1[pm_ad u a]? = some (vp_cell (u.2.2.2 1) (N, .inl (pm_u I a j (x.toInt8.toInt32) a)))
    rw [e1, vp_cell_i, vp_cell_i, arrV_store, pm_u_at, c1]
    congr 2
    funext q
    by_cases hq : q = j
    · subst hq
      simp [updV, upd, narrow]
    · simp [updV, upd, hq]) z oq
  exact k H1 _ ls w1 w2 hl hc hs
theorem g_lald {a N j : Nat} {i : Int32} (C : pm_Cx Γ own cc d n) (hd : decode cc pc = .ok (.laload, 1)) (ha : sh[a]? = some (.inl (2, N))) (hN : N ≤ 100000) (hi : i = nI j) (hj : j < N) (k : pm_G Γ cells slots (pc + 1) L (.long (J a j) :: st) sh I J) : pm_G Γ cells slots pc L (.int i :: .ref a :: st) sh I J := by
  obtain ⟨p, l, e, R, s, m, args, below, meth, c, Q, u, nL⟩ := Γ
  obtain ⟨hx, hb, hml, rfl, hown, hts, hlk, hK, hfr, hlo, hB⟩ := C
  intro H locs ls hW hS hl hc hs
  obtain ⟨c1, c2⟩ := pm_clamp hi hj hN
  refine va_lald hx hb hK.1 hW.1 a 2 (pm_ws_get ha) rfl c2 hd ?_
  rw [c1]
  exact k H locs ls hW hS hl hc hs
theorem g_last {a N j : Nat} {i : Int32} {x : Int64} (C : pm_Cx Γ own cc d n) (hd : decode cc pc = .ok (.lastore, 1)) (ha : sh[a]? = some (.inl (2, N))) (hN : N ≤ 100000) (hi : i = nI j) (hj : j < N) (k : pm_G Γ cells slots (pc + 1) L st sh I (pm_uJ J a j x)) : pm_G Γ cells slots pc L (.long x :: .int i :: .ref a :: st) sh I J := by
  obtain ⟨p, l, e, R, s, m, args, below, meth, c, Q, u, nL⟩ := Γ
  obtain ⟨hx, hb, hml, rfl, hown, hts, hlk, hK, hfr, hlo, hB⟩ := C
  intro H locs ls hW hS hl hc hs
  obtain ⟨c1, c2⟩ := pm_clamp hi hj hN
  have he0 : H[pm_ad u a]? = some (vp_cell (u.2.2.2 2) (N, .inr (.inl (J a)))) := hW.1 a _ (pm_ws_get ha)
  refine W.last hx hb he0 ((hK.1.2 2 _ rfl).1 N (fun j => .long (J a j))) (fun q => by cases q) (by show ¬ (i < 0 ∨ (arrV _ _ _).slots.size ≤ _); rw [arrV_size]; exact c2) rfl rfl hd fun H1 e1 z oq => ?_
  obtain ⟨w1, w2⟩ := pm_ast (I' := I) (J' := pm_uJ J a j x) (H1 := H1) (x := i.toNatClampNeg) hW hS ha (fun _ _ => rfl) (fun b h => pm_uJ_off h) (by
    show H1[pm_ad u a]? = some (vp_cell (u.2.2.2 2) (N, .inr (.inl (pm_uJ J a j x a))))
    rw [e1, vp_cell_l, vp_cell_l, arrV_store, pm_uJ_at, c1]
    congr 2
    funext q
    by_cases hq : q = j
    · subst hq
      simp [updV, vp_updL]
    · simp [updV, vp_updL, hq]) z oq
  exact k H1 _ ls w1 w2 hl hc hs
theorem g_aald {a t j r : Nat} {i : Int32} {rs : List (Option Nat)} {ty : FieldType} (C : pm_Cx Γ own cc d n) (hd : decode cc pc = .ok (.aaload, 1)) (ha : sh[a]? = some (.inr (.inl (t, rs)))) (ht : ∀ u : pm_U, (pm_tys u)[t]? = some (u.2.2.2 t, ty)) (hr : ty.isReference = true) (hN : rs.length ≤ 100000) (hi : i = nI j) (hv : rs[j]? = some (some r)) (k : pm_G Γ cells slots (pc + 1) L (.ref r :: st) sh I J) : pm_G Γ cells slots pc L (.int i :: .ref a :: st) sh I J := by
  obtain ⟨p, l, e, R, s, m, args, below, meth, c, Q, u, nL⟩ := Γ
  obtain ⟨hx, hb, hml, rfl, hown, hts, hlk, hK, hfr, hlo, hB⟩ := C
  intro H locs ls hW hS hl hc hs
  have hj := (List.getElem?_eq_some_iff.mp hv).1
  obtain ⟨c1, c2⟩ := pm_clamp hi hj hN
  have he0 : H[pm_ad u a]? = some (vp_cell (u.2.2.2 t) (rs.length, .inr (.inr (.inr (.inr (fun j => (rs[j]?).bind (fun o => o.map (pm_ad u)))))))) := hW.1 a _ (pm_ws_get ha)
  rw [vp_cell_q] at he0
  refine W.aald (v := .ref (pm_ad u r)) (ty := ty) hx hb he0 ((hK.1.2 t _ (ht u)).1 rs.length _) hr (fun q => by cases q) (by rw [arrV_size]; exact c2) (by rw [arrV_read _ _ (by rw [c1]; exact hj), c1, hv]; rfl) rfl rfl hd (k H locs ls hW hS hl hc hs)
theorem g_gets {idx j : Nat} (C : pm_Cx Γ own cc d n) (hd : decode cc pc = .ok (.getstatic idx, 3)) (hj : j < 4) (hw : Cond.fieldLink own idx RX7 (pm_tn j) "[I" ∈ pm_tbl) (k : pm_G Γ cells slots (pc + 3) L (.ref (1000 + j) :: st) sh I J) : pm_G Γ cells slots pc L st sh I J := by
  obtain ⟨p, l, e, R, s, m, args, below, meth, c, Q, u, nL⟩ := Γ
  obtain ⟨hx, hb, hml, rfl, hown, hts, hlk, hK, hfr, hlo, hB⟩ := C
  intro H locs ls hW hS hl hc hs
  have hAd := pm_ad_hi u j
  refine va_gets (v := .ref (u.2.1 j)) hx hb (hK.2.1 j hj).1 hS hown (hts _ hw) (fun _ h9 => h9) hd ?_
  rw [← hAd]
  exact k H locs ls hW hS hl hc hs
theorem g_getsN {idx j : Nat} (C : pm_Cx Γ own cc d n) (hd : decode cc pc = .ok (.getstatic idx, 3)) (hj : j < 4) (hw : (own, idx, pm_tn j) ∈ pm_nF) (k : pm_G Γ cells slots (pc + 3) L (.ref (1000 + j) :: st) sh I J) : pm_G Γ cells slots pc L st sh I J := by
  obtain ⟨p, l, e, R, s, m, args, below, meth, c, Q, u, nL⟩ := Γ
  obtain ⟨hx, hb, hml, rfl, hown, hts, hlk, hK, hfr, hlo, hB⟩ := C
  intro H locs ls hW hS hl hc hs
  have hAd := pm_ad_hi u j
  refine va_getsN (v := .ref (u.2.1 j)) hx hb (hK.2.1 j hj).1 hS hown (va_Nw.use rfl (hK.2.2.2.2.2.2.1 _ hw)) (fun _ h9 => h9) hd ?_
  rw [← hAd]
  exact k H locs ls hW hS hl hc hs
theorem g_tald {j z : Nat} {i : Int32} (C : pm_Cx Γ own cc d n) (hd : decode cc pc = .ok (.iaload, 1)) (hj : j < 4) (hi : i = nI z) (hz : z < (pm_tv j).length) (k : pm_G Γ cells slots (pc + 1) L (.int ((pm_tv j).getD z 0) :: st) sh I J) : pm_G Γ cells slots pc L (.int i :: .ref (1000 + j) :: st) sh I J := by
  obtain ⟨p, l, e, R, s, m, args, below, meth, c, Q, u, nL⟩ := Γ
  obtain ⟨hx, hb, hml, rfl, hown, hts, hlk, hK, hfr, hlo, hB⟩ := C
  intro H locs ls hW hS hl hc hs
  have hAd := pm_ad_hi u j
  obtain ⟨c1, c2⟩ := pm_clamp hi hz (by have h : ∀ j, j < 4 → (pm_tv j).length ≤ 100000 := by decide
                                        exact h j hj)
  show W p l e R s m args below meth c H locs cells slots Q (F0 m pc ls (.int i :: .ref (pm_ad u (1000 + j)) :: st.map (pm_tr u)))
  rw [hAd]
  exact va_ti hx hb (hK.2.1 j hj).2 hS c2 (by rw [c1]; rfl) hd (k H locs ls hW hS hl hc hs)
end PMR
end
section
/-! Calls and ends -/
section PMC
variable {p : Program} {l : Launch} {e : Env} {R : Room} {s : State} {m : MethodId} {args : Array Value} {below : List Frame} {meth : Method} {c : Code} {H : Heap} {locs : List Loc} {cells slots : Nat} {Q : State → Prop} {pc : Nat} {ls : Array Slot} {rest st0 : List Value} {u : pm_U}
theorem pm_run {mc ms : Nat} {a : Array Value} {Post : Option Value → List pm_S → pm_I → pm_J → Prop} (hr : va_Run p l e R s m args below meth c H locs cells slots mc ms (F0 m pc ls st0) rest (pm_Qc u Post a) (pm_A u)) (hS : va_S (pm_A u) s.heap H locs)
    (kk : ∀ (r : Option Value) (sh' : List pm_S) (I' : pm_I) (J' : pm_J) (H1 : Heap) (locs1 : List Loc), Post r sh' I' J' → pm_Wd u sh' I' J' H1 → va_S (pm_A u) s.heap H1 locs1 → W p l e R s m args below meth c H1 locs1 (cells + mc) (slots + ms) Q (F0 m (pc + 3) ls ((r.map (pm_tr u)).toList ++ rest))) : W p l e R s m args below meth c H locs cells slots Q (F0 m pc ls st0) := by
  intro T hT X
  obtain ⟨v, st₀, t, T', L, h0, X', hL, e1, e2, ⟨⟨r, sh', I', J', hv, hp, hw⟩, hz, hk⟩, st⟩ := hr T hT X
  cases hv
  rw [h0] at hz hk
  obtain ⟨t2, a1, b1⟩ := kk r sh' I' J' T'.heap (locs ++ L) hp (by rw [e1]; exact hw)
    ⟨Nat.le_trans hS.1 (by rw [e1]; exact hz), fun q h1 h2 => by rw [e1, hk q (Nat.lt_of_lt_of_le h1 hS.1) h2]; exact hS.2.1 q h1 h2, fun q hq => by
      rcases List.mem_append.mp hq with h | h
      · exact hS.2.2 q h
      · exact hL q h⟩ T' rfl X'
  exact ⟨t2, st t2 a1, b1⟩
end PMC
theorem pm_goods {ws : List Cond} (h : ∀ w ∈ ws, w ∈ pm_tbl) : GoodIn pm_tbl ws := fun w hw => ⟨h w hw, good_of_word (List.mem_filter.mp (h w hw)).2⟩
/-- links to methods: on an object, static, of a nest mate, a maker -/
def pm_lV (own : String) (idx : Nat) (y : MethodName) (ci nn : Nat) : Prop := ∃ (C : String) (T : u_T) (N : Nat), vwCl[ci]? = some (C, T, N) ∧ (y.cls = C ∧ y.cls ≠ "java/lang/invoke/MethodHandle" ∧ y.cls ≠ "java/lang/invoke/VarHandle" ∧ (parseMethodDescriptor y.desc).map (fun d => d.parameters.length) = some nn) ∧ Cond.methodLink own idx y ∈ pm_tbl ∧ Cond.instanceMethod y ∈ pm_tbl ∧ Cond.selects C y y ∈ pm_tbl ∧ Cond.initialized C ∈ pm_tbl
def pm_lS (own : String) (idx : Nat) (y : MethodName) (nn : Nat) : Prop := (y.cls ≠ "java/lang/invoke/MethodHandle" ∧ y.cls ≠ "java/lang/invoke/VarHandle" ∧ (parseMethodDescriptor y.desc).map (fun d => d.parameters.length) = some nn) ∧ Cond.methodLink own idx y ∈ pm_tbl ∧ Cond.static y ∈ pm_tbl ∧ Cond.initialized y.cls ∈ pm_tbl
def pm_lN (own : String) (idx : Nat) (y : MethodName) (nn : Nat) : Prop := (y.cls ≠ "java/lang/invoke/MethodHandle" ∧ y.cls ≠ "java/lang/invoke/VarHandle" ∧ (parseMethodDescriptor y.desc).map (fun d => d.parameters.length) = some nn) ∧ (own, idx, y) ∈ pm_nM ∧ Cond.static y ∈ pm_tbl ∧ Cond.initialized y.cls ∈ pm_tbl
def pm_lI (own : String) (idx : Nat) (y : MethodName) (nn : Nat) : Prop := (y.name = "<init>" ∧ y.cls ≠ "java/lang/invoke/MethodHandle" ∧ y.cls ≠ "java/lang/invoke/VarHandle" ∧ (parseMethodDescriptor y.desc).map (fun d => d.parameters.length) = some nn) ∧ (Cond.methodLink own idx y ∈ pm_tbl ∨ (own, idx, y) ∈ pm_nM) ∧ Cond.instanceMethod y ∈ pm_tbl ∧ Cond.initialized y.cls ∈ pm_tbl
/-- a determined answer -/
def pm_D (r : Option Value) (sh : List pm_S) (I : pm_I) (J : pm_J) : Option Value → List pm_S → pm_I → pm_J → Prop := fun r2 sh2 I2 J2 => r2 = r ∧ sh2 = sh ∧ I2 = I ∧ J2 = J
def pm_rc (Γ : pm_T) (c9 s9 : Nat) : Prop := match Γ with
  | (_, _, _, R, _, _, _, _, _, _, _, _, _) => c9 ≤ R.cells ∧ s9 ≤ R.slots
section PMR2
variable {Γ : pm_T} {own : String} {cc : ByteArray} {d n cells slots pc : Nat} {L : List (Nat × Value)} {st : List Value} {sh : List pm_S} {I : pm_I} {J : pm_J}
theorem g_callV {y : MethodName} {bytes : ByteArray} {maxL : Nat} {ret : Option FieldType} {av rest : List Value} {Post : Option Value → List pm_S → pm_I → pm_J → Prop} {idx a ci nn : Nat} {fs : List pm_F} (C : pm_Cx Γ own cc (d + 1) n) (hd : decode cc pc = .ok (.invokevirtual idx, 3)) (K : pm_lV own idx y ci nn) (hcode : Cond.code y bytes maxL ret ∈ pm_tbl) (hmx : maxL ≤ 17) (ha : sh[a]? = some (.inr (.inr (ci, fs)))) (hM : pm_M d 0 0 y bytes maxL ret (.ref a :: av) sh I J Post) (hst : st = av.reverse ++ .ref a :: rest) (hn : av.length = nn) (hcat : (rest.map fun v => v.category).sum ≤ 8)
    (k : ∀ (r : Option Value) (sh' : List pm_S) (I' : pm_I) (J' : pm_J), Post r sh' I' J' → pm_G Γ cells slots (pc + 3) L (r.toList ++ rest) sh' I' J') : pm_G Γ cells slots pc L st sh I J := by
  obtain ⟨p, l, e, R, s, m, args, below, meth, c, Q, u, nL⟩ := Γ
  obtain ⟨hx, hb, hml, rfl, hown, hts, hlk, hK, hfr, hlo, hB⟩ := C
  intro H locs ls hW hS hl hc hs
  obtain ⟨C9, T9, N9, k1, k2, k3, k4, k5, k6⟩ := K
  have hcw : CallW R s args own C9 idx y bytes maxL ret (.code y bytes maxL ret :: pm_tbl) (pm_rm d 0 0) 0 0 nn := cwV nn hts (pm_goods (fun w hw => by
    rcases List.mem_append.mp hw with h | h
    · simp only [List.mem_cons, List.not_mem_nil, or_false] at h
      rcases h with rfl | rfl | rfl | rfl
      · exact k3
      · exact k4
      · exact k5
      · exact k6
    · rcases List.mem_cons.mp h with rfl | h
      · exact hcode
      · exact h)) rfl rfl rfl k2 ⟨hfr, by show 8 + (maxL + 11) + 36 * d ≤ R.locals; omega⟩
  subst hst
  refine pm_run (va_runV (As := av.map (pm_tr u)) (rest := rest.map (pm_tr u)) (b := pm_ad u a) ⟨hx, hb, hml, hown, hts⟩ (hM l u) hcw ⟨fun a U g mk q => ⟨q.1, q.2.1, pm_K.same rfl q.2.2⟩, va_recv hK.1 hW.1 k1 (pm_ws_get ha), fun U hU hWm => ⟨rfl, by rw [hU]; exact hW, by rw [hU]; exact pm_K.go hWm hS.2.1 hK⟩⟩ rfl (by rw [List.length_map]; exact hn) hl.1 (by simp [pm_tr]) (lv_room (by rw [List.map_map]; simpa only [Function.comp_def, pm_tr_cat] using hcat)) hd ⟨hc, hs⟩) hS (fun r sh' I' J' H1 locs1 hp hw hs1 => ?_)
  have h := k r sh' I' J' hp H1 locs1 ls hw hs1 hl hc hs
  rw [List.map_append] at h
  cases r <;> exact h
theorem g_callS {y : MethodName} {bytes : ByteArray} {maxL : Nat} {ret : Option FieldType} {av rest : List Value} {Post : Option Value → List pm_S → pm_I → pm_J → Prop} {idx nn : Nat} (C : pm_Cx Γ own cc (d + 1) n) (hd : decode cc pc = .ok (.invokestatic idx, 3)) (K : pm_lS own idx y nn) (hcode : Cond.code y bytes maxL ret ∈ pm_tbl) (hmx : maxL ≤ 17) (hM : pm_M d 0 0 y bytes maxL ret av sh I J Post) (hst : st = av.reverse ++ rest) (hn : av.length = nn) (hcat : (rest.map fun v => v.category).sum ≤ 8)
    (k : ∀ (r : Option Value) (sh' : List pm_S) (I' : pm_I) (J' : pm_J), Post r sh' I' J' → pm_G Γ cells slots (pc + 3) L (r.toList ++ rest) sh' I' J') : pm_G Γ cells slots pc L st sh I J := by
  obtain ⟨p, l, e, R, s, m, args, below, meth, c, Q, u, nL⟩ := Γ
  obtain ⟨hx, hb, hml, rfl, hown, hts, hlk, hK, hfr, hlo, hB⟩ := C
  intro H locs ls hW hS hl hc hs
  obtain ⟨k2, k3, k4, k6⟩ := K
  have hcw := callB_of (R := R) (s := s) (args := args) (own := own) (index := idx) (y := y) (bytes := bytes) (maxL := maxL) (ret := ret) (rm := pm_rm d 0 0) (mc := 0) (ms := 0) nn hts (pm_goodIn hcode) rfl rfl rfl (hts _ k6) (hts _ k3) k2 ⟨hfr, by show 8 + (maxL + 11) + 36 * d ≤ R.locals; omega⟩
  subst hst
  refine pm_run (va_runS (As := av.map (pm_tr u)) (rest := rest.map (pm_tr u)) ⟨hx, hb, hml, hown, hts⟩ (hM l u) ⟨hcw, hts _ k4⟩ ⟨fun a U g mk q => ⟨q.1, q.2.1, pm_K.same rfl q.2.2⟩, fun U hU hWm => ⟨rfl, by rw [hU]; exact hW, by rw [hU]; exact pm_K.go hWm hS.2.1 hK⟩⟩ rfl (by rw [List.length_map]; exact hn) hl.1 (by simp) (lv_room (by rw [List.map_map]; simpa only [Function.comp_def, pm_tr_cat] using hcat)) hd ⟨hc, hs⟩) hS (fun r sh' I' J' H1 locs1 hp hw hs1 => ?_)
  have h := k r sh' I' J' hp H1 locs1 ls hw hs1 hl hc hs
  rw [List.map_append] at h
  cases r <;> exact h
theorem g_callN {y : MethodName} {bytes : ByteArray} {maxL : Nat} {ret : Option FieldType} {av rest : List Value} {Post : Option Value → List pm_S → pm_I → pm_J → Prop} {idx nn : Nat} (C : pm_Cx Γ own cc (d + 1) n) (hd : decode cc pc = .ok (.invokestatic idx, 3)) (K : pm_lN own idx y nn) (hcode : Cond.code y bytes maxL ret ∈ pm_tbl) (hmx : maxL ≤ 17) (hM : pm_M d 0 0 y bytes maxL ret av sh I J Post) (hst : st = av.reverse ++ rest) (hn : av.length = nn) (hcat : (rest.map fun v => v.category).sum ≤ 8)
    (k : ∀ (r : Option Value) (sh' : List pm_S) (I' : pm_I) (J' : pm_J), Post r sh' I' J' → pm_G Γ cells slots (pc + 3) L (r.toList ++ rest) sh' I' J') : pm_G Γ cells slots pc L st sh I J := by
  obtain ⟨p, l, e, R, s, m, args, below, meth, c, Q, u, nL⟩ := Γ
  obtain ⟨hx, hb, hml, rfl, hown, hts, hlk, hK, hfr, hlo, hB⟩ := C
  intro H locs ls hW hS hl hc hs
  obtain ⟨k2, k3, k4, k6⟩ := K
  have hcw := va_cnB (R := R) (s := s) (args := args) (own := own) (host := RX7) (index := idx) (y := y) (bytes := bytes) (maxL := maxL) (ret := ret) (rm := pm_rm d 0 0) (mc := 0) (ms := 0) nn hts (pm_goodIn hcode) rfl rfl rfl (hK.2.2.2.2.2.2.2.1 _ k3) (hts _ k6) k2 ⟨hfr, by show 8 + (maxL + 11) + 36 * d ≤ R.locals; omega⟩
  subst hst
  refine pm_run (va_runSN (As := av.map (pm_tr u)) (rest := rest.map (pm_tr u)) ⟨hx, hb, hml, hown, hts⟩ (hM l u) ⟨hcw, hts _ k4, trivial⟩ ⟨fun a U g mk q => ⟨q.1, q.2.1, pm_K.same rfl q.2.2⟩, fun U hU hWm => ⟨rfl, by rw [hU]; exact hW, by rw [hU]; exact pm_K.go hWm hS.2.1 hK⟩⟩ rfl (by rw [List.length_map]; exact hn) hl.1 (by simp) (lv_room (by rw [List.map_map]; simpa only [Function.comp_def, pm_tr_cat] using hcat)) hd ⟨hc, hs⟩) hS (fun r sh' I' J' H1 locs1 hp hw hs1 => ?_)
  have h := k r sh' I' J' hp H1 locs1 ls hw hs1 hl hc hs
  rw [List.map_append] at h
  cases r <;> exact h
/-- a maker is called: it may make cells -/
theorem g_callI {y : MethodName} {bytes : ByteArray} {maxL mc ms : Nat} {av rest : List Value} {Post : Option Value → List pm_S → pm_I → pm_J → Prop} {idx a nn : Nat} (C : pm_Cx Γ own cc (d + 1) n) (hd : decode cc pc = .ok (.invokespecial idx, 3)) (K : pm_lI own idx y nn) (hcode : Cond.code y bytes maxL none ∈ pm_tbl) (hmx : maxL ≤ 17) (hM : pm_M d mc ms y bytes maxL none (.ref a :: av) sh I J Post) (hst : st = av.reverse ++ .ref a :: rest) (hn : av.length = nn) (hcat : (rest.map fun v => v.category).sum ≤ 8) (hroom : pm_rc Γ (cells + mc) (slots + ms))
    (k : ∀ (r : Option Value) (sh' : List pm_S) (I' : pm_I) (J' : pm_J), Post r sh' I' J' → pm_G Γ (cells + mc) (slots + ms) (pc + 3) L (r.toList ++ rest) sh' I' J') : pm_G Γ cells slots pc L st sh I J := by
  obtain ⟨p, l, e, R, s, m, args, below, meth, c, Q, u, nL⟩ := Γ
  obtain ⟨hx, hb, hml, rfl, hown, hts, hlk, hK, hfr, hlo, hB⟩ := C
  intro H locs ls hW hS hl hc hs
  obtain ⟨⟨k1, k2⟩, k3, k4, k6⟩ := K
  subst hst
  have hpre : PreS s H (va_Pc ((Value.ref a :: av).map (pm_tr u)) (fun U => pm_Wd u sh I J U.heap ∧ pm_K u U U.heap)) (.ref (pm_ad u a) :: av.map (pm_tr u)) := ⟨fun a U g mk q => ⟨q.1, q.2.1, pm_K.same rfl q.2.2⟩, fun U hU hWm => ⟨rfl, by rw [hU]; exact hW, by rw [hU]; exact pm_K.go hWm hS.2.1 hK⟩⟩
  have hrun : va_Run p l e R s m args below meth c H locs cells slots mc ms (F0 m pc ls ((av.reverse ++ .ref a :: rest).map (pm_tr u))) (rest.map (pm_tr u)) (pm_Qc u Post (Value.ref (pm_ad u a) :: av.map (pm_tr u)).toArray) (pm_A u) := by
    rcases k3 with k3 | k3
    · exact va_runI (As := av.map (pm_tr u)) (b := pm_ad u a) ⟨hx, hb, hml, hown, hts⟩ (hM l u) ⟨callB_of (R := R) (s := s) (args := args) (own := own) (index := idx) (y := y) (bytes := bytes) (maxL := maxL) (ret := none) (rm := pm_rm d mc ms) (mc := mc) (ms := ms) nn hts (pm_goodIn hcode) rfl rfl rfl (hts _ k6) (hts _ k3) k2 ⟨hfr, by show 8 + (maxL + 11) + 36 * d ≤ R.locals; omega⟩, k1, hts _ k4⟩ hpre rfl (by rw [List.length_map]; exact hn) hl.1 (by simp [pm_tr]) (lv_room (by rw [List.map_map]; simpa only [Function.comp_def, pm_tr_cat] using hcat)) hd hroom
    · exact va_runIN (As := av.map (pm_tr u)) (b := pm_ad u a) ⟨hx, hb, hml, hown, hts⟩ (hM l u) ⟨va_cnB (R := R) (s := s) (args := args) (own := own) (host := RX7) (index := idx) (y := y) (bytes := bytes) (maxL := maxL) (ret := none) (rm := pm_rm d mc ms) (mc := mc) (ms := ms) nn hts (pm_goodIn hcode) rfl rfl rfl (hK.2.2.2.2.2.2.2.1 _ k3) (hts _ k6) k2 ⟨hfr, by show 8 + (maxL + 11) + 36 * d ≤ R.locals; omega⟩, k1, hts _ k4⟩ hpre rfl (by rw [List.length_map]; exact hn) hl.1 (by simp [pm_tr]) (lv_room (by rw [List.map_map]; simpa only [Function.comp_def, pm_tr_cat] using hcat)) hd hroom
  refine pm_run hrun hS (fun r sh' I' J' H1 locs1 hp hw hs1 => ?_)
  have h := k r sh' I' J' hp H1 locs1 ls hw hs1 hl hroom.1 hroom.2
  rw [List.map_append] at h
  cases r <;> exact h
theorem g_objInit {a idx : Nat} (C : pm_Cx Γ own cc (d + 1) n) (hd : decode cc pc = .ok (.invokespecial idx, 3)) (h1 : Cond.methodLink own idx Lib.objectInit ∈ pm_tbl) (h2 : Cond.instanceMethod Lib.objectInit ∈ pm_tbl) (h3 : Cond.code Lib.objectInit ⟨#[0xb1]⟩ 1 none ∈ pm_tbl) (hcat : (st.map fun v => v.category).sum ≤ 8) (k : pm_G Γ cells slots (pc + 3) L st sh I J) : pm_G Γ cells slots pc L (.ref a :: st) sh I J := by
  obtain ⟨p, l, e, R, s, m, args, below, meth, c, Q, u, nL⟩ := Γ
  obtain ⟨hx, hb, hml, rfl, hown, hts, hlk, hK, hfr, hlo, hB⟩ := C
  intro H locs ls hW hS hl hc hs
  have hcat2 : ((st.map (pm_tr u)).map fun v => v.category).sum ≤ 8 := by rw [List.map_map]; simpa only [Function.comp_def, pm_tr_cat] using hcat
  exact W.objInit hx hb hown (hts _ h1) (hts _ h2) (hts _ h3) rfl (by rw [hml]; exact hl.1) rfl hd (by omega) (by have h := lv_room (m := m) (pc := pc) (ls := ls) (rest := (Value.ref a :: st).map (pm_tr u)) hcat2; omega) (k H locs ls hW hS hl hc hs)
theorem g_iret {nm : String} {ty : FieldType} {mc ms : Nat} {Post : Option Value → List pm_S → pm_I → pm_J → Prop} {v : Int32} (C : pm_Cx Γ own cc d n) (C2 : pm_Ct Γ nm (some ty) mc ms Post) (hd : decode cc pc = .ok (.ireturn, 1)) (hn : narrow ty (.int v) = .int v) (hc1 : cells ≤ mc) (hs1 : slots ≤ ms) (hp : Post (some (.int v)) sh I J) : pm_G Γ cells slots pc L [.int v] sh I J := by
  obtain ⟨p, l, e, R, s, m, args, below, meth, c, Q, u, nL⟩ := Γ
  obtain ⟨hx, hb, hml, rfl, hown, hts, hlk, hK, hfr, hlo, hB⟩ := C
  obtain ⟨-, hr, rfl, -, -⟩ := C2
  intro H locs ls hW hS hl hc hs
  refine W.widen hc1 hs1 ?_
  exact W.zret (ty := ty) hx hb hr hn (fun t ht _ => ⟨⟨some (.int v), sh, I, J, rfl, hp, by rw [ht]; exact hW⟩, hS.F ht⟩) hS.2.2 hd hlk
theorem g_vret {nm : String} {mc ms : Nat} {Post : Option Value → List pm_S → pm_I → pm_J → Prop} (C : pm_Cx Γ own cc d n) (C2 : pm_Ct Γ nm none mc ms Post) (hd : decode cc pc = .ok (.return_, 1)) (hc1 : cells ≤ mc) (hs1 : slots ≤ ms) (hp : Post none sh I J) : pm_G Γ cells slots pc L [] sh I J := by
  obtain ⟨p, l, e, R, s, m, args, below, meth, c, Q, u, nL⟩ := Γ
  obtain ⟨hx, hb, hml, rfl, hown, hts, hlk, hK, hfr, hlo, hB⟩ := C
  obtain ⟨-, hr, rfl, -, -⟩ := C2
  intro H locs ls hW hS hl hc hs
  refine W.widen hc1 hs1 ?_
  exact W.vret hx hb hr (fun t ht _ => ⟨⟨none, sh, I, J, rfl, hp, by rw [ht]; exact hW⟩, hS.F ht⟩) hS.2.2 hd hlk
theorem g_aret {nm : String} {rt : FieldType} {mc ms a : Nat} {Post : Option Value → List pm_S → pm_I → pm_J → Prop} (C : pm_Cx Γ own cc d n) (C2 : pm_Ct Γ nm (some rt) mc ms Post) (hd : decode cc pc = .ok (.areturn, 1)) (hrt : (∃ n, rt = .object n) ∨ ∃ t, rt = .array t) (hc1 : cells ≤ mc) (hs1 : slots ≤ ms) (hp : Post (some (.ref a)) sh I J) : pm_G Γ cells slots pc L [.ref a] sh I J := by
  obtain ⟨p, l, e, R, s, m, args, below, meth, c, Q, u, nL⟩ := Γ
  obtain ⟨hx, hb, hml, rfl, hown, hts, hlk, hK, hfr, hlo, hB⟩ := C
  obtain ⟨-, hr, rfl, -, -⟩ := C2
  intro H locs ls hW hS hl hc hs
  refine W.widen hc1 hs1 ?_
  exact W.aret (v := .ref (pm_ad u a)) hx hb hr hrt (Or.inr ⟨_, rfl⟩) (fun t ht _ => ⟨⟨some (.ref a), sh, I, J, rfl, hp, by rw [ht]; exact hW⟩, hS.F ht⟩) hS.2.2 hd hlk
end PMR2
end
