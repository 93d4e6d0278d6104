section
-- ===== PART A: goes FIRST, ahead of the names: the tables' words, and 'selects' of the private methods out of them =====
/-- a private method of a class that the tables say can be made, by its rows of tables_1 -/
def lw_okq (q : MethodName × Nat) : Prop := (q.1.cls ≠ "java/lang/invoke/MethodHandle" ∧ q.1.cls ≠ "java/lang/invoke/VarHandle") ∧ Cond.instantiable q.1.cls q.2 ∈ tables_1 ∧ Cond.privateMethod q.1 ∈ tables_1 ∧ Cond.instanceMethod q.1 ∈ tables_1
theorem lw_p0 : lw_okq (⟨"FairLink$State", "ticksOfRest", "(LFairLink$Packet;)I"⟩, 15) := ⟨⟨by decide +kernel, by decide +kernel⟩, List.mem_of_getElem? (i := 19) (by decide +kernel), List.mem_of_getElem? (i := 416) (by decide +kernel), List.mem_of_getElem? (i := 417) (by decide +kernel)⟩
theorem lw_p1 : lw_okq (⟨"FairLink$Pad", "readArrival", "()Z"⟩, 7) := ⟨⟨by decide +kernel, by decide +kernel⟩, List.mem_of_getElem? (i := 218) (by decide +kernel), List.mem_of_getElem? (i := 456) (by decide +kernel), List.mem_of_getElem? (i := 457) (by decide +kernel)⟩
theorem lw_p2 : lw_okq (⟨"FairLink$Pad", "readNumber", "(I)I"⟩, 7) := ⟨⟨by decide +kernel, by decide +kernel⟩, List.mem_of_getElem? (i := 218) (by decide +kernel), List.mem_of_getElem? (i := 460) (by decide +kernel), List.mem_of_getElem? (i := 461) (by decide +kernel)⟩
theorem lw_p3 : lw_okq (⟨"FairLink$Pad", "readBehind", "(CII)I"⟩, 7) := ⟨⟨by decide +kernel, by decide +kernel⟩, List.mem_of_getElem? (i := 218) (by decide +kernel), List.mem_of_getElem? (i := 464) (by decide +kernel), List.mem_of_getElem? (i := 465) (by decide +kernel)⟩
theorem lw_p4 : lw_okq (⟨"FairLink", "hasFlowsOfPad", "()Z"⟩, 3) := ⟨⟨by decide +kernel, by decide +kernel⟩, List.mem_of_getElem? (i := 11) (by decide +kernel), List.mem_of_getElem? (i := 472) (by decide +kernel), List.mem_of_getElem? (i := 473) (by decide +kernel)⟩
theorem lw_p5 : lw_okq (⟨"FairLink", "acceptArrivals", "()I"⟩, 3) := ⟨⟨by decide +kernel, by decide +kernel⟩, List.mem_of_getElem? (i := 11) (by decide +kernel), List.mem_of_getElem? (i := 484) (by decide +kernel), List.mem_of_getElem? (i := 485) (by decide +kernel)⟩
theorem lw_p6 : lw_okq (⟨"FairLink$State", "moveTime", "()V"⟩, 15) := ⟨⟨by decide +kernel, by decide +kernel⟩, List.mem_of_getElem? (i := 19) (by decide +kernel), List.mem_of_getElem? (i := 497) (by decide +kernel), List.mem_of_getElem? (i := 498) (by decide +kernel)⟩
theorem lw_p7 : lw_okq (⟨"FairLink$State", "finishPiece", "()V"⟩, 15) := ⟨⟨by decide +kernel, by decide +kernel⟩, List.mem_of_getElem? (i := 19) (by decide +kernel), List.mem_of_getElem? (i := 501) (by decide +kernel), List.mem_of_getElem? (i := 502) (by decide +kernel)⟩
theorem lw_p8 : lw_okq (⟨"FairLink$State", "recordPiece", "()V"⟩, 15) := ⟨⟨by decide +kernel, by decide +kernel⟩, List.mem_of_getElem? (i := 19) (by decide +kernel), List.mem_of_getElem? (i := 505) (by decide +kernel), List.mem_of_getElem? (i := 506) (by decide +kernel)⟩
theorem lw_p9 : lw_okq (⟨"FairLink$State", "deliver", "(I)V"⟩, 15) := ⟨⟨by decide +kernel, by decide +kernel⟩, List.mem_of_getElem? (i := 19) (by decide +kernel), List.mem_of_getElem? (i := 519) (by decide +kernel), List.mem_of_getElem? (i := 520) (by decide +kernel)⟩
theorem lw_p10 : lw_okq (⟨"FairLink$State", "deliverJoined", "()V"⟩, 15) := ⟨⟨by decide +kernel, by decide +kernel⟩, List.mem_of_getElem? (i := 19) (by decide +kernel), List.mem_of_getElem? (i := 536) (by decide +kernel), List.mem_of_getElem? (i := 537) (by decide +kernel)⟩
theorem lw_p11 : lw_okq (⟨"FairLink$Flow", "forgive", "(J)V"⟩, 15) := ⟨⟨by decide +kernel, by decide +kernel⟩, List.mem_of_getElem? (i := 31) (by decide +kernel), List.mem_of_getElem? (i := 544) (by decide +kernel), List.mem_of_getElem? (i := 545) (by decide +kernel)⟩
theorem lw_p12 : lw_okq (⟨"FairLink$State", "drainFluid", "()V"⟩, 15) := ⟨⟨by decide +kernel, by decide +kernel⟩, List.mem_of_getElem? (i := 19) (by decide +kernel), List.mem_of_getElem? (i := 549) (by decide +kernel), List.mem_of_getElem? (i := 550) (by decide +kernel)⟩
theorem lw_p13 : lw_okq (⟨"FairLink$State", "beginPieceIfFree", "()V"⟩, 15) := ⟨⟨by decide +kernel, by decide +kernel⟩, List.mem_of_getElem? (i := 19) (by decide +kernel), List.mem_of_getElem? (i := 565) (by decide +kernel), List.mem_of_getElem? (i := 566) (by decide +kernel)⟩
theorem lw_p14 : lw_okq (⟨"FairLink$State", "urgentFlow", "()I"⟩, 15) := ⟨⟨by decide +kernel, by decide +kernel⟩, List.mem_of_getElem? (i := 19) (by decide +kernel), List.mem_of_getElem? (i := 569) (by decide +kernel), List.mem_of_getElem? (i := 570) (by decide +kernel)⟩
theorem lw_p15 : lw_okq (⟨"FairLink$State", "leastTagFlow", "()I"⟩, 15) := ⟨⟨by decide +kernel, by decide +kernel⟩, List.mem_of_getElem? (i := 19) (by decide +kernel), List.mem_of_getElem? (i := 578) (by decide +kernel), List.mem_of_getElem? (i := 579) (by decide +kernel)⟩
def lw_privs_1 : List (MethodName × Nat) := [(⟨"FairLink$State", "ticksOfRest", "(LFairLink$Packet;)I"⟩, 15), (⟨"FairLink$Pad", "readArrival", "()Z"⟩, 7), (⟨"FairLink$Pad", "readNumber", "(I)I"⟩, 7), (⟨"FairLink$Pad", "readBehind", "(CII)I"⟩, 7), (⟨"FairLink", "hasFlowsOfPad", "()Z"⟩, 3), (⟨"FairLink", "acceptArrivals", "()I"⟩, 3), (⟨"FairLink$State", "moveTime", "()V"⟩, 15), (⟨"FairLink$State", "finishPiece", "()V"⟩, 15), (⟨"FairLink$State", "recordPiece", "()V"⟩, 15), (⟨"FairLink$State", "deliver", "(I)V"⟩, 15), (⟨"FairLink$State", "deliverJoined", "()V"⟩, 15), (⟨"FairLink$Flow", "forgive", "(J)V"⟩, 15), (⟨"FairLink$State", "drainFluid", "()V"⟩, 15), (⟨"FairLink$State", "beginPieceIfFree", "()V"⟩, 15), (⟨"FairLink$State", "urgentFlow", "()I"⟩, 15), (⟨"FairLink$State", "leastTagFlow", "()I"⟩, 15)]
theorem lw_r1 : ∀ q ∈ lw_privs_1, lw_okq q := List.forall_mem_cons.mpr ⟨lw_p0, List.forall_mem_cons.mpr ⟨lw_p1, List.forall_mem_cons.mpr ⟨lw_p2, List.forall_mem_cons.mpr ⟨lw_p3, List.forall_mem_cons.mpr ⟨lw_p4, List.forall_mem_cons.mpr ⟨lw_p5, List.forall_mem_cons.mpr ⟨lw_p6, List.forall_mem_cons.mpr ⟨lw_p7, List.forall_mem_cons.mpr ⟨lw_p8, List.forall_mem_cons.mpr ⟨lw_p9, List.forall_mem_cons.mpr ⟨lw_p10, List.forall_mem_cons.mpr ⟨lw_p11, List.forall_mem_cons.mpr ⟨lw_p12, List.forall_mem_cons.mpr ⟨lw_p13, List.forall_mem_cons.mpr ⟨lw_p14, List.forall_mem_cons.mpr ⟨lw_p15, fun _ h => absurd h List.not_mem_nil⟩⟩⟩⟩⟩⟩⟩⟩⟩⟩⟩⟩⟩⟩⟩⟩
theorem lw_p16 : lw_okq (⟨"FairLink$State", "beginPiece", "(IZ)V"⟩, 15) := ⟨⟨by decide +kernel, by decide +kernel⟩, List.mem_of_getElem? (i := 19) (by decide +kernel), List.mem_of_getElem? (i := 586) (by decide +kernel), List.mem_of_getElem? (i := 587) (by decide +kernel)⟩
theorem lw_p17 : lw_okq (⟨"FairLink", "freshCopy", "()LFairLink$State;"⟩, 3) := ⟨⟨by decide +kernel, by decide +kernel⟩, List.mem_of_getElem? (i := 11) (by decide +kernel), List.mem_of_getElem? (i := 652) (by decide +kernel), List.mem_of_getElem? (i := 653) (by decide +kernel)⟩
theorem lw_p18 : lw_okq (⟨"FairLink", "greatestDelayWith", "(III)I"⟩, 3) := ⟨⟨by decide +kernel, by decide +kernel⟩, List.mem_of_getElem? (i := 11) (by decide +kernel), List.mem_of_getElem? (i := 697) (by decide +kernel), List.mem_of_getElem? (i := 698) (by decide +kernel)⟩
theorem lw_p19 : lw_okq (⟨"FairLinkModel", "isFlow", "(I)Z"⟩, 11) := ⟨⟨by decide +kernel, by decide +kernel⟩, List.mem_of_getElem? (i := 712) (by decide +kernel), List.mem_of_getElem? (i := 774) (by decide +kernel), List.mem_of_getElem? (i := 775) (by decide +kernel)⟩
theorem lw_p20 : lw_okq (⟨"FairLinkModel", "ofFlow", "(II)J"⟩, 11) := ⟨⟨by decide +kernel, by decide +kernel⟩, List.mem_of_getElem? (i := 712) (by decide +kernel), List.mem_of_getElem? (i := 782) (by decide +kernel), List.mem_of_getElem? (i := 783) (by decide +kernel)⟩
theorem lw_p21 : lw_okq (⟨"FairLinkModel", "hasRoom", "(I)Z"⟩, 11) := ⟨⟨by decide +kernel, by decide +kernel⟩, List.mem_of_getElem? (i := 712) (by decide +kernel), List.mem_of_getElem? (i := 797) (by decide +kernel), List.mem_of_getElem? (i := 798) (by decide +kernel)⟩
theorem lw_p22 : lw_okq (⟨"FairLinkModel", "of", "(II)J"⟩, 11) := ⟨⟨by decide +kernel, by decide +kernel⟩, List.mem_of_getElem? (i := 712) (by decide +kernel), List.mem_of_getElem? (i := 801) (by decide +kernel), List.mem_of_getElem? (i := 802) (by decide +kernel)⟩
theorem lw_p23 : lw_okq (⟨"FairLinkModel", "take", "(III)I"⟩, 11) := ⟨⟨by decide +kernel, by decide +kernel⟩, List.mem_of_getElem? (i := 712) (by decide +kernel), List.mem_of_getElem? (i := 808) (by decide +kernel), List.mem_of_getElem? (i := 809) (by decide +kernel)⟩
theorem lw_p24 : lw_okq (⟨"FairLinkModel", "isKnown", "(I)Z"⟩, 11) := ⟨⟨by decide +kernel, by decide +kernel⟩, List.mem_of_getElem? (i := 712) (by decide +kernel), List.mem_of_getElem? (i := 817) (by decide +kernel), List.mem_of_getElem? (i := 818) (by decide +kernel)⟩
theorem lw_p25 : lw_okq (⟨"FairLinkModel", "isQueued", "(I)Z"⟩, 11) := ⟨⟨by decide +kernel, by decide +kernel⟩, List.mem_of_getElem? (i := 712) (by decide +kernel), List.mem_of_getElem? (i := 828) (by decide +kernel), List.mem_of_getElem? (i := 829) (by decide +kernel)⟩
theorem lw_p26 : lw_okq (⟨"FairLinkModel", "isUrgent", "(I)Z"⟩, 11) := ⟨⟨by decide +kernel, by decide +kernel⟩, List.mem_of_getElem? (i := 712) (by decide +kernel), List.mem_of_getElem? (i := 832) (by decide +kernel), List.mem_of_getElem? (i := 833) (by decide +kernel)⟩
theorem lw_p27 : lw_okq (⟨"FairLinkModel", "restTicks", "(I)J"⟩, 11) := ⟨⟨by decide +kernel, by decide +kernel⟩, List.mem_of_getElem? (i := 712) (by decide +kernel), List.mem_of_getElem? (i := 836) (by decide +kernel), List.mem_of_getElem? (i := 837) (by decide +kernel)⟩
theorem lw_p28 : lw_okq (⟨"FairLinkModel", "readArrival", "()V"⟩, 11) := ⟨⟨by decide +kernel, by decide +kernel⟩, List.mem_of_getElem? (i := 712) (by decide +kernel), List.mem_of_getElem? (i := 861) (by decide +kernel), List.mem_of_getElem? (i := 862) (by decide +kernel)⟩
theorem lw_p29 : lw_okq (⟨"FairLinkModel", "next", "()I"⟩, 11) := ⟨⟨by decide +kernel, by decide +kernel⟩, List.mem_of_getElem? (i := 712) (by decide +kernel), List.mem_of_getElem? (i := 865) (by decide +kernel), List.mem_of_getElem? (i := 866) (by decide +kernel)⟩
theorem lw_p30 : lw_okq (⟨"FairLinkModel", "readNumber", "(I)I"⟩, 11) := ⟨⟨by decide +kernel, by decide +kernel⟩, List.mem_of_getElem? (i := 712) (by decide +kernel), List.mem_of_getElem? (i := 871) (by decide +kernel), List.mem_of_getElem? (i := 872) (by decide +kernel)⟩
theorem lw_p31 : lw_okq (⟨"FairLinkModel", "tick", "()V"⟩, 11) := ⟨⟨by decide +kernel, by decide +kernel⟩, List.mem_of_getElem? (i := 712) (by decide +kernel), List.mem_of_getElem? (i := 888) (by decide +kernel), List.mem_of_getElem? (i := 889) (by decide +kernel)⟩
def lw_privs_2 : List (MethodName × Nat) := [(⟨"FairLink$State", "beginPiece", "(IZ)V"⟩, 15), (⟨"FairLink", "freshCopy", "()LFairLink$State;"⟩, 3), (⟨"FairLink", "greatestDelayWith", "(III)I"⟩, 3), (⟨"FairLinkModel", "isFlow", "(I)Z"⟩, 11), (⟨"FairLinkModel", "ofFlow", "(II)J"⟩, 11), (⟨"FairLinkModel", "hasRoom", "(I)Z"⟩, 11), (⟨"FairLinkModel", "of", "(II)J"⟩, 11), (⟨"FairLinkModel", "take", "(III)I"⟩, 11), (⟨"FairLinkModel", "isKnown", "(I)Z"⟩, 11), (⟨"FairLinkModel", "isQueued", "(I)Z"⟩, 11), (⟨"FairLinkModel", "isUrgent", "(I)Z"⟩, 11), (⟨"FairLinkModel", "restTicks", "(I)J"⟩, 11), (⟨"FairLinkModel", "readArrival", "()V"⟩, 11), (⟨"FairLinkModel", "next", "()I"⟩, 11), (⟨"FairLinkModel", "readNumber", "(I)I"⟩, 11), (⟨"FairLinkModel", "tick", "()V"⟩, 11)]
theorem lw_r2 : ∀ q ∈ lw_privs_2, lw_okq q := List.forall_mem_cons.mpr ⟨lw_p16, List.forall_mem_cons.mpr ⟨lw_p17, List.forall_mem_cons.mpr ⟨lw_p18, List.forall_mem_cons.mpr ⟨lw_p19, List.forall_mem_cons.mpr ⟨lw_p20, List.forall_mem_cons.mpr ⟨lw_p21, List.forall_mem_cons.mpr ⟨lw_p22, List.forall_mem_cons.mpr ⟨lw_p23, List.forall_mem_cons.mpr ⟨lw_p24, List.forall_mem_cons.mpr ⟨lw_p25, List.forall_mem_cons.mpr ⟨lw_p26, List.forall_mem_cons.mpr ⟨lw_p27, List.forall_mem_cons.mpr ⟨lw_p28, List.forall_mem_cons.mpr ⟨lw_p29, List.forall_mem_cons.mpr ⟨lw_p30, List.forall_mem_cons.mpr ⟨lw_p31, fun _ h => absurd h List.not_mem_nil⟩⟩⟩⟩⟩⟩⟩⟩⟩⟩⟩⟩⟩⟩⟩⟩
theorem lw_p32 : lw_okq (⟨"FairLinkModel", "pieceDone", "()V"⟩, 11) := ⟨⟨by decide +kernel, by decide +kernel⟩, List.mem_of_getElem? (i := 712) (by decide +kernel), List.mem_of_getElem? (i := 892) (by decide +kernel), List.mem_of_getElem? (i := 893) (by decide +kernel)⟩
theorem lw_p33 : lw_okq (⟨"FairLinkModel", "notePiece", "(I)V"⟩, 11) := ⟨⟨by decide +kernel, by decide +kernel⟩, List.mem_of_getElem? (i := 712) (by decide +kernel), List.mem_of_getElem? (i := 896) (by decide +kernel), List.mem_of_getElem? (i := 897) (by decide +kernel)⟩
theorem lw_p34 : lw_okq (⟨"FairLinkModel", "deliver", "(I)V"⟩, 11) := ⟨⟨by decide +kernel, by decide +kernel⟩, List.mem_of_getElem? (i := 712) (by decide +kernel), List.mem_of_getElem? (i := 901) (by decide +kernel), List.mem_of_getElem? (i := 902) (by decide +kernel)⟩
theorem lw_p35 : lw_okq (⟨"FairLinkModel", "joinAll", "()V"⟩, 11) := ⟨⟨by decide +kernel, by decide +kernel⟩, List.mem_of_getElem? (i := 712) (by decide +kernel), List.mem_of_getElem? (i := 906) (by decide +kernel), List.mem_of_getElem? (i := 907) (by decide +kernel)⟩
theorem lw_p36 : lw_okq (⟨"FairLinkModel", "oldest", "()I"⟩, 11) := ⟨⟨by decide +kernel, by decide +kernel⟩, List.mem_of_getElem? (i := 712) (by decide +kernel), List.mem_of_getElem? (i := 910) (by decide +kernel), List.mem_of_getElem? (i := 911) (by decide +kernel)⟩
theorem lw_p37 : lw_okq (⟨"FairLinkModel", "idle", "(I)V"⟩, 11) := ⟨⟨by decide +kernel, by decide +kernel⟩, List.mem_of_getElem? (i := 712) (by decide +kernel), List.mem_of_getElem? (i := 914) (by decide +kernel), List.mem_of_getElem? (i := 915) (by decide +kernel)⟩
theorem lw_p38 : lw_okq (⟨"FairLinkModel", "flowOn", "()V"⟩, 11) := ⟨⟨by decide +kernel, by decide +kernel⟩, List.mem_of_getElem? (i := 712) (by decide +kernel), List.mem_of_getElem? (i := 918) (by decide +kernel), List.mem_of_getElem? (i := 919) (by decide +kernel)⟩
theorem lw_p39 : lw_okq (⟨"FairLinkModel", "begin", "()V"⟩, 11) := ⟨⟨by decide +kernel, by decide +kernel⟩, List.mem_of_getElem? (i := 712) (by decide +kernel), List.mem_of_getElem? (i := 922) (by decide +kernel), List.mem_of_getElem? (i := 923) (by decide +kernel)⟩
theorem lw_p40 : lw_okq (⟨"FairLinkModel", "nextFlow", "()I"⟩, 11) := ⟨⟨by decide +kernel, by decide +kernel⟩, List.mem_of_getElem? (i := 712) (by decide +kernel), List.mem_of_getElem? (i := 926) (by decide +kernel), List.mem_of_getElem? (i := 927) (by decide +kernel)⟩
theorem lw_p41 : lw_okq (⟨"FairLinkModel", "headOf", "(I)I"⟩, 11) := ⟨⟨by decide +kernel, by decide +kernel⟩, List.mem_of_getElem? (i := 712) (by decide +kernel), List.mem_of_getElem? (i := 930) (by decide +kernel), List.mem_of_getElem? (i := 931) (by decide +kernel)⟩
theorem lw_p42 : lw_okq (⟨"FairLinkModel", "tagOf", "(I)J"⟩, 11) := ⟨⟨by decide +kernel, by decide +kernel⟩, List.mem_of_getElem? (i := 712) (by decide +kernel), List.mem_of_getElem? (i := 934) (by decide +kernel), List.mem_of_getElem? (i := 935) (by decide +kernel)⟩
theorem lw_p43 : lw_okq (⟨"FairLinkModel", "lagOf", "(I)J"⟩, 11) := ⟨⟨by decide +kernel, by decide +kernel⟩, List.mem_of_getElem? (i := 712) (by decide +kernel), List.mem_of_getElem? (i := 938) (by decide +kernel), List.mem_of_getElem? (i := 939) (by decide +kernel)⟩
theorem lw_p44 : lw_okq (⟨"FairLinkModel", "restOf", "(I)J"⟩, 11) := ⟨⟨by decide +kernel, by decide +kernel⟩, List.mem_of_getElem? (i := 712) (by decide +kernel), List.mem_of_getElem? (i := 951) (by decide +kernel), List.mem_of_getElem? (i := 952) (by decide +kernel)⟩
theorem lw_p45 : lw_okq (⟨"FairLinkModel", "putAside", "()V"⟩, 11) := ⟨⟨by decide +kernel, by decide +kernel⟩, List.mem_of_getElem? (i := 712) (by decide +kernel), List.mem_of_getElem? (i := 980) (by decide +kernel), List.mem_of_getElem? (i := 981) (by decide +kernel)⟩
theorem lw_p46 : lw_okq (⟨"FairLinkModel", "ticksTo", "(II)I"⟩, 11) := ⟨⟨by decide +kernel, by decide +kernel⟩, List.mem_of_getElem? (i := 712) (by decide +kernel), List.mem_of_getElem? (i := 984) (by decide +kernel), List.mem_of_getElem? (i := 985) (by decide +kernel)⟩
theorem lw_p47 : lw_okq (⟨"FairLinkModel", "putBack", "()V"⟩, 11) := ⟨⟨by decide +kernel, by decide +kernel⟩, List.mem_of_getElem? (i := 712) (by decide +kernel), List.mem_of_getElem? (i := 988) (by decide +kernel), List.mem_of_getElem? (i := 989) (by decide +kernel)⟩
def lw_privs_3 : List (MethodName × Nat) := [(⟨"FairLinkModel", "pieceDone", "()V"⟩, 11), (⟨"FairLinkModel", "notePiece", "(I)V"⟩, 11), (⟨"FairLinkModel", "deliver", "(I)V"⟩, 11), (⟨"FairLinkModel", "joinAll", "()V"⟩, 11), (⟨"FairLinkModel", "oldest", "()I"⟩, 11), (⟨"FairLinkModel", "idle", "(I)V"⟩, 11), (⟨"FairLinkModel", "flowOn", "()V"⟩, 11), (⟨"FairLinkModel", "begin", "()V"⟩, 11), (⟨"FairLinkModel", "nextFlow", "()I"⟩, 11), (⟨"FairLinkModel", "headOf", "(I)I"⟩, 11), (⟨"FairLinkModel", "tagOf", "(I)J"⟩, 11), (⟨"FairLinkModel", "lagOf", "(I)J"⟩, 11), (⟨"FairLinkModel", "restOf", "(I)J"⟩, 11), (⟨"FairLinkModel", "putAside", "()V"⟩, 11), (⟨"FairLinkModel", "ticksTo", "(II)I"⟩, 11), (⟨"FairLinkModel", "putBack", "()V"⟩, 11)]
theorem lw_r3 : ∀ q ∈ lw_privs_3, lw_okq q := List.forall_mem_cons.mpr ⟨lw_p32, List.forall_mem_cons.mpr ⟨lw_p33, List.forall_mem_cons.mpr ⟨lw_p34, List.forall_mem_cons.mpr ⟨lw_p35, List.forall_mem_cons.mpr ⟨lw_p36, List.forall_mem_cons.mpr ⟨lw_p37, List.forall_mem_cons.mpr ⟨lw_p38, List.forall_mem_cons.mpr ⟨lw_p39, List.forall_mem_cons.mpr ⟨lw_p40, List.forall_mem_cons.mpr ⟨lw_p41, List.forall_mem_cons.mpr ⟨lw_p42, List.forall_mem_cons.mpr ⟨lw_p43, List.forall_mem_cons.mpr ⟨lw_p44, List.forall_mem_cons.mpr ⟨lw_p45, List.forall_mem_cons.mpr ⟨lw_p46, List.forall_mem_cons.mpr ⟨lw_p47, fun _ h => absurd h List.not_mem_nil⟩⟩⟩⟩⟩⟩⟩⟩⟩⟩⟩⟩⟩⟩⟩⟩
theorem lw_p48 : lw_okq (⟨"FairLinkModel", "markQueued", "()I"⟩, 11) := ⟨⟨by decide +kernel, by decide +kernel⟩, List.mem_of_getElem? (i := 712) (by decide +kernel), List.mem_of_getElem? (i := 1001) (by decide +kernel), List.mem_of_getElem? (i := 1002) (by decide +kernel)⟩
theorem lw_p49 : lw_okq (⟨"FairLinkModel", "worstOfMarked", "()J"⟩, 11) := ⟨⟨by decide +kernel, by decide +kernel⟩, List.mem_of_getElem? (i := 712) (by decide +kernel), List.mem_of_getElem? (i := 1006) (by decide +kernel), List.mem_of_getElem? (i := 1007) (by decide +kernel)⟩
def lw_privs_4 : List (MethodName × Nat) := [(⟨"FairLinkModel", "markQueued", "()I"⟩, 11), (⟨"FairLinkModel", "worstOfMarked", "()J"⟩, 11)]
theorem lw_r4 : ∀ q ∈ lw_privs_4, lw_okq q := List.forall_mem_cons.mpr ⟨lw_p48, List.forall_mem_cons.mpr ⟨lw_p49, fun _ h => absurd h List.not_mem_nil⟩⟩
def lw_privs : List (MethodName × Nat) := lw_privs_1 ++ (lw_privs_2 ++ (lw_privs_3 ++ (lw_privs_4)))
def lw_tbl : List Cond := k2_sels lw_privs ++ tables_1
theorem lw_privs_ok : ∀ q ∈ lw_privs, lw_okq q := by
  show ∀ q ∈ lw_privs_1 ++ (lw_privs_2 ++ (lw_privs_3 ++ (lw_privs_4))), lw_okq q
  exact List.forall_mem_append.mpr ⟨lw_r1, List.forall_mem_append.mpr ⟨lw_r2, List.forall_mem_append.mpr ⟨lw_r3, lw_r4⟩⟩⟩
end
section
def RX0 : String := "FairLink$Flow"
def TX0 : u_T := fun k => match k with
  | 0 => ("FairLink$Flow", "settings", "[I", true)
  | 1 => ("FairLink$Flow", "queue", "[I", true)
  | 2 => ("FairLink$Flow", "queued", "I", false)
  | 3 => ("FairLink$Flow", "sent", "I", false)
  | 4 => ("FairLink$Flow", "delivered", "I", false)
  | 5 => ("FairLink$Flow", "late", "I", false)
  | 6 => ("FairLink$Flow", "idleness", "I", false)
  | 7 => ("FairLink$Flow", "greatestDelay", "I", false)
  | 8 => ("FairLink$Flow", "sumOfDelays", "I", false)
  | 9 => ("FairLink$Flow", "offered", "I", false)
  | 10 => ("FairLink$Flow", "finish", "J", false)
  | 11 => ("FairLink$Flow", "forgiven", "J", false)
  | 12 => ("FairLink$Flow", "fluid", "J", false)
  | 13 => ("FairLink$Flow", "service", "J", false)
  | _ => ("FairLink$Flow", "greatestLag", "J", false)
def tyX0 : Nat → FieldType := fun k => match k with
  | 0 => .array .int
  | 1 => .array .int
  | 2 => .int
  | 3 => .int
  | 4 => .int
  | 5 => .int
  | 6 => .int
  | 7 => .int
  | 8 => .int
  | 9 => .int
  | 10 => .long
  | 11 => .long
  | 12 => .long
  | 13 => .long
  | _ => .long
theorem nmX0 : ∀ a, a < 15 → ∀ b, b < 15 → a ≠ b → (TX0 a).2.1 ≠ (TX0 b).2.1 := by decide +kernel
theorem tyX0_ok : ∀ k, k < 15 → parseFieldDescriptor (TX0 k).2.2.1 = some (tyX0 k) := by decide +kernel
abbrev cX0_init : ByteArray := prog_2_method_1_code
def yX0_init : MethodName := ⟨RX0, "<init>", "()V"⟩
abbrev cX0_begin : ByteArray := prog_2_method_2_code
def yX0_begin : MethodName := ⟨RX0, "begin", "(I)V"⟩
abbrev cX0_head : ByteArray := prog_2_method_3_code
def yX0_head : MethodName := ⟨RX0, "head", "()I"⟩
abbrev cX0_joinQueue : ByteArray := prog_2_method_4_code
def yX0_joinQueue : MethodName := ⟨RX0, "joinQueue", "(I)V"⟩
abbrev cX0_leaveQueue : ByteArray := prog_2_method_5_code
def yX0_leaveQueue : MethodName := ⟨RX0, "leaveQueue", "(I)V"⟩
abbrev cX0_share : ByteArray := prog_2_method_6_code
def yX0_share : MethodName := ⟨RX0, "share", "(I)J"⟩
abbrev cX0_lag : ByteArray := prog_2_method_7_code
def yX0_lag : MethodName := ⟨RX0, "lag", "()J"⟩
abbrev cX0_noteDelivery : ByteArray := prog_2_method_8_code
def yX0_noteDelivery : MethodName := ⟨RX0, "noteDelivery", "(IZ)V"⟩
abbrev cX0_makeIdleTick : ByteArray := prog_2_method_9_code
def yX0_makeIdleTick : MethodName := ⟨RX0, "makeIdleTick", "(J)V"⟩
abbrev cX0_forgive : ByteArray := prog_2_method_10_code
def yX0_forgive : MethodName := ⟨RX0, "forgive", "(J)V"⟩
abbrev cX0_loseFluid : ByteArray := prog_2_method_11_code
def yX0_loseFluid : MethodName := ⟨RX0, "loseFluid", "(I)V"⟩
abbrev cX0_copyFrom : ByteArray := prog_2_method_12_code
def yX0_copyFrom : MethodName := ⟨RX0, "copyFrom", "(LFairLink$Flow;)V"⟩
def RX1 : String := "FairLink$Packet"
def TX1 : u_T := fun k => match k with
  | 0 => ("FairLink$Packet", "flow", "I", false)
  | 1 => ("FairLink$Packet", "length", "I", false)
  | 2 => ("FairLink$Packet", "offeredAt", "I", false)
  | 3 => ("FairLink$Packet", "deadline", "I", false)
  | 4 => ("FairLink$Packet", "condition", "I", false)
  | 5 => ("FairLink$Packet", "sent", "I", false)
  | 6 => ("FairLink$Packet", "pieces", "I", false)
  | 7 => ("FairLink$Packet", "promotedPieces", "I", false)
  | 8 => ("FairLink$Packet", "lastSentAt", "I", false)
  | 9 => ("FairLink$Packet", "deliveredAt", "I", false)
  | _ => ("FairLink$Packet", "start", "J", false)
def tyX1 : Nat → FieldType := fun k => match k with
  | 0 => .int
  | 1 => .int
  | 2 => .int
  | 3 => .int
  | 4 => .int
  | 5 => .int
  | 6 => .int
  | 7 => .int
  | 8 => .int
  | 9 => .int
  | _ => .long
theorem nmX1 : ∀ a, a < 11 → ∀ b, b < 11 → a ≠ b → (TX1 a).2.1 ≠ (TX1 b).2.1 := by decide +kernel
theorem tyX1_ok : ∀ k, k < 11 → parseFieldDescriptor (TX1 k).2.2.1 = some (tyX1 k) := by decide +kernel
abbrev cX1_init : ByteArray := prog_3_method_1_code
def yX1_init : MethodName := ⟨RX1, "<init>", "()V"⟩
abbrev cX1_begin : ByteArray := prog_3_method_2_code
def yX1_begin : MethodName := ⟨RX1, "begin", "(IIIIJ)V"⟩
abbrev cX1_isQueued : ByteArray := prog_3_method_3_code
def yX1_isQueued : MethodName := ⟨RX1, "isQueued", "()Z"⟩
abbrev cX1_unsent : ByteArray := prog_3_method_4_code
def yX1_unsent : MethodName := ⟨RX1, "unsent", "()I"⟩
abbrev cX1_delay : ByteArray := prog_3_method_5_code
def yX1_delay : MethodName := ⟨RX1, "delay", "()I"⟩
abbrev cX1_isLate : ByteArray := prog_3_method_6_code
def yX1_isLate : MethodName := ⟨RX1, "isLate", "()Z"⟩
abbrev cX1_copyFrom : ByteArray := prog_3_method_7_code
def yX1_copyFrom : MethodName := ⟨RX1, "copyFrom", "(LFairLink$Packet;)V"⟩
def RX2 : String := "FairLink$Pad"
def TX2 : u_T := fun k => match k with
  | 0 => ("FairLink$Pad", "text", "[C", true)
  | 1 => ("FairLink$Pad", "size", "I", false)
  | 2 => ("FairLink$Pad", "flow", "I", false)
  | 3 => ("FairLink$Pad", "length", "I", false)
  | 4 => ("FairLink$Pad", "deadline", "I", false)
  | 5 => ("FairLink$Pad", "count", "I", false)
  | _ => ("FairLink$Pad", "at", "I", false)
def tyX2 : Nat → FieldType := fun k => match k with
  | 0 => .array .char
  | 1 => .int
  | 2 => .int
  | 3 => .int
  | 4 => .int
  | 5 => .int
  | _ => .int
theorem nmX2 : ∀ a, a < 7 → ∀ b, b < 7 → a ≠ b → (TX2 a).2.1 ≠ (TX2 b).2.1 := by decide +kernel
theorem tyX2_ok : ∀ k, k < 7 → parseFieldDescriptor (TX2 k).2.2.1 = some (tyX2 k) := by decide +kernel
abbrev cX2_init : ByteArray := prog_4_method_1_code
def yX2_init : MethodName := ⟨RX2, "<init>", "()V"⟩
abbrev cX2_append : ByteArray := prog_4_method_2_code
def yX2_append : MethodName := ⟨RX2, "append", "(JI)V"⟩
abbrev cX2_findFault : ByteArray := prog_4_method_3_code
def yX2_findFault : MethodName := ⟨RX2, "findFault", "()I"⟩
abbrev cX2_rewind : ByteArray := prog_4_method_4_code
def yX2_rewind : MethodName := ⟨RX2, "rewind", "()V"⟩
abbrev cX2_readNext : ByteArray := prog_4_method_5_code
def yX2_readNext : MethodName := ⟨RX2, "readNext", "()Z"⟩
abbrev cX2_readArrival : ByteArray := prog_4_method_6_code
def yX2_readArrival : MethodName := ⟨RX2, "readArrival", "()Z"⟩
abbrev cX2_readBehind : ByteArray := prog_4_method_7_code
def yX2_readBehind : MethodName := ⟨RX2, "readBehind", "(CII)I"⟩
abbrev cX2_readNumber : ByteArray := prog_4_method_8_code
def yX2_readNumber : MethodName := ⟨RX2, "readNumber", "(I)I"⟩
abbrev cX2_copyFrom : ByteArray := prog_4_method_9_code
def yX2_copyFrom : MethodName := ⟨RX2, "copyFrom", "(LFairLink$Pad;)V"⟩
def RX3 : String := "FairLink$Piece"
def TX3 : u_T := fun k => match k with
  | 0 => ("FairLink$Piece", "packet", "I", false)
  | 1 => ("FairLink$Piece", "flow", "I", false)
  | 2 => ("FairLink$Piece", "length", "I", false)
  | 3 => ("FairLink$Piece", "header", "I", false)
  | 4 => ("FairLink$Piece", "left", "I", false)
  | 5 => ("FairLink$Piece", "sentAt", "I", false)
  | _ => ("FairLink$Piece", "promoted", "Z", false)
def tyX3 : Nat → FieldType := fun k => match k with
  | 0 => .int
  | 1 => .int
  | 2 => .int
  | 3 => .int
  | 4 => .int
  | 5 => .int
  | _ => .boolean
theorem nmX3 : ∀ a, a < 7 → ∀ b, b < 7 → a ≠ b → (TX3 a).2.1 ≠ (TX3 b).2.1 := by decide +kernel
theorem tyX3_ok : ∀ k, k < 7 → parseFieldDescriptor (TX3 k).2.2.1 = some (tyX3 k) := by decide +kernel
abbrev cX3_init : ByteArray := prog_5_method_1_code
def yX3_init : MethodName := ⟨RX3, "<init>", "()V"⟩
abbrev cX3_clear : ByteArray := prog_5_method_2_code
def yX3_clear : MethodName := ⟨RX3, "clear", "()V"⟩
abbrev cX3_copyFrom : ByteArray := prog_5_method_3_code
def yX3_copyFrom : MethodName := ⟨RX3, "copyFrom", "(LFairLink$Piece;)V"⟩
def RX4 : String := "FairLink$State"
def TX4 : u_T := fun k => match k with
  | 0 => ("FairLink$State", "settings", "[I", true)
  | 1 => ("FairLink$State", "flows", "[LFairLink$Flow;", true)
  | 2 => ("FairLink$State", "packets", "[LFairLink$Packet;", true)
  | 3 => ("FairLink$State", "pieces", "[LFairLink$Piece;", true)
  | 4 => ("FairLink$State", "current", "LFairLink$Piece;", true)
  | 5 => ("FairLink$State", "pad", "LFairLink$Pad;", true)
  | 6 => ("FairLink$State", "time", "I", false)
  | 7 => ("FairLink$State", "flowCount", "I", false)
  | 8 => ("FairLink$State", "packetCount", "I", false)
  | 9 => ("FairLink$State", "pieceCount", "I", false)
  | 10 => ("FairLink$State", "busyTicks", "I", false)
  | 11 => ("FairLink$State", "headerTicks", "I", false)
  | 12 => ("FairLink$State", "joiningPackets", "I", false)
  | 13 => ("FairLink$State", "lowestDelivered", "I", false)
  | _ => ("FairLink$State", "virtual", "J", false)
def tyX4 : Nat → FieldType := fun k => match k with
  | 0 => .array .int
  | 1 => .array (.object "FairLink$Flow")
  | 2 => .array (.object "FairLink$Packet")
  | 3 => .array (.object "FairLink$Piece")
  | 4 => .object "FairLink$Piece"
  | 5 => .object "FairLink$Pad"
  | 6 => .int
  | 7 => .int
  | 8 => .int
  | 9 => .int
  | 10 => .int
  | 11 => .int
  | 12 => .int
  | 13 => .int
  | _ => .long
theorem nmX4 : ∀ a, a < 15 → ∀ b, b < 15 → a ≠ b → (TX4 a).2.1 ≠ (TX4 b).2.1 := by decide +kernel
theorem tyX4_ok : ∀ k, k < 15 → parseFieldDescriptor (TX4 k).2.2.1 = some (tyX4 k) := by decide +kernel
abbrev cX4_init : ByteArray := prog_6_method_1_code
def yX4_init : MethodName := ⟨RX4, "<init>", "()V"⟩
abbrev cX4_hasFlow : ByteArray := prog_6_method_2_code
def yX4_hasFlow : MethodName := ⟨RX4, "hasFlow", "(I)Z"⟩
abbrev cX4_oldestPacket : ByteArray := prog_6_method_3_code
def yX4_oldestPacket : MethodName := ⟨RX4, "oldestPacket", "()I"⟩
abbrev cX4_knowsPacket : ByteArray := prog_6_method_4_code
def yX4_knowsPacket : MethodName := ⟨RX4, "knowsPacket", "(I)Z"⟩
abbrev cX4_packetAt : ByteArray := prog_6_method_5_code
def yX4_packetAt : MethodName := ⟨RX4, "packetAt", "(I)LFairLink$Packet;"⟩
abbrev cX4_oldestPiece : ByteArray := prog_6_method_6_code
def yX4_oldestPiece : MethodName := ⟨RX4, "oldestPiece", "()I"⟩
abbrev cX4_knowsPiece : ByteArray := prog_6_method_7_code
def yX4_knowsPiece : MethodName := ⟨RX4, "knowsPiece", "(I)Z"⟩
abbrev cX4_pieceAt : ByteArray := prog_6_method_8_code
def yX4_pieceAt : MethodName := ⟨RX4, "pieceAt", "(I)LFairLink$Piece;"⟩
abbrev cX4_areQueuesEmpty : ByteArray := prog_6_method_9_code
def yX4_areQueuesEmpty : MethodName := ⟨RX4, "areQueuesEmpty", "()Z"⟩
abbrev cX4_unsentLength : ByteArray := prog_6_method_10_code
def yX4_unsentLength : MethodName := ⟨RX4, "unsentLength", "(LFairLink$Flow;)I"⟩
abbrev cX4_tagOrFinish : ByteArray := prog_6_method_11_code
def yX4_tagOrFinish : MethodName := ⟨RX4, "tagOrFinish", "(LFairLink$Flow;)J"⟩
abbrev cX4_openFlow : ByteArray := prog_6_method_12_code
def yX4_openFlow : MethodName := ⟨RX4, "openFlow", "(I)I"⟩
abbrev cX4_canAccept : ByteArray := prog_6_method_13_code
def yX4_canAccept : MethodName := ⟨RX4, "canAccept", "(I)Z"⟩
abbrev cX4_accept : ByteArray := prog_6_method_14_code
def yX4_accept : MethodName := ⟨RX4, "accept", "(III)I"⟩
abbrev cX4_makeTick : ByteArray := prog_6_method_15_code
def yX4_makeTick : MethodName := ⟨RX4, "makeTick", "()V"⟩
abbrev cX4_makeDeliveryTick : ByteArray := prog_6_method_16_code
def yX4_makeDeliveryTick : MethodName := ⟨RX4, "makeDeliveryTick", "()V"⟩
abbrev cX4_ticksUntilDelivery : ByteArray := prog_6_method_17_code
def yX4_ticksUntilDelivery : MethodName := ⟨RX4, "ticksUntilDelivery", "(II)I"⟩
abbrev cX4_moveTime : ByteArray := prog_6_method_18_code
def yX4_moveTime : MethodName := ⟨RX4, "moveTime", "()V"⟩
abbrev cX4_finishPiece : ByteArray := prog_6_method_19_code
def yX4_finishPiece : MethodName := ⟨RX4, "finishPiece", "()V"⟩
abbrev cX4_recordPiece : ByteArray := prog_6_method_20_code
def yX4_recordPiece : MethodName := ⟨RX4, "recordPiece", "()V"⟩
abbrev cX4_deliver : ByteArray := prog_6_method_21_code
def yX4_deliver : MethodName := ⟨RX4, "deliver", "(I)V"⟩
abbrev cX4_deliverJoined : ByteArray := prog_6_method_22_code
def yX4_deliverJoined : MethodName := ⟨RX4, "deliverJoined", "()V"⟩
abbrev cX4_drainFluid : ByteArray := prog_6_method_23_code
def yX4_drainFluid : MethodName := ⟨RX4, "drainFluid", "()V"⟩
abbrev cX4_beginPieceIfFree : ByteArray := prog_6_method_24_code
def yX4_beginPieceIfFree : MethodName := ⟨RX4, "beginPieceIfFree", "()V"⟩
abbrev cX4_beginPiece : ByteArray := prog_6_method_25_code
def yX4_beginPiece : MethodName := ⟨RX4, "beginPiece", "(IZ)V"⟩
abbrev cX4_nextFlow : ByteArray := prog_6_method_26_code
def yX4_nextFlow : MethodName := ⟨RX4, "nextFlow", "()I"⟩
abbrev cX4_urgentFlow : ByteArray := prog_6_method_27_code
def yX4_urgentFlow : MethodName := ⟨RX4, "urgentFlow", "()I"⟩
abbrev cX4_leastTagFlow : ByteArray := prog_6_method_28_code
def yX4_leastTagFlow : MethodName := ⟨RX4, "leastTagFlow", "()I"⟩
abbrev cX4_isUrgent : ByteArray := prog_6_method_29_code
def yX4_isUrgent : MethodName := ⟨RX4, "isUrgent", "(LFairLink$Packet;)Z"⟩
abbrev cX4_ticksOfRest : ByteArray := prog_6_method_30_code
def yX4_ticksOfRest : MethodName := ⟨RX4, "ticksOfRest", "(LFairLink$Packet;)I"⟩
abbrev cX4_copyFrom : ByteArray := prog_6_method_31_code
def yX4_copyFrom : MethodName := ⟨RX4, "copyFrom", "(LFairLink$State;)V"⟩
def RX5 : String := "FairLink"
def TX5 : u_T := fun k => match k with
  | 0 => ("FairLink", "now", "LFairLink$State;", true)
  | 1 => ("FairLink", "slots", "[LFairLink$State;", true)
  | _ => ("FairLink", "copy", "LFairLink$State;", false)
def tyX5 : Nat → FieldType := fun k => match k with
  | 0 => .object "FairLink$State"
  | 1 => .array (.object "FairLink$State")
  | _ => .object "FairLink$State"
theorem nmX5 : ∀ a, a < 3 → ∀ b, b < 3 → a ≠ b → (TX5 a).2.1 ≠ (TX5 b).2.1 := by decide +kernel
theorem tyX5_ok : ∀ k, k < 3 → parseFieldDescriptor (TX5 k).2.2.1 = some (tyX5 k) := by decide +kernel
abbrev cX5_init : ByteArray := prog_1_method_1_code
def yX5_init : MethodName := ⟨RX5, "<init>", "()V"⟩
abbrev cX5_addFlow : ByteArray := prog_1_method_2_code
def yX5_addFlow : MethodName := ⟨RX5, "addFlow", "(I)I"⟩
abbrev cX5_set : ByteArray := prog_1_method_3_code
def yX5_set : MethodName := ⟨RX5, "set", "(III)I"⟩
abbrev cX5_rule : ByteArray := prog_1_method_4_code
def yX5_rule : MethodName := ⟨RX5, "rule", "(II)I"⟩
abbrev cX5_offer : ByteArray := prog_1_method_5_code
def yX5_offer : MethodName := ⟨RX5, "offer", "(III)I"⟩
abbrev cX5_cancel : ByteArray := prog_1_method_6_code
def yX5_cancel : MethodName := ⟨RX5, "cancel", "(I)I"⟩
abbrev cX5_packet : ByteArray := prog_1_method_7_code
def yX5_packet : MethodName := ⟨RX5, "packet", "(II)I"⟩
abbrev cX5_start : ByteArray := prog_1_method_8_code
def yX5_start : MethodName := ⟨RX5, "start", "(I)J"⟩
abbrev cX5_put : ByteArray := prog_1_method_9_code
def yX5_put : MethodName := ⟨RX5, "put", "(J)I"⟩
abbrev cX5_wipe : ByteArray := prog_1_method_10_code
def yX5_wipe : MethodName := ⟨RX5, "wipe", "()I"⟩
abbrev cX5_fault : ByteArray := prog_1_method_11_code
def yX5_fault : MethodName := ⟨RX5, "fault", "()I"⟩
abbrev cX5_load : ByteArray := prog_1_method_12_code
def yX5_load : MethodName := ⟨RX5, "load", "()I"⟩
abbrev cX5_advance : ByteArray := prog_1_method_13_code
def yX5_advance : MethodName := ⟨RX5, "advance", "(I)I"⟩
abbrev cX5_awaitDelivery : ByteArray := prog_1_method_14_code
def yX5_awaitDelivery : MethodName := ⟨RX5, "awaitDelivery", "(I)I"⟩
abbrev cX5_flow : ByteArray := prog_1_method_15_code
def yX5_flow : MethodName := ⟨RX5, "flow", "(II)I"⟩
abbrev cX5_amount : ByteArray := prog_1_method_16_code
def yX5_amount : MethodName := ⟨RX5, "amount", "(II)J"⟩
abbrev cX5_virtualTime : ByteArray := prog_1_method_17_code
def yX5_virtualTime : MethodName := ⟨RX5, "virtualTime", "()J"⟩
abbrev cX5_link : ByteArray := prog_1_method_18_code
def yX5_link : MethodName := ⟨RX5, "link", "(I)I"⟩
abbrev cX5_piece : ByteArray := prog_1_method_19_code
def yX5_piece : MethodName := ⟨RX5, "piece", "(II)I"⟩
abbrev cX5_apart : ByteArray := prog_1_method_20_code
def yX5_apart : MethodName := ⟨RX5, "apart", "(II)J"⟩
abbrev cX5_forecast : ByteArray := prog_1_method_21_code
def yX5_forecast : MethodName := ⟨RX5, "forecast", "(II)I"⟩
abbrev cX5_leastWeight : ByteArray := prog_1_method_22_code
def yX5_leastWeight : MethodName := ⟨RX5, "leastWeight", "(II)I"⟩
abbrev cX5_bestSplit : ByteArray := prog_1_method_23_code
def yX5_bestSplit : MethodName := ⟨RX5, "bestSplit", "(IIIII)I"⟩
abbrev cX5_save : ByteArray := prog_1_method_24_code
def yX5_save : MethodName := ⟨RX5, "save", "(I)I"⟩
abbrev cX5_restore : ByteArray := prog_1_method_25_code
def yX5_restore : MethodName := ⟨RX5, "restore", "(I)I"⟩
abbrev cX5_countCharacters : ByteArray := prog_1_method_26_code
def yX5_countCharacters : MethodName := ⟨RX5, "countCharacters", "(J)I"⟩
abbrev cX5_hasFlowsOfPad : ByteArray := prog_1_method_27_code
def yX5_hasFlowsOfPad : MethodName := ⟨RX5, "hasFlowsOfPad", "()Z"⟩
abbrev cX5_acceptArrivals : ByteArray := prog_1_method_28_code
def yX5_acceptArrivals : MethodName := ⟨RX5, "acceptArrivals", "()I"⟩
abbrev cX5_areSplits : ByteArray := prog_1_method_29_code
def yX5_areSplits : MethodName := ⟨RX5, "areSplits", "(III)Z"⟩
abbrev cX5_freshCopy : ByteArray := prog_1_method_30_code
def yX5_freshCopy : MethodName := ⟨RX5, "freshCopy", "()LFairLink$State;"⟩
abbrev cX5_greatestDelayWith : ByteArray := prog_1_method_31_code
def yX5_greatestDelayWith : MethodName := ⟨RX5, "greatestDelayWith", "(III)I"⟩
def RX6 : String := "FairLinkModel"
def TX6 : u_T := fun k => match k with
  | 0 => ("FairLinkModel", "at", "[J", true)
  | 1 => ("FairLinkModel", "aside", "[J", true)
  | 2 => ("FairLinkModel", "slots", "[J", true)
  | 3 => ("FairLinkModel", "isSaved", "[Z", true)
  | 4 => ("FairLinkModel", "place", "I", false)
  | 5 => ("FairLinkModel", "isWrong", "Z", false)
  | 6 => ("FairLinkModel", "read", "[I", true)
  | 7 => ("FairLinkModel", "readMany", "I", false)
  | 8 => ("FairLinkModel", "firstDone", "I", false)
  | 9 => ("FairLinkModel", "isNextUrgent", "Z", false)
  | _ => ("FairLinkModel", "wasQueued", "[Z", true)
def tyX6 : Nat → FieldType := fun k => match k with
  | 0 => .array .long
  | 1 => .array .long
  | 2 => .array .long
  | 3 => .array .boolean
  | 4 => .int
  | 5 => .boolean
  | 6 => .array .int
  | 7 => .int
  | 8 => .int
  | 9 => .boolean
  | _ => .array .boolean
theorem nmX6 : ∀ a, a < 11 → ∀ b, b < 11 → a ≠ b → (TX6 a).2.1 ≠ (TX6 b).2.1 := by decide +kernel
theorem tyX6_ok : ∀ k, k < 11 → parseFieldDescriptor (TX6 k).2.2.1 = some (tyX6 k) := by decide +kernel
abbrev cX6_init : ByteArray := prog_8_method_1_code
def yX6_init : MethodName := ⟨RX6, "<init>", "()V"⟩
abbrev cX6_in : ByteArray := prog_8_method_3_code
def yX6_in : MethodName := ⟨RX6, "in", "(JJJ)Z"⟩
abbrev cX6_isFlow : ByteArray := prog_8_method_4_code
def yX6_isFlow : MethodName := ⟨RX6, "isFlow", "(I)Z"⟩
abbrev cX6_flowAt : ByteArray := prog_8_method_5_code
def yX6_flowAt : MethodName := ⟨RX6, "flowAt", "(II)I"⟩
abbrev cX6_ofFlow : ByteArray := prog_8_method_6_code
def yX6_ofFlow : MethodName := ⟨RX6, "ofFlow", "(II)J"⟩
abbrev cX6_isKnown : ByteArray := prog_8_method_7_code
def yX6_isKnown : MethodName := ⟨RX6, "isKnown", "(I)Z"⟩
abbrev cX6_packetAt : ByteArray := prog_8_method_8_code
def yX6_packetAt : MethodName := ⟨RX6, "packetAt", "(II)I"⟩
abbrev cX6_of : ByteArray := prog_8_method_9_code
def yX6_of : MethodName := ⟨RX6, "of", "(II)J"⟩
abbrev cX6_oldest : ByteArray := prog_8_method_10_code
def yX6_oldest : MethodName := ⟨RX6, "oldest", "()I"⟩
abbrev cX6_isQueued : ByteArray := prog_8_method_11_code
def yX6_isQueued : MethodName := ⟨RX6, "isQueued", "(I)Z"⟩
abbrev cX6_headOf : ByteArray := prog_8_method_12_code
def yX6_headOf : MethodName := ⟨RX6, "headOf", "(I)I"⟩
abbrev cX6_addFlow : ByteArray := prog_8_method_13_code
def yX6_addFlow : MethodName := ⟨RX6, "addFlow", "(I)I"⟩
abbrev cX6_isSetting : ByteArray := prog_8_method_14_code
def yX6_isSetting : MethodName := ⟨RX6, "isSetting", "(II)Z"⟩
abbrev cX6_set : ByteArray := prog_8_method_15_code
def yX6_set : MethodName := ⟨RX6, "set", "(III)I"⟩
abbrev cX6_rule : ByteArray := prog_8_method_16_code
def yX6_rule : MethodName := ⟨RX6, "rule", "(II)I"⟩
abbrev cX6_hasRoom : ByteArray := prog_8_method_17_code
def yX6_hasRoom : MethodName := ⟨RX6, "hasRoom", "(I)Z"⟩
abbrev cX6_take : ByteArray := prog_8_method_18_code
def yX6_take : MethodName := ⟨RX6, "take", "(III)I"⟩
abbrev cX6_offer : ByteArray := prog_8_method_19_code
def yX6_offer : MethodName := ⟨RX6, "offer", "(III)I"⟩
abbrev cX6_cancel : ByteArray := prog_8_method_20_code
def yX6_cancel : MethodName := ⟨RX6, "cancel", "(I)I"⟩
abbrev cX6_restTicks : ByteArray := prog_8_method_21_code
def yX6_restTicks : MethodName := ⟨RX6, "restTicks", "(I)J"⟩
abbrev cX6_isUrgent : ByteArray := prog_8_method_22_code
def yX6_isUrgent : MethodName := ⟨RX6, "isUrgent", "(I)Z"⟩
abbrev cX6_packet : ByteArray := prog_8_method_23_code
def yX6_packet : MethodName := ⟨RX6, "packet", "(II)I"⟩
abbrev cX6_start : ByteArray := prog_8_method_24_code
def yX6_start : MethodName := ⟨RX6, "start", "(I)J"⟩
abbrev cX6_put : ByteArray := prog_8_method_25_code
def yX6_put : MethodName := ⟨RX6, "put", "(J)I"⟩
abbrev cX6_wipe : ByteArray := prog_8_method_26_code
def yX6_wipe : MethodName := ⟨RX6, "wipe", "()I"⟩
abbrev cX6_next : ByteArray := prog_8_method_27_code
def yX6_next : MethodName := ⟨RX6, "next", "()I"⟩
abbrev cX6_readNumber : ByteArray := prog_8_method_28_code
def yX6_readNumber : MethodName := ⟨RX6, "readNumber", "(I)I"⟩
abbrev cX6_readArrival : ByteArray := prog_8_method_29_code
def yX6_readArrival : MethodName := ⟨RX6, "readArrival", "()V"⟩
abbrev cX6_fault : ByteArray := prog_8_method_30_code
def yX6_fault : MethodName := ⟨RX6, "fault", "()I"⟩
abbrev cX6_load : ByteArray := prog_8_method_31_code
def yX6_load : MethodName := ⟨RX6, "load", "()I"⟩
abbrev cX6_deliver : ByteArray := prog_8_method_32_code
def yX6_deliver : MethodName := ⟨RX6, "deliver", "(I)V"⟩
abbrev cX6_notePiece : ByteArray := prog_8_method_33_code
def yX6_notePiece : MethodName := ⟨RX6, "notePiece", "(I)V"⟩
abbrev cX6_pieceDone : ByteArray := prog_8_method_34_code
def yX6_pieceDone : MethodName := ⟨RX6, "pieceDone", "()V"⟩
abbrev cX6_joinAll : ByteArray := prog_8_method_35_code
def yX6_joinAll : MethodName := ⟨RX6, "joinAll", "()V"⟩
abbrev cX6_idle : ByteArray := prog_8_method_36_code
def yX6_idle : MethodName := ⟨RX6, "idle", "(I)V"⟩
abbrev cX6_flowOn : ByteArray := prog_8_method_37_code
def yX6_flowOn : MethodName := ⟨RX6, "flowOn", "()V"⟩
abbrev cX6_tagOf : ByteArray := prog_8_method_38_code
def yX6_tagOf : MethodName := ⟨RX6, "tagOf", "(I)J"⟩
abbrev cX6_nextFlow : ByteArray := prog_8_method_39_code
def yX6_nextFlow : MethodName := ⟨RX6, "nextFlow", "()I"⟩
abbrev cX6_begin : ByteArray := prog_8_method_40_code
def yX6_begin : MethodName := ⟨RX6, "begin", "()V"⟩
abbrev cX6_lagOf : ByteArray := prog_8_method_41_code
def yX6_lagOf : MethodName := ⟨RX6, "lagOf", "(I)J"⟩
abbrev cX6_tick : ByteArray := prog_8_method_42_code
def yX6_tick : MethodName := ⟨RX6, "tick", "()V"⟩
abbrev cX6_advance : ByteArray := prog_8_method_43_code
def yX6_advance : MethodName := ⟨RX6, "advance", "(I)I"⟩
abbrev cX6_awaitDelivery : ByteArray := prog_8_method_44_code
def yX6_awaitDelivery : MethodName := ⟨RX6, "awaitDelivery", "(I)I"⟩
abbrev cX6_restOf : ByteArray := prog_8_method_45_code
def yX6_restOf : MethodName := ⟨RX6, "restOf", "(I)J"⟩
abbrev cX6_flow : ByteArray := prog_8_method_46_code
def yX6_flow : MethodName := ⟨RX6, "flow", "(II)I"⟩
abbrev cX6_amount : ByteArray := prog_8_method_47_code
def yX6_amount : MethodName := ⟨RX6, "amount", "(II)J"⟩
abbrev cX6_virtualTime : ByteArray := prog_8_method_48_code
def yX6_virtualTime : MethodName := ⟨RX6, "virtualTime", "()J"⟩
abbrev cX6_link : ByteArray := prog_8_method_49_code
def yX6_link : MethodName := ⟨RX6, "link", "(I)I"⟩
abbrev cX6_piece : ByteArray := prog_8_method_50_code
def yX6_piece : MethodName := ⟨RX6, "piece", "(II)I"⟩
abbrev cX6_apart : ByteArray := prog_8_method_51_code
def yX6_apart : MethodName := ⟨RX6, "apart", "(II)J"⟩
abbrev cX6_putAside : ByteArray := prog_8_method_52_code
def yX6_putAside : MethodName := ⟨RX6, "putAside", "()V"⟩
abbrev cX6_putBack : ByteArray := prog_8_method_53_code
def yX6_putBack : MethodName := ⟨RX6, "putBack", "()V"⟩
abbrev cX6_ticksTo : ByteArray := prog_8_method_54_code
def yX6_ticksTo : MethodName := ⟨RX6, "ticksTo", "(II)I"⟩
abbrev cX6_forecast : ByteArray := prog_8_method_55_code
def yX6_forecast : MethodName := ⟨RX6, "forecast", "(II)I"⟩
abbrev cX6_leastWeight : ByteArray := prog_8_method_56_code
def yX6_leastWeight : MethodName := ⟨RX6, "leastWeight", "(II)I"⟩
abbrev cX6_markQueued : ByteArray := prog_8_method_57_code
def yX6_markQueued : MethodName := ⟨RX6, "markQueued", "()I"⟩
abbrev cX6_worstOfMarked : ByteArray := prog_8_method_58_code
def yX6_worstOfMarked : MethodName := ⟨RX6, "worstOfMarked", "()J"⟩
abbrev cX6_bestSplit : ByteArray := prog_8_method_59_code
def yX6_bestSplit : MethodName := ⟨RX6, "bestSplit", "(IIIII)I"⟩
abbrev cX6_save : ByteArray := prog_8_method_60_code
def yX6_save : MethodName := ⟨RX6, "save", "(I)I"⟩
abbrev cX6_restore : ByteArray := prog_8_method_61_code
def yX6_restore : MethodName := ⟨RX6, "restore", "(I)I"⟩
def RJ9 : String := "java/lang/Math"
def TJ9 : u_T := fun k => match k with
  | _ => ("", "", "", false)
def tyJ9 : Nat → FieldType := fun k => match k with
  | _ => .int
theorem nmJ9 : ∀ a, a < 0 → ∀ b, b < 0 → a ≠ b → (TJ9 a).2.1 ≠ (TJ9 b).2.1 := by decide +kernel
theorem tyJ9_ok : ∀ k, k < 0 → parseFieldDescriptor (TJ9 k).2.2.1 = some (tyJ9 k) := by decide +kernel
abbrev cJ9_floorMod_7cf53 : ByteArray := prog_9_method_50_code
def yJ9_floorMod_7cf53 : MethodName := ⟨RJ9, "floorMod", "(II)I"⟩
abbrev cJ9_abs_067f4 : ByteArray := prog_9_method_61_code
def yJ9_abs_067f4 : MethodName := ⟨RJ9, "abs", "(J)J"⟩
abbrev cJ9_max_7cf53 : ByteArray := prog_9_method_65_code
def yJ9_max_7cf53 : MethodName := ⟨RJ9, "max", "(II)I"⟩
abbrev cJ9_max_f86c9 : ByteArray := prog_9_method_66_code
def yJ9_max_f86c9 : MethodName := ⟨RJ9, "max", "(JJ)J"⟩
abbrev cJ9_min_7cf53 : ByteArray := prog_9_method_69_code
def yJ9_min_7cf53 : MethodName := ⟨RJ9, "min", "(II)I"⟩
abbrev cJ9_min_f86c9 : ByteArray := prog_9_method_70_code
def yJ9_min_f86c9 : MethodName := ⟨RJ9, "min", "(JJ)J"⟩
def RJ10 : String := "java/lang/System"
def TJ10 : u_T := fun k => match k with
  | _ => ("", "", "", false)
def tyJ10 : Nat → FieldType := fun k => match k with
  | _ => .int
theorem nmJ10 : ∀ a, a < 0 → ∀ b, b < 0 → a ≠ b → (TJ10 a).2.1 ≠ (TJ10 b).2.1 := by decide +kernel
theorem tyJ10_ok : ∀ k, k < 0 → parseFieldDescriptor (TJ10 k).2.2.1 = some (tyJ10 k) := by decide +kernel
def RL : String := "FairLinkLaw"
abbrev cL_law : ByteArray := code
def yL_law : MethodName := ⟨RL, "law", "([I)Z"⟩
abbrev vwCl : List vw_C := [(RX0, TX0, 15), (RX1, TX1, 11), (RX2, TX2, 7), (RX3, TX3, 7), (RX4, TX4, 15), (RX5, TX5, 3), (RX6, TX6, 11)]
end
section
theorem dX0_init_0 : decode cX0_init 0 = .ok (.aload_n 0, 1) := by decide +kernel
theorem dX0_init_1 : decode cX0_init 1 = .ok (.invokespecial 3, 3) := by decide +kernel
theorem dX0_init_4 : decode cX0_init 4 = .ok (.aload_n 0, 1) := by decide +kernel
theorem dX0_init_5 : decode cX0_init 5 = .ok (.getstatic 9, 3) := by decide +kernel
theorem dX0_init_8 : decode cX0_init 8 = .ok (.arraylength, 1) := by decide +kernel
theorem dX0_init_9 : decode cX0_init 9 = .ok (.newarray .int, 2) := by decide +kernel
theorem dX0_init_11 : decode cX0_init 11 = .ok (.putfield 13, 3) := by decide +kernel
theorem dX0_init_14 : decode cX0_init 14 = .ok (.aload_n 0, 1) := by decide +kernel
theorem dX0_init_15 : decode cX0_init 15 = .ok (.bipush 20, 2) := by decide +kernel
theorem dX0_init_17 : decode cX0_init 17 = .ok (.newarray .int, 2) := by decide +kernel
theorem dX0_init_19 : decode cX0_init 19 = .ok (.putfield 18, 3) := by decide +kernel
theorem dX0_init_22 : decode cX0_init 22 = .ok (.aload_n 0, 1) := by decide +kernel
theorem dX0_init_23 : decode cX0_init 23 = .ok (.getstatic 9, 3) := by decide +kernel
theorem dX0_init_26 : decode cX0_init 26 = .ok (.iconst 0, 1) := by decide +kernel
theorem dX0_init_27 : decode cX0_init 27 = .ok (.iaload, 1) := by decide +kernel
theorem dX0_init_28 : decode cX0_init 28 = .ok (.invokevirtual 21, 3) := by decide +kernel
theorem dX0_init_31 : decode cX0_init 31 = .ok (.return_, 1) := by decide +kernel
theorem dX0_begin_0 : decode cX0_begin 0 = .ok (.getstatic 9, 3) := by decide +kernel
theorem dX0_begin_3 : decode cX0_begin 3 = .ok (.iconst 0, 1) := by decide +kernel
theorem dX0_begin_4 : decode cX0_begin 4 = .ok (.aload_n 0, 1) := by decide +kernel
theorem dX0_begin_5 : decode cX0_begin 5 = .ok (.getfield 13, 3) := by decide +kernel
theorem dX0_begin_8 : decode cX0_begin 8 = .ok (.iconst 0, 1) := by decide +kernel
theorem dX0_begin_9 : decode cX0_begin 9 = .ok (.aload_n 0, 1) := by decide +kernel
theorem dX0_begin_10 : decode cX0_begin 10 = .ok (.getfield 13, 3) := by decide +kernel
theorem dX0_begin_13 : decode cX0_begin 13 = .ok (.arraylength, 1) := by decide +kernel
theorem dX0_begin_14 : decode cX0_begin 14 = .ok (.invokestatic 25, 3) := by decide +kernel
theorem dX0_begin_17 : decode cX0_begin 17 = .ok (.aload_n 0, 1) := by decide +kernel
theorem dX0_begin_18 : decode cX0_begin 18 = .ok (.getfield 13, 3) := by decide +kernel
theorem dX0_begin_21 : decode cX0_begin 21 = .ok (.iconst 0, 1) := by decide +kernel
theorem dX0_begin_22 : decode cX0_begin 22 = .ok (.iload_n 1, 1) := by decide +kernel
theorem dX0_begin_23 : decode cX0_begin 23 = .ok (.iastore, 1) := by decide +kernel
theorem dX0_begin_24 : decode cX0_begin 24 = .ok (.aload_n 0, 1) := by decide +kernel
theorem dX0_begin_25 : decode cX0_begin 25 = .ok (.iconst 0, 1) := by decide +kernel
theorem dX0_begin_26 : decode cX0_begin 26 = .ok (.putfield 31, 3) := by decide +kernel
theorem dX0_begin_29 : decode cX0_begin 29 = .ok (.aload_n 0, 1) := by decide +kernel
theorem dX0_begin_30 : decode cX0_begin 30 = .ok (.iconst 0, 1) := by decide +kernel
theorem dX0_begin_31 : decode cX0_begin 31 = .ok (.putfield 35, 3) := by decide +kernel
theorem dX0_begin_34 : decode cX0_begin 34 = .ok (.aload_n 0, 1) := by decide +kernel
theorem dX0_begin_35 : decode cX0_begin 35 = .ok (.iconst 0, 1) := by decide +kernel
theorem dX0_begin_36 : decode cX0_begin 36 = .ok (.putfield 38, 3) := by decide +kernel
theorem dX0_begin_39 : decode cX0_begin 39 = .ok (.aload_n 0, 1) := by decide +kernel
theorem dX0_begin_40 : decode cX0_begin 40 = .ok (.iconst 0, 1) := by decide +kernel
theorem dX0_begin_41 : decode cX0_begin 41 = .ok (.putfield 41, 3) := by decide +kernel
theorem dX0_begin_44 : decode cX0_begin 44 = .ok (.aload_n 0, 1) := by decide +kernel
theorem dX0_begin_45 : decode cX0_begin 45 = .ok (.iconst 0, 1) := by decide +kernel
theorem dX0_begin_46 : decode cX0_begin 46 = .ok (.putfield 44, 3) := by decide +kernel
theorem dX0_begin_49 : decode cX0_begin 49 = .ok (.aload_n 0, 1) := by decide +kernel
theorem dX0_begin_50 : decode cX0_begin 50 = .ok (.iconst 0, 1) := by decide +kernel
theorem dX0_begin_51 : decode cX0_begin 51 = .ok (.putfield 47, 3) := by decide +kernel
theorem dX0_begin_54 : decode cX0_begin 54 = .ok (.aload_n 0, 1) := by decide +kernel
theorem dX0_begin_55 : decode cX0_begin 55 = .ok (.iconst 0, 1) := by decide +kernel
theorem dX0_begin_56 : decode cX0_begin 56 = .ok (.putfield 50, 3) := by decide +kernel
theorem dX0_begin_59 : decode cX0_begin 59 = .ok (.aload_n 0, 1) := by decide +kernel
theorem dX0_begin_60 : decode cX0_begin 60 = .ok (.iconst 0, 1) := by decide +kernel
theorem dX0_begin_61 : decode cX0_begin 61 = .ok (.putfield 53, 3) := by decide +kernel
theorem dX0_begin_64 : decode cX0_begin 64 = .ok (.aload_n 0, 1) := by decide +kernel
theorem dX0_begin_65 : decode cX0_begin 65 = .ok (.lconst 0, 1) := by decide +kernel
theorem dX0_begin_66 : decode cX0_begin 66 = .ok (.putfield 56, 3) := by decide +kernel
theorem dX0_begin_69 : decode cX0_begin 69 = .ok (.aload_n 0, 1) := by decide +kernel
theorem dX0_begin_70 : decode cX0_begin 70 = .ok (.lconst 0, 1) := by decide +kernel
theorem dX0_begin_71 : decode cX0_begin 71 = .ok (.putfield 60, 3) := by decide +kernel
theorem dX0_begin_74 : decode cX0_begin 74 = .ok (.aload_n 0, 1) := by decide +kernel
theorem dX0_begin_75 : decode cX0_begin 75 = .ok (.lconst 0, 1) := by decide +kernel
theorem dX0_begin_76 : decode cX0_begin 76 = .ok (.putfield 63, 3) := by decide +kernel
theorem dX0_begin_79 : decode cX0_begin 79 = .ok (.aload_n 0, 1) := by decide +kernel
theorem dX0_begin_80 : decode cX0_begin 80 = .ok (.lconst 0, 1) := by decide +kernel
theorem dX0_begin_81 : decode cX0_begin 81 = .ok (.putfield 66, 3) := by decide +kernel
theorem dX0_begin_84 : decode cX0_begin 84 = .ok (.aload_n 0, 1) := by decide +kernel
theorem dX0_begin_85 : decode cX0_begin 85 = .ok (.lconst 0, 1) := by decide +kernel
theorem dX0_begin_86 : decode cX0_begin 86 = .ok (.putfield 69, 3) := by decide +kernel
theorem dX0_begin_89 : decode cX0_begin 89 = .ok (.return_, 1) := by decide +kernel
theorem dX0_head_0 : decode cX0_head 0 = .ok (.aload_n 0, 1) := by decide +kernel
theorem dX0_head_1 : decode cX0_head 1 = .ok (.getfield 31, 3) := by decide +kernel
theorem dX0_head_4 : decode cX0_head 4 = .ok (.ifCond .ne 8, 3) := by decide +kernel
theorem dX0_head_7 : decode cX0_head 7 = .ok (.bipush (-6), 2) := by decide +kernel
theorem dX0_head_9 : decode cX0_head 9 = .ok (.goto 9, 3) := by decide +kernel
theorem dX0_head_12 : decode cX0_head 12 = .ok (.aload_n 0, 1) := by decide +kernel
theorem dX0_head_13 : decode cX0_head 13 = .ok (.getfield 18, 3) := by decide +kernel
theorem dX0_head_16 : decode cX0_head 16 = .ok (.iconst 0, 1) := by decide +kernel
theorem dX0_head_17 : decode cX0_head 17 = .ok (.iaload, 1) := by decide +kernel
theorem dX0_head_18 : decode cX0_head 18 = .ok (.ireturn, 1) := by decide +kernel
theorem dX0_joinQueue_0 : decode cX0_joinQueue 0 = .ok (.aload_n 0, 1) := by decide +kernel
theorem dX0_joinQueue_1 : decode cX0_joinQueue 1 = .ok (.getfield 31, 3) := by decide +kernel
theorem dX0_joinQueue_4 : decode cX0_joinQueue 4 = .ok (.aload_n 0, 1) := by decide +kernel
theorem dX0_joinQueue_5 : decode cX0_joinQueue 5 = .ok (.getfield 18, 3) := by decide +kernel
theorem dX0_joinQueue_8 : decode cX0_joinQueue 8 = .ok (.arraylength, 1) := by decide +kernel
theorem dX0_joinQueue_9 : decode cX0_joinQueue 9 = .ok (.if_icmp .ge 23, 3) := by decide +kernel
theorem dX0_joinQueue_12 : decode cX0_joinQueue 12 = .ok (.aload_n 0, 1) := by decide +kernel
theorem dX0_joinQueue_13 : decode cX0_joinQueue 13 = .ok (.getfield 18, 3) := by decide +kernel
theorem dX0_joinQueue_16 : decode cX0_joinQueue 16 = .ok (.aload_n 0, 1) := by decide +kernel
theorem dX0_joinQueue_17 : decode cX0_joinQueue 17 = .ok (.getfield 31, 3) := by decide +kernel
theorem dX0_joinQueue_20 : decode cX0_joinQueue 20 = .ok (.iload_n 1, 1) := by decide +kernel
theorem dX0_joinQueue_21 : decode cX0_joinQueue 21 = .ok (.iastore, 1) := by decide +kernel
theorem dX0_joinQueue_22 : decode cX0_joinQueue 22 = .ok (.aload_n 0, 1) := by decide +kernel
theorem dX0_joinQueue_23 : decode cX0_joinQueue 23 = .ok (.dup, 1) := by decide +kernel
theorem dX0_joinQueue_24 : decode cX0_joinQueue 24 = .ok (.getfield 31, 3) := by decide +kernel
theorem dX0_joinQueue_27 : decode cX0_joinQueue 27 = .ok (.iconst 1, 1) := by decide +kernel
theorem dX0_joinQueue_28 : decode cX0_joinQueue 28 = .ok (.iadd, 1) := by decide +kernel
theorem dX0_joinQueue_29 : decode cX0_joinQueue 29 = .ok (.putfield 31, 3) := by decide +kernel
theorem dX0_joinQueue_32 : decode cX0_joinQueue 32 = .ok (.return_, 1) := by decide +kernel
theorem dX0_leaveQueue_0 : decode cX0_leaveQueue 0 = .ok (.iconst 0, 1) := by decide +kernel
theorem dX0_leaveQueue_1 : decode cX0_leaveQueue 1 = .ok (.istore_n 2, 1) := by decide +kernel
theorem dX0_leaveQueue_2 : decode cX0_leaveQueue 2 = .ok (.iconst 0, 1) := by decide +kernel
theorem dX0_leaveQueue_3 : decode cX0_leaveQueue 3 = .ok (.istore_n 3, 1) := by decide +kernel
theorem dX0_leaveQueue_4 : decode cX0_leaveQueue 4 = .ok (.iload_n 3, 1) := by decide +kernel
theorem dX0_leaveQueue_5 : decode cX0_leaveQueue 5 = .ok (.aload_n 0, 1) := by decide +kernel
theorem dX0_leaveQueue_6 : decode cX0_leaveQueue 6 = .ok (.getfield 31, 3) := by decide +kernel
theorem dX0_leaveQueue_9 : decode cX0_leaveQueue 9 = .ok (.if_icmp .ge 34, 3) := by decide +kernel
theorem dX0_leaveQueue_12 : decode cX0_leaveQueue 12 = .ok (.aload_n 0, 1) := by decide +kernel
theorem dX0_leaveQueue_13 : decode cX0_leaveQueue 13 = .ok (.getfield 18, 3) := by decide +kernel
theorem dX0_leaveQueue_16 : decode cX0_leaveQueue 16 = .ok (.iload_n 3, 1) := by decide +kernel
theorem dX0_leaveQueue_17 : decode cX0_leaveQueue 17 = .ok (.iaload, 1) := by decide +kernel
theorem dX0_leaveQueue_18 : decode cX0_leaveQueue 18 = .ok (.iload_n 1, 1) := by decide +kernel
theorem dX0_leaveQueue_19 : decode cX0_leaveQueue 19 = .ok (.if_icmp .eq 18, 3) := by decide +kernel
theorem dX0_leaveQueue_22 : decode cX0_leaveQueue 22 = .ok (.aload_n 0, 1) := by decide +kernel
theorem dX0_leaveQueue_23 : decode cX0_leaveQueue 23 = .ok (.getfield 18, 3) := by decide +kernel
theorem dX0_leaveQueue_26 : decode cX0_leaveQueue 26 = .ok (.iload_n 2, 1) := by decide +kernel
theorem dX0_leaveQueue_27 : decode cX0_leaveQueue 27 = .ok (.aload_n 0, 1) := by decide +kernel
theorem dX0_leaveQueue_28 : decode cX0_leaveQueue 28 = .ok (.getfield 18, 3) := by decide +kernel
theorem dX0_leaveQueue_31 : decode cX0_leaveQueue 31 = .ok (.iload_n 3, 1) := by decide +kernel
theorem dX0_leaveQueue_32 : decode cX0_leaveQueue 32 = .ok (.iaload, 1) := by decide +kernel
theorem dX0_leaveQueue_33 : decode cX0_leaveQueue 33 = .ok (.iastore, 1) := by decide +kernel
theorem dX0_leaveQueue_34 : decode cX0_leaveQueue 34 = .ok (.iinc 2 1, 3) := by decide +kernel
theorem dX0_leaveQueue_37 : decode cX0_leaveQueue 37 = .ok (.iinc 3 1, 3) := by decide +kernel
theorem dX0_leaveQueue_40 : decode cX0_leaveQueue 40 = .ok (.goto (-36), 3) := by decide +kernel
theorem dX0_leaveQueue_43 : decode cX0_leaveQueue 43 = .ok (.aload_n 0, 1) := by decide +kernel
theorem dX0_leaveQueue_44 : decode cX0_leaveQueue 44 = .ok (.iload_n 2, 1) := by decide +kernel
theorem dX0_leaveQueue_45 : decode cX0_leaveQueue 45 = .ok (.putfield 31, 3) := by decide +kernel
theorem dX0_leaveQueue_48 : decode cX0_leaveQueue 48 = .ok (.return_, 1) := by decide +kernel
theorem dX0_share_0 : decode cX0_share 0 = .ok (.aload_n 0, 1) := by decide +kernel
theorem dX0_share_1 : decode cX0_share 1 = .ok (.getfield 13, 3) := by decide +kernel
theorem dX0_share_4 : decode cX0_share 4 = .ok (.iconst 0, 1) := by decide +kernel
theorem dX0_share_5 : decode cX0_share 5 = .ok (.iaload, 1) := by decide +kernel
theorem dX0_share_6 : decode cX0_share 6 = .ok (.istore_n 2, 1) := by decide +kernel
theorem dX0_share_7 : decode cX0_share 7 = .ok (.iload_n 2, 1) := by decide +kernel
theorem dX0_share_8 : decode cX0_share 8 = .ok (.iconst 1, 1) := by decide +kernel
theorem dX0_share_9 : decode cX0_share 9 = .ok (.if_icmp .ge 7, 3) := by decide +kernel
theorem dX0_share_12 : decode cX0_share 12 = .ok (.lconst 0, 1) := by decide +kernel
theorem dX0_share_13 : decode cX0_share 13 = .ok (.goto 12, 3) := by decide +kernel
theorem dX0_share_16 : decode cX0_share 16 = .ok (.iload_n 1, 1) := by decide +kernel
theorem dX0_share_17 : decode cX0_share 17 = .ok (.i2l, 1) := by decide +kernel
theorem dX0_share_18 : decode cX0_share 18 = .ok (.ldc2_w 72, 3) := by decide +kernel
theorem dX0_share_21 : decode cX0_share 21 = .ok (.lmul, 1) := by decide +kernel
theorem dX0_share_22 : decode cX0_share 22 = .ok (.iload_n 2, 1) := by decide +kernel
theorem dX0_share_23 : decode cX0_share 23 = .ok (.i2l, 1) := by decide +kernel
theorem dX0_share_24 : decode cX0_share 24 = .ok (.ldiv, 1) := by decide +kernel
theorem dX0_share_25 : decode cX0_share 25 = .ok (.lreturn, 1) := by decide +kernel
theorem dX0_lag_0 : decode cX0_lag 0 = .ok (.aload_n 0, 1) := by decide +kernel
theorem dX0_lag_1 : decode cX0_lag 1 = .ok (.getfield 66, 3) := by decide +kernel
theorem dX0_lag_4 : decode cX0_lag 4 = .ok (.ldc2_w 72, 3) := by decide +kernel
theorem dX0_lag_7 : decode cX0_lag 7 = .ok (.aload_n 0, 1) := by decide +kernel
theorem dX0_lag_8 : decode cX0_lag 8 = .ok (.getfield 35, 3) := by decide +kernel
theorem dX0_lag_11 : decode cX0_lag 11 = .ok (.i2l, 1) := by decide +kernel
theorem dX0_lag_12 : decode cX0_lag 12 = .ok (.lmul, 1) := by decide +kernel
theorem dX0_lag_13 : decode cX0_lag 13 = .ok (.lsub, 1) := by decide +kernel
theorem dX0_lag_14 : decode cX0_lag 14 = .ok (.lreturn, 1) := by decide +kernel
theorem dX0_noteDelivery_0 : decode cX0_noteDelivery 0 = .ok (.aload_n 0, 1) := by decide +kernel
theorem dX0_noteDelivery_1 : decode cX0_noteDelivery 1 = .ok (.dup, 1) := by decide +kernel
theorem dX0_noteDelivery_2 : decode cX0_noteDelivery 2 = .ok (.getfield 38, 3) := by decide +kernel
theorem dX0_noteDelivery_5 : decode cX0_noteDelivery 5 = .ok (.iconst 1, 1) := by decide +kernel
theorem dX0_noteDelivery_6 : decode cX0_noteDelivery 6 = .ok (.iadd, 1) := by decide +kernel
theorem dX0_noteDelivery_7 : decode cX0_noteDelivery 7 = .ok (.putfield 38, 3) := by decide +kernel
theorem dX0_noteDelivery_10 : decode cX0_noteDelivery 10 = .ok (.aload_n 0, 1) := by decide +kernel
theorem dX0_noteDelivery_11 : decode cX0_noteDelivery 11 = .ok (.dup, 1) := by decide +kernel
theorem dX0_noteDelivery_12 : decode cX0_noteDelivery 12 = .ok (.getfield 50, 3) := by decide +kernel
theorem dX0_noteDelivery_15 : decode cX0_noteDelivery 15 = .ok (.iload_n 1, 1) := by decide +kernel
theorem dX0_noteDelivery_16 : decode cX0_noteDelivery 16 = .ok (.iadd, 1) := by decide +kernel
theorem dX0_noteDelivery_17 : decode cX0_noteDelivery 17 = .ok (.putfield 50, 3) := by decide +kernel
theorem dX0_noteDelivery_20 : decode cX0_noteDelivery 20 = .ok (.aload_n 0, 1) := by decide +kernel
theorem dX0_noteDelivery_21 : decode cX0_noteDelivery 21 = .ok (.aload_n 0, 1) := by decide +kernel
theorem dX0_noteDelivery_22 : decode cX0_noteDelivery 22 = .ok (.getfield 47, 3) := by decide +kernel
theorem dX0_noteDelivery_25 : decode cX0_noteDelivery 25 = .ok (.iload_n 1, 1) := by decide +kernel
theorem dX0_noteDelivery_26 : decode cX0_noteDelivery 26 = .ok (.invokestatic 74, 3) := by decide +kernel
theorem dX0_noteDelivery_29 : decode cX0_noteDelivery 29 = .ok (.putfield 47, 3) := by decide +kernel
theorem dX0_noteDelivery_32 : decode cX0_noteDelivery 32 = .ok (.iload_n 2, 1) := by decide +kernel
theorem dX0_noteDelivery_33 : decode cX0_noteDelivery 33 = .ok (.ifCond .eq 13, 3) := by decide +kernel
theorem dX0_noteDelivery_36 : decode cX0_noteDelivery 36 = .ok (.aload_n 0, 1) := by decide +kernel
theorem dX0_noteDelivery_37 : decode cX0_noteDelivery 37 = .ok (.dup, 1) := by decide +kernel
theorem dX0_noteDelivery_38 : decode cX0_noteDelivery 38 = .ok (.getfield 41, 3) := by decide +kernel
theorem dX0_noteDelivery_41 : decode cX0_noteDelivery 41 = .ok (.iconst 1, 1) := by decide +kernel
theorem dX0_noteDelivery_42 : decode cX0_noteDelivery 42 = .ok (.iadd, 1) := by decide +kernel
theorem dX0_noteDelivery_43 : decode cX0_noteDelivery 43 = .ok (.putfield 41, 3) := by decide +kernel
theorem dX0_noteDelivery_46 : decode cX0_noteDelivery 46 = .ok (.return_, 1) := by decide +kernel
theorem dX0_makeIdleTick_0 : decode cX0_makeIdleTick 0 = .ok (.aload_n 0, 1) := by decide +kernel
theorem dX0_makeIdleTick_1 : decode cX0_makeIdleTick 1 = .ok (.aload_n 0, 1) := by decide +kernel
theorem dX0_makeIdleTick_2 : decode cX0_makeIdleTick 2 = .ok (.getfield 31, 3) := by decide +kernel
theorem dX0_makeIdleTick_5 : decode cX0_makeIdleTick 5 = .ok (.ifCond .ne 12, 3) := by decide +kernel
theorem dX0_makeIdleTick_8 : decode cX0_makeIdleTick 8 = .ok (.aload_n 0, 1) := by decide +kernel
theorem dX0_makeIdleTick_9 : decode cX0_makeIdleTick 9 = .ok (.getfield 44, 3) := by decide +kernel
theorem dX0_makeIdleTick_12 : decode cX0_makeIdleTick 12 = .ok (.iconst 1, 1) := by decide +kernel
theorem dX0_makeIdleTick_13 : decode cX0_makeIdleTick 13 = .ok (.iadd, 1) := by decide +kernel
theorem dX0_makeIdleTick_14 : decode cX0_makeIdleTick 14 = .ok (.goto 4, 3) := by decide +kernel
theorem dX0_makeIdleTick_17 : decode cX0_makeIdleTick 17 = .ok (.iconst 0, 1) := by decide +kernel
theorem dX0_makeIdleTick_18 : decode cX0_makeIdleTick 18 = .ok (.putfield 44, 3) := by decide +kernel
theorem dX0_makeIdleTick_21 : decode cX0_makeIdleTick 21 = .ok (.aload_n 0, 1) := by decide +kernel
theorem dX0_makeIdleTick_22 : decode cX0_makeIdleTick 22 = .ok (.getfield 13, 3) := by decide +kernel
theorem dX0_makeIdleTick_25 : decode cX0_makeIdleTick 25 = .ok (.iconst 3, 1) := by decide +kernel
theorem dX0_makeIdleTick_26 : decode cX0_makeIdleTick 26 = .ok (.iaload, 1) := by decide +kernel
theorem dX0_makeIdleTick_27 : decode cX0_makeIdleTick 27 = .ok (.istore_n 3, 1) := by decide +kernel
theorem dX0_makeIdleTick_28 : decode cX0_makeIdleTick 28 = .ok (.iload_n 3, 1) := by decide +kernel
theorem dX0_makeIdleTick_29 : decode cX0_makeIdleTick 29 = .ok (.ifCond .le 30, 3) := by decide +kernel
theorem dX0_makeIdleTick_32 : decode cX0_makeIdleTick 32 = .ok (.aload_n 0, 1) := by decide +kernel
theorem dX0_makeIdleTick_33 : decode cX0_makeIdleTick 33 = .ok (.getfield 13, 3) := by decide +kernel
theorem dX0_makeIdleTick_36 : decode cX0_makeIdleTick 36 = .ok (.iconst 4, 1) := by decide +kernel
theorem dX0_makeIdleTick_37 : decode cX0_makeIdleTick 37 = .ok (.iaload, 1) := by decide +kernel
theorem dX0_makeIdleTick_38 : decode cX0_makeIdleTick 38 = .ok (.ifCond .eq 21, 3) := by decide +kernel
theorem dX0_makeIdleTick_41 : decode cX0_makeIdleTick 41 = .ok (.aload_n 0, 1) := by decide +kernel
theorem dX0_makeIdleTick_42 : decode cX0_makeIdleTick 42 = .ok (.getfield 44, 3) := by decide +kernel
theorem dX0_makeIdleTick_45 : decode cX0_makeIdleTick 45 = .ok (.iload_n 3, 1) := by decide +kernel
theorem dX0_makeIdleTick_46 : decode cX0_makeIdleTick 46 = .ok (.if_icmp .lt 13, 3) := by decide +kernel
theorem dX0_makeIdleTick_49 : decode cX0_makeIdleTick 49 = .ok (.aload_n 0, 1) := by decide +kernel
theorem dX0_makeIdleTick_50 : decode cX0_makeIdleTick 50 = .ok (.iconst 0, 1) := by decide +kernel
theorem dX0_makeIdleTick_51 : decode cX0_makeIdleTick 51 = .ok (.putfield 44, 3) := by decide +kernel
theorem dX0_makeIdleTick_54 : decode cX0_makeIdleTick 54 = .ok (.aload_n 0, 1) := by decide +kernel
theorem dX0_makeIdleTick_55 : decode cX0_makeIdleTick 55 = .ok (.lload_n 1, 1) := by decide +kernel
theorem dX0_makeIdleTick_56 : decode cX0_makeIdleTick 56 = .ok (.invokevirtual 80, 3) := by decide +kernel
theorem dX0_makeIdleTick_59 : decode cX0_makeIdleTick 59 = .ok (.return_, 1) := by decide +kernel
theorem dX0_forgive_0 : decode cX0_forgive 0 = .ok (.aload_n 0, 1) := by decide +kernel
theorem dX0_forgive_1 : decode cX0_forgive 1 = .ok (.getfield 56, 3) := by decide +kernel
theorem dX0_forgive_4 : decode cX0_forgive 4 = .ok (.lload_n 1, 1) := by decide +kernel
theorem dX0_forgive_5 : decode cX0_forgive 5 = .ok (.lcmp, 1) := by decide +kernel
theorem dX0_forgive_6 : decode cX0_forgive 6 = .ok (.ifCond .le 50, 3) := by decide +kernel
theorem dX0_forgive_9 : decode cX0_forgive 9 = .ok (.aload_n 0, 1) := by decide +kernel
theorem dX0_forgive_10 : decode cX0_forgive 10 = .ok (.getfield 13, 3) := by decide +kernel
theorem dX0_forgive_13 : decode cX0_forgive 13 = .ok (.iconst 4, 1) := by decide +kernel
theorem dX0_forgive_14 : decode cX0_forgive 14 = .ok (.iaload, 1) := by decide +kernel
theorem dX0_forgive_15 : decode cX0_forgive 15 = .ok (.iconst 2, 1) := by decide +kernel
theorem dX0_forgive_16 : decode cX0_forgive 16 = .ok (.if_icmp .ne 7, 3) := by decide +kernel
theorem dX0_forgive_19 : decode cX0_forgive 19 = .ok (.lload_n 1, 1) := by decide +kernel
theorem dX0_forgive_20 : decode cX0_forgive 20 = .ok (.goto 15, 3) := by decide +kernel
theorem dX0_forgive_23 : decode cX0_forgive 23 = .ok (.lload_n 1, 1) := by decide +kernel
theorem dX0_forgive_24 : decode cX0_forgive 24 = .ok (.aload_n 0, 1) := by decide +kernel
theorem dX0_forgive_25 : decode cX0_forgive 25 = .ok (.getfield 56, 3) := by decide +kernel
theorem dX0_forgive_28 : decode cX0_forgive 28 = .ok (.lload_n 1, 1) := by decide +kernel
theorem dX0_forgive_29 : decode cX0_forgive 29 = .ok (.lsub, 1) := by decide +kernel
theorem dX0_forgive_30 : decode cX0_forgive 30 = .ok (.ldc2_w 84, 3) := by decide +kernel
theorem dX0_forgive_33 : decode cX0_forgive 33 = .ok (.ldiv, 1) := by decide +kernel
theorem dX0_forgive_34 : decode cX0_forgive 34 = .ok (.ladd, 1) := by decide +kernel
theorem dX0_forgive_35 : decode cX0_forgive 35 = .ok (.lstore_n 3, 1) := by decide +kernel
theorem dX0_forgive_36 : decode cX0_forgive 36 = .ok (.aload_n 0, 1) := by decide +kernel
theorem dX0_forgive_37 : decode cX0_forgive 37 = .ok (.dup, 1) := by decide +kernel
theorem dX0_forgive_38 : decode cX0_forgive 38 = .ok (.getfield 60, 3) := by decide +kernel
theorem dX0_forgive_41 : decode cX0_forgive 41 = .ok (.aload_n 0, 1) := by decide +kernel
theorem dX0_forgive_42 : decode cX0_forgive 42 = .ok (.getfield 56, 3) := by decide +kernel
theorem dX0_forgive_45 : decode cX0_forgive 45 = .ok (.lload_n 3, 1) := by decide +kernel
theorem dX0_forgive_46 : decode cX0_forgive 46 = .ok (.lsub, 1) := by decide +kernel
theorem dX0_forgive_47 : decode cX0_forgive 47 = .ok (.ladd, 1) := by decide +kernel
theorem dX0_forgive_48 : decode cX0_forgive 48 = .ok (.putfield 60, 3) := by decide +kernel
theorem dX0_forgive_51 : decode cX0_forgive 51 = .ok (.aload_n 0, 1) := by decide +kernel
theorem dX0_forgive_52 : decode cX0_forgive 52 = .ok (.lload_n 3, 1) := by decide +kernel
theorem dX0_forgive_53 : decode cX0_forgive 53 = .ok (.putfield 56, 3) := by decide +kernel
theorem dX0_forgive_56 : decode cX0_forgive 56 = .ok (.return_, 1) := by decide +kernel
theorem dX0_loseFluid_0 : decode cX0_loseFluid 0 = .ok (.iload_n 1, 1) := by decide +kernel
theorem dX0_loseFluid_1 : decode cX0_loseFluid 1 = .ok (.iconst 1, 1) := by decide +kernel
theorem dX0_loseFluid_2 : decode cX0_loseFluid 2 = .ok (.if_icmp .ge 7, 3) := by decide +kernel
theorem dX0_loseFluid_5 : decode cX0_loseFluid 5 = .ok (.lconst 0, 1) := by decide +kernel
theorem dX0_loseFluid_6 : decode cX0_loseFluid 6 = .ok (.goto 17, 3) := by decide +kernel
theorem dX0_loseFluid_9 : decode cX0_loseFluid 9 = .ok (.ldc2_w 72, 3) := by decide +kernel
theorem dX0_loseFluid_12 : decode cX0_loseFluid 12 = .ok (.aload_n 0, 1) := by decide +kernel
theorem dX0_loseFluid_13 : decode cX0_loseFluid 13 = .ok (.getfield 13, 3) := by decide +kernel
theorem dX0_loseFluid_16 : decode cX0_loseFluid 16 = .ok (.iconst 0, 1) := by decide +kernel
theorem dX0_loseFluid_17 : decode cX0_loseFluid 17 = .ok (.iaload, 1) := by decide +kernel
theorem dX0_loseFluid_18 : decode cX0_loseFluid 18 = .ok (.i2l, 1) := by decide +kernel
theorem dX0_loseFluid_19 : decode cX0_loseFluid 19 = .ok (.lmul, 1) := by decide +kernel
theorem dX0_loseFluid_20 : decode cX0_loseFluid 20 = .ok (.iload_n 1, 1) := by decide +kernel
theorem dX0_loseFluid_21 : decode cX0_loseFluid 21 = .ok (.i2l, 1) := by decide +kernel
theorem dX0_loseFluid_22 : decode cX0_loseFluid 22 = .ok (.ldiv, 1) := by decide +kernel
theorem dX0_loseFluid_23 : decode cX0_loseFluid 23 = .ok (.lstore_n 2, 1) := by decide +kernel
theorem dX0_loseFluid_24 : decode cX0_loseFluid 24 = .ok (.aload_n 0, 1) := by decide +kernel
theorem dX0_loseFluid_25 : decode cX0_loseFluid 25 = .ok (.getfield 63, 3) := by decide +kernel
theorem dX0_loseFluid_28 : decode cX0_loseFluid 28 = .ok (.lload_n 2, 1) := by decide +kernel
theorem dX0_loseFluid_29 : decode cX0_loseFluid 29 = .ok (.invokestatic 86, 3) := by decide +kernel
theorem dX0_loseFluid_32 : decode cX0_loseFluid 32 = .ok (.lstore 4, 2) := by decide +kernel
theorem dX0_loseFluid_34 : decode cX0_loseFluid 34 = .ok (.aload_n 0, 1) := by decide +kernel
theorem dX0_loseFluid_35 : decode cX0_loseFluid 35 = .ok (.dup, 1) := by decide +kernel
theorem dX0_loseFluid_36 : decode cX0_loseFluid 36 = .ok (.getfield 63, 3) := by decide +kernel
theorem dX0_loseFluid_39 : decode cX0_loseFluid 39 = .ok (.lload 4, 2) := by decide +kernel
theorem dX0_loseFluid_41 : decode cX0_loseFluid 41 = .ok (.lsub, 1) := by decide +kernel
theorem dX0_loseFluid_42 : decode cX0_loseFluid 42 = .ok (.putfield 63, 3) := by decide +kernel
theorem dX0_loseFluid_45 : decode cX0_loseFluid 45 = .ok (.aload_n 0, 1) := by decide +kernel
theorem dX0_loseFluid_46 : decode cX0_loseFluid 46 = .ok (.dup, 1) := by decide +kernel
theorem dX0_loseFluid_47 : decode cX0_loseFluid 47 = .ok (.getfield 66, 3) := by decide +kernel
theorem dX0_loseFluid_50 : decode cX0_loseFluid 50 = .ok (.lload 4, 2) := by decide +kernel
theorem dX0_loseFluid_52 : decode cX0_loseFluid 52 = .ok (.ladd, 1) := by decide +kernel
theorem dX0_loseFluid_53 : decode cX0_loseFluid 53 = .ok (.putfield 66, 3) := by decide +kernel
theorem dX0_loseFluid_56 : decode cX0_loseFluid 56 = .ok (.aload_n 0, 1) := by decide +kernel
theorem dX0_loseFluid_57 : decode cX0_loseFluid 57 = .ok (.aload_n 0, 1) := by decide +kernel
theorem dX0_loseFluid_58 : decode cX0_loseFluid 58 = .ok (.getfield 69, 3) := by decide +kernel
theorem dX0_loseFluid_61 : decode cX0_loseFluid 61 = .ok (.aload_n 0, 1) := by decide +kernel
theorem dX0_loseFluid_62 : decode cX0_loseFluid 62 = .ok (.invokevirtual 90, 3) := by decide +kernel
theorem dX0_loseFluid_65 : decode cX0_loseFluid 65 = .ok (.invokestatic 94, 3) := by decide +kernel
theorem dX0_loseFluid_68 : decode cX0_loseFluid 68 = .ok (.putfield 69, 3) := by decide +kernel
theorem dX0_loseFluid_71 : decode cX0_loseFluid 71 = .ok (.return_, 1) := by decide +kernel
theorem dX0_copyFrom_0 : decode cX0_copyFrom 0 = .ok (.aload_n 1, 1) := by decide +kernel
theorem dX0_copyFrom_1 : decode cX0_copyFrom 1 = .ok (.getfield 13, 3) := by decide +kernel
theorem dX0_copyFrom_4 : decode cX0_copyFrom 4 = .ok (.iconst 0, 1) := by decide +kernel
theorem dX0_copyFrom_5 : decode cX0_copyFrom 5 = .ok (.aload_n 0, 1) := by decide +kernel
theorem dX0_copyFrom_6 : decode cX0_copyFrom 6 = .ok (.getfield 13, 3) := by decide +kernel
theorem dX0_copyFrom_9 : decode cX0_copyFrom 9 = .ok (.iconst 0, 1) := by decide +kernel
theorem dX0_copyFrom_10 : decode cX0_copyFrom 10 = .ok (.aload_n 0, 1) := by decide +kernel
theorem dX0_copyFrom_11 : decode cX0_copyFrom 11 = .ok (.getfield 13, 3) := by decide +kernel
theorem dX0_copyFrom_14 : decode cX0_copyFrom 14 = .ok (.arraylength, 1) := by decide +kernel
theorem dX0_copyFrom_15 : decode cX0_copyFrom 15 = .ok (.invokestatic 25, 3) := by decide +kernel
theorem dX0_copyFrom_18 : decode cX0_copyFrom 18 = .ok (.aload_n 1, 1) := by decide +kernel
theorem dX0_copyFrom_19 : decode cX0_copyFrom 19 = .ok (.getfield 18, 3) := by decide +kernel
theorem dX0_copyFrom_22 : decode cX0_copyFrom 22 = .ok (.iconst 0, 1) := by decide +kernel
theorem dX0_copyFrom_23 : decode cX0_copyFrom 23 = .ok (.aload_n 0, 1) := by decide +kernel
theorem dX0_copyFrom_24 : decode cX0_copyFrom 24 = .ok (.getfield 18, 3) := by decide +kernel
theorem dX0_copyFrom_27 : decode cX0_copyFrom 27 = .ok (.iconst 0, 1) := by decide +kernel
theorem dX0_copyFrom_28 : decode cX0_copyFrom 28 = .ok (.aload_n 0, 1) := by decide +kernel
theorem dX0_copyFrom_29 : decode cX0_copyFrom 29 = .ok (.getfield 18, 3) := by decide +kernel
theorem dX0_copyFrom_32 : decode cX0_copyFrom 32 = .ok (.arraylength, 1) := by decide +kernel
theorem dX0_copyFrom_33 : decode cX0_copyFrom 33 = .ok (.invokestatic 25, 3) := by decide +kernel
theorem dX0_copyFrom_36 : decode cX0_copyFrom 36 = .ok (.aload_n 0, 1) := by decide +kernel
theorem dX0_copyFrom_37 : decode cX0_copyFrom 37 = .ok (.aload_n 1, 1) := by decide +kernel
theorem dX0_copyFrom_38 : decode cX0_copyFrom 38 = .ok (.getfield 31, 3) := by decide +kernel
theorem dX0_copyFrom_41 : decode cX0_copyFrom 41 = .ok (.putfield 31, 3) := by decide +kernel
theorem dX0_copyFrom_44 : decode cX0_copyFrom 44 = .ok (.aload_n 0, 1) := by decide +kernel
theorem dX0_copyFrom_45 : decode cX0_copyFrom 45 = .ok (.aload_n 1, 1) := by decide +kernel
theorem dX0_copyFrom_46 : decode cX0_copyFrom 46 = .ok (.getfield 35, 3) := by decide +kernel
theorem dX0_copyFrom_49 : decode cX0_copyFrom 49 = .ok (.putfield 35, 3) := by decide +kernel
theorem dX0_copyFrom_52 : decode cX0_copyFrom 52 = .ok (.aload_n 0, 1) := by decide +kernel
theorem dX0_copyFrom_53 : decode cX0_copyFrom 53 = .ok (.aload_n 1, 1) := by decide +kernel
theorem dX0_copyFrom_54 : decode cX0_copyFrom 54 = .ok (.getfield 38, 3) := by decide +kernel
theorem dX0_copyFrom_57 : decode cX0_copyFrom 57 = .ok (.putfield 38, 3) := by decide +kernel
theorem dX0_copyFrom_60 : decode cX0_copyFrom 60 = .ok (.aload_n 0, 1) := by decide +kernel
theorem dX0_copyFrom_61 : decode cX0_copyFrom 61 = .ok (.aload_n 1, 1) := by decide +kernel
theorem dX0_copyFrom_62 : decode cX0_copyFrom 62 = .ok (.getfield 41, 3) := by decide +kernel
theorem dX0_copyFrom_65 : decode cX0_copyFrom 65 = .ok (.putfield 41, 3) := by decide +kernel
theorem dX0_copyFrom_68 : decode cX0_copyFrom 68 = .ok (.aload_n 0, 1) := by decide +kernel
theorem dX0_copyFrom_69 : decode cX0_copyFrom 69 = .ok (.aload_n 1, 1) := by decide +kernel
theorem dX0_copyFrom_70 : decode cX0_copyFrom 70 = .ok (.getfield 44, 3) := by decide +kernel
theorem dX0_copyFrom_73 : decode cX0_copyFrom 73 = .ok (.putfield 44, 3) := by decide +kernel
theorem dX0_copyFrom_76 : decode cX0_copyFrom 76 = .ok (.aload_n 0, 1) := by decide +kernel
theorem dX0_copyFrom_77 : decode cX0_copyFrom 77 = .ok (.aload_n 1, 1) := by decide +kernel
theorem dX0_copyFrom_78 : decode cX0_copyFrom 78 = .ok (.getfield 47, 3) := by decide +kernel
theorem dX0_copyFrom_81 : decode cX0_copyFrom 81 = .ok (.putfield 47, 3) := by decide +kernel
theorem dX0_copyFrom_84 : decode cX0_copyFrom 84 = .ok (.aload_n 0, 1) := by decide +kernel
theorem dX0_copyFrom_85 : decode cX0_copyFrom 85 = .ok (.aload_n 1, 1) := by decide +kernel
theorem dX0_copyFrom_86 : decode cX0_copyFrom 86 = .ok (.getfield 50, 3) := by decide +kernel
theorem dX0_copyFrom_89 : decode cX0_copyFrom 89 = .ok (.putfield 50, 3) := by decide +kernel
theorem dX0_copyFrom_92 : decode cX0_copyFrom 92 = .ok (.aload_n 0, 1) := by decide +kernel
theorem dX0_copyFrom_93 : decode cX0_copyFrom 93 = .ok (.aload_n 1, 1) := by decide +kernel
theorem dX0_copyFrom_94 : decode cX0_copyFrom 94 = .ok (.getfield 53, 3) := by decide +kernel
theorem dX0_copyFrom_97 : decode cX0_copyFrom 97 = .ok (.putfield 53, 3) := by decide +kernel
theorem dX0_copyFrom_100 : decode cX0_copyFrom 100 = .ok (.aload_n 0, 1) := by decide +kernel
theorem dX0_copyFrom_101 : decode cX0_copyFrom 101 = .ok (.aload_n 1, 1) := by decide +kernel
theorem dX0_copyFrom_102 : decode cX0_copyFrom 102 = .ok (.getfield 56, 3) := by decide +kernel
theorem dX0_copyFrom_105 : decode cX0_copyFrom 105 = .ok (.putfield 56, 3) := by decide +kernel
theorem dX0_copyFrom_108 : decode cX0_copyFrom 108 = .ok (.aload_n 0, 1) := by decide +kernel
theorem dX0_copyFrom_109 : decode cX0_copyFrom 109 = .ok (.aload_n 1, 1) := by decide +kernel
theorem dX0_copyFrom_110 : decode cX0_copyFrom 110 = .ok (.getfield 60, 3) := by decide +kernel
theorem dX0_copyFrom_113 : decode cX0_copyFrom 113 = .ok (.putfield 60, 3) := by decide +kernel
theorem dX0_copyFrom_116 : decode cX0_copyFrom 116 = .ok (.aload_n 0, 1) := by decide +kernel
theorem dX0_copyFrom_117 : decode cX0_copyFrom 117 = .ok (.aload_n 1, 1) := by decide +kernel
theorem dX0_copyFrom_118 : decode cX0_copyFrom 118 = .ok (.getfield 63, 3) := by decide +kernel
theorem dX0_copyFrom_121 : decode cX0_copyFrom 121 = .ok (.putfield 63, 3) := by decide +kernel
theorem dX0_copyFrom_124 : decode cX0_copyFrom 124 = .ok (.aload_n 0, 1) := by decide +kernel
theorem dX0_copyFrom_125 : decode cX0_copyFrom 125 = .ok (.aload_n 1, 1) := by decide +kernel
theorem dX0_copyFrom_126 : decode cX0_copyFrom 126 = .ok (.getfield 66, 3) := by decide +kernel
theorem dX0_copyFrom_129 : decode cX0_copyFrom 129 = .ok (.putfield 66, 3) := by decide +kernel
theorem dX0_copyFrom_132 : decode cX0_copyFrom 132 = .ok (.aload_n 0, 1) := by decide +kernel
theorem dX0_copyFrom_133 : decode cX0_copyFrom 133 = .ok (.aload_n 1, 1) := by decide +kernel
theorem dX0_copyFrom_134 : decode cX0_copyFrom 134 = .ok (.getfield 69, 3) := by decide +kernel
theorem dX0_copyFrom_137 : decode cX0_copyFrom 137 = .ok (.putfield 69, 3) := by decide +kernel
theorem dX0_copyFrom_140 : decode cX0_copyFrom 140 = .ok (.return_, 1) := by decide +kernel
theorem dX1_init_0 : decode cX1_init 0 = .ok (.aload_n 0, 1) := by decide +kernel
theorem dX1_init_1 : decode cX1_init 1 = .ok (.invokespecial 3, 3) := by decide +kernel
theorem dX1_init_4 : decode cX1_init 4 = .ok (.return_, 1) := by decide +kernel
theorem dX1_begin_0 : decode cX1_begin 0 = .ok (.aload_n 0, 1) := by decide +kernel
theorem dX1_begin_1 : decode cX1_begin 1 = .ok (.iload_n 1, 1) := by decide +kernel
theorem dX1_begin_2 : decode cX1_begin 2 = .ok (.putfield 9, 3) := by decide +kernel
theorem dX1_begin_5 : decode cX1_begin 5 = .ok (.aload_n 0, 1) := by decide +kernel
theorem dX1_begin_6 : decode cX1_begin 6 = .ok (.iload_n 2, 1) := by decide +kernel
theorem dX1_begin_7 : decode cX1_begin 7 = .ok (.putfield 15, 3) := by decide +kernel
theorem dX1_begin_10 : decode cX1_begin 10 = .ok (.aload_n 0, 1) := by decide +kernel
theorem dX1_begin_11 : decode cX1_begin 11 = .ok (.iload_n 3, 1) := by decide +kernel
theorem dX1_begin_12 : decode cX1_begin 12 = .ok (.putfield 18, 3) := by decide +kernel
theorem dX1_begin_15 : decode cX1_begin 15 = .ok (.aload_n 0, 1) := by decide +kernel
theorem dX1_begin_16 : decode cX1_begin 16 = .ok (.iload 4, 2) := by decide +kernel
theorem dX1_begin_18 : decode cX1_begin 18 = .ok (.putfield 21, 3) := by decide +kernel
theorem dX1_begin_21 : decode cX1_begin 21 = .ok (.aload_n 0, 1) := by decide +kernel
theorem dX1_begin_22 : decode cX1_begin 22 = .ok (.iconst 0, 1) := by decide +kernel
theorem dX1_begin_23 : decode cX1_begin 23 = .ok (.putfield 24, 3) := by decide +kernel
theorem dX1_begin_26 : decode cX1_begin 26 = .ok (.aload_n 0, 1) := by decide +kernel
theorem dX1_begin_27 : decode cX1_begin 27 = .ok (.iconst 0, 1) := by decide +kernel
theorem dX1_begin_28 : decode cX1_begin 28 = .ok (.putfield 27, 3) := by decide +kernel
theorem dX1_begin_31 : decode cX1_begin 31 = .ok (.aload_n 0, 1) := by decide +kernel
theorem dX1_begin_32 : decode cX1_begin 32 = .ok (.iconst 0, 1) := by decide +kernel
theorem dX1_begin_33 : decode cX1_begin 33 = .ok (.putfield 30, 3) := by decide +kernel
theorem dX1_begin_36 : decode cX1_begin 36 = .ok (.aload_n 0, 1) := by decide +kernel
theorem dX1_begin_37 : decode cX1_begin 37 = .ok (.iconst 0, 1) := by decide +kernel
theorem dX1_begin_38 : decode cX1_begin 38 = .ok (.putfield 33, 3) := by decide +kernel
theorem dX1_begin_41 : decode cX1_begin 41 = .ok (.aload_n 0, 1) := by decide +kernel
theorem dX1_begin_42 : decode cX1_begin 42 = .ok (.bipush (-6), 2) := by decide +kernel
theorem dX1_begin_44 : decode cX1_begin 44 = .ok (.putfield 36, 3) := by decide +kernel
theorem dX1_begin_47 : decode cX1_begin 47 = .ok (.aload_n 0, 1) := by decide +kernel
theorem dX1_begin_48 : decode cX1_begin 48 = .ok (.bipush (-6), 2) := by decide +kernel
theorem dX1_begin_50 : decode cX1_begin 50 = .ok (.putfield 39, 3) := by decide +kernel
theorem dX1_begin_53 : decode cX1_begin 53 = .ok (.aload_n 0, 1) := by decide +kernel
theorem dX1_begin_54 : decode cX1_begin 54 = .ok (.lload 5, 2) := by decide +kernel
theorem dX1_begin_56 : decode cX1_begin 56 = .ok (.putfield 42, 3) := by decide +kernel
theorem dX1_begin_59 : decode cX1_begin 59 = .ok (.return_, 1) := by decide +kernel
theorem dX1_isQueued_0 : decode cX1_isQueued 0 = .ok (.aload_n 0, 1) := by decide +kernel
theorem dX1_isQueued_1 : decode cX1_isQueued 1 = .ok (.getfield 24, 3) := by decide +kernel
theorem dX1_isQueued_4 : decode cX1_isQueued 4 = .ok (.ifCond .eq 11, 3) := by decide +kernel
theorem dX1_isQueued_7 : decode cX1_isQueued 7 = .ok (.aload_n 0, 1) := by decide +kernel
theorem dX1_isQueued_8 : decode cX1_isQueued 8 = .ok (.getfield 24, 3) := by decide +kernel
theorem dX1_isQueued_11 : decode cX1_isQueued 11 = .ok (.iconst 1, 1) := by decide +kernel
theorem dX1_isQueued_12 : decode cX1_isQueued 12 = .ok (.if_icmp .ne 7, 3) := by decide +kernel
theorem dX1_isQueued_15 : decode cX1_isQueued 15 = .ok (.iconst 1, 1) := by decide +kernel
theorem dX1_isQueued_16 : decode cX1_isQueued 16 = .ok (.goto 4, 3) := by decide +kernel
theorem dX1_isQueued_19 : decode cX1_isQueued 19 = .ok (.iconst 0, 1) := by decide +kernel
theorem dX1_isQueued_20 : decode cX1_isQueued 20 = .ok (.ireturn, 1) := by decide +kernel
theorem dX1_unsent_0 : decode cX1_unsent 0 = .ok (.aload_n 0, 1) := by decide +kernel
theorem dX1_unsent_1 : decode cX1_unsent 1 = .ok (.getfield 15, 3) := by decide +kernel
theorem dX1_unsent_4 : decode cX1_unsent 4 = .ok (.aload_n 0, 1) := by decide +kernel
theorem dX1_unsent_5 : decode cX1_unsent 5 = .ok (.getfield 27, 3) := by decide +kernel
theorem dX1_unsent_8 : decode cX1_unsent 8 = .ok (.isub, 1) := by decide +kernel
theorem dX1_unsent_9 : decode cX1_unsent 9 = .ok (.ireturn, 1) := by decide +kernel
theorem dX1_delay_0 : decode cX1_delay 0 = .ok (.aload_n 0, 1) := by decide +kernel
theorem dX1_delay_1 : decode cX1_delay 1 = .ok (.getfield 39, 3) := by decide +kernel
theorem dX1_delay_4 : decode cX1_delay 4 = .ok (.aload_n 0, 1) := by decide +kernel
theorem dX1_delay_5 : decode cX1_delay 5 = .ok (.getfield 18, 3) := by decide +kernel
theorem dX1_delay_8 : decode cX1_delay 8 = .ok (.isub, 1) := by decide +kernel
theorem dX1_delay_9 : decode cX1_delay 9 = .ok (.ireturn, 1) := by decide +kernel
theorem dX1_isLate_0 : decode cX1_isLate 0 = .ok (.aload_n 0, 1) := by decide +kernel
theorem dX1_isLate_1 : decode cX1_isLate 1 = .ok (.getfield 21, 3) := by decide +kernel
theorem dX1_isLate_4 : decode cX1_isLate 4 = .ok (.bipush (-6), 2) := by decide +kernel
theorem dX1_isLate_6 : decode cX1_isLate 6 = .ok (.if_icmp .eq 18, 3) := by decide +kernel
theorem dX1_isLate_9 : decode cX1_isLate 9 = .ok (.aload_n 0, 1) := by decide +kernel
theorem dX1_isLate_10 : decode cX1_isLate 10 = .ok (.getfield 39, 3) := by decide +kernel
theorem dX1_isLate_13 : decode cX1_isLate 13 = .ok (.aload_n 0, 1) := by decide +kernel
theorem dX1_isLate_14 : decode cX1_isLate 14 = .ok (.getfield 21, 3) := by decide +kernel
theorem dX1_isLate_17 : decode cX1_isLate 17 = .ok (.if_icmp .le 7, 3) := by decide +kernel
theorem dX1_isLate_20 : decode cX1_isLate 20 = .ok (.iconst 1, 1) := by decide +kernel
theorem dX1_isLate_21 : decode cX1_isLate 21 = .ok (.goto 4, 3) := by decide +kernel
theorem dX1_isLate_24 : decode cX1_isLate 24 = .ok (.iconst 0, 1) := by decide +kernel
theorem dX1_isLate_25 : decode cX1_isLate 25 = .ok (.ireturn, 1) := by decide +kernel
theorem dX1_copyFrom_0 : decode cX1_copyFrom 0 = .ok (.aload_n 0, 1) := by decide +kernel
theorem dX1_copyFrom_1 : decode cX1_copyFrom 1 = .ok (.aload_n 1, 1) := by decide +kernel
theorem dX1_copyFrom_2 : decode cX1_copyFrom 2 = .ok (.getfield 9, 3) := by decide +kernel
theorem dX1_copyFrom_5 : decode cX1_copyFrom 5 = .ok (.putfield 9, 3) := by decide +kernel
theorem dX1_copyFrom_8 : decode cX1_copyFrom 8 = .ok (.aload_n 0, 1) := by decide +kernel
theorem dX1_copyFrom_9 : decode cX1_copyFrom 9 = .ok (.aload_n 1, 1) := by decide +kernel
theorem dX1_copyFrom_10 : decode cX1_copyFrom 10 = .ok (.getfield 15, 3) := by decide +kernel
theorem dX1_copyFrom_13 : decode cX1_copyFrom 13 = .ok (.putfield 15, 3) := by decide +kernel
theorem dX1_copyFrom_16 : decode cX1_copyFrom 16 = .ok (.aload_n 0, 1) := by decide +kernel
theorem dX1_copyFrom_17 : decode cX1_copyFrom 17 = .ok (.aload_n 1, 1) := by decide +kernel
theorem dX1_copyFrom_18 : decode cX1_copyFrom 18 = .ok (.getfield 18, 3) := by decide +kernel
theorem dX1_copyFrom_21 : decode cX1_copyFrom 21 = .ok (.putfield 18, 3) := by decide +kernel
theorem dX1_copyFrom_24 : decode cX1_copyFrom 24 = .ok (.aload_n 0, 1) := by decide +kernel
theorem dX1_copyFrom_25 : decode cX1_copyFrom 25 = .ok (.aload_n 1, 1) := by decide +kernel
theorem dX1_copyFrom_26 : decode cX1_copyFrom 26 = .ok (.getfield 21, 3) := by decide +kernel
theorem dX1_copyFrom_29 : decode cX1_copyFrom 29 = .ok (.putfield 21, 3) := by decide +kernel
theorem dX1_copyFrom_32 : decode cX1_copyFrom 32 = .ok (.aload_n 0, 1) := by decide +kernel
theorem dX1_copyFrom_33 : decode cX1_copyFrom 33 = .ok (.aload_n 1, 1) := by decide +kernel
theorem dX1_copyFrom_34 : decode cX1_copyFrom 34 = .ok (.getfield 24, 3) := by decide +kernel
theorem dX1_copyFrom_37 : decode cX1_copyFrom 37 = .ok (.putfield 24, 3) := by decide +kernel
theorem dX1_copyFrom_40 : decode cX1_copyFrom 40 = .ok (.aload_n 0, 1) := by decide +kernel
theorem dX1_copyFrom_41 : decode cX1_copyFrom 41 = .ok (.aload_n 1, 1) := by decide +kernel
theorem dX1_copyFrom_42 : decode cX1_copyFrom 42 = .ok (.getfield 27, 3) := by decide +kernel
theorem dX1_copyFrom_45 : decode cX1_copyFrom 45 = .ok (.putfield 27, 3) := by decide +kernel
theorem dX1_copyFrom_48 : decode cX1_copyFrom 48 = .ok (.aload_n 0, 1) := by decide +kernel
theorem dX1_copyFrom_49 : decode cX1_copyFrom 49 = .ok (.aload_n 1, 1) := by decide +kernel
theorem dX1_copyFrom_50 : decode cX1_copyFrom 50 = .ok (.getfield 30, 3) := by decide +kernel
theorem dX1_copyFrom_53 : decode cX1_copyFrom 53 = .ok (.putfield 30, 3) := by decide +kernel
theorem dX1_copyFrom_56 : decode cX1_copyFrom 56 = .ok (.aload_n 0, 1) := by decide +kernel
theorem dX1_copyFrom_57 : decode cX1_copyFrom 57 = .ok (.aload_n 1, 1) := by decide +kernel
theorem dX1_copyFrom_58 : decode cX1_copyFrom 58 = .ok (.getfield 33, 3) := by decide +kernel
theorem dX1_copyFrom_61 : decode cX1_copyFrom 61 = .ok (.putfield 33, 3) := by decide +kernel
theorem dX1_copyFrom_64 : decode cX1_copyFrom 64 = .ok (.aload_n 0, 1) := by decide +kernel
theorem dX1_copyFrom_65 : decode cX1_copyFrom 65 = .ok (.aload_n 1, 1) := by decide +kernel
theorem dX1_copyFrom_66 : decode cX1_copyFrom 66 = .ok (.getfield 36, 3) := by decide +kernel
theorem dX1_copyFrom_69 : decode cX1_copyFrom 69 = .ok (.putfield 36, 3) := by decide +kernel
theorem dX1_copyFrom_72 : decode cX1_copyFrom 72 = .ok (.aload_n 0, 1) := by decide +kernel
theorem dX1_copyFrom_73 : decode cX1_copyFrom 73 = .ok (.aload_n 1, 1) := by decide +kernel
theorem dX1_copyFrom_74 : decode cX1_copyFrom 74 = .ok (.getfield 39, 3) := by decide +kernel
theorem dX1_copyFrom_77 : decode cX1_copyFrom 77 = .ok (.putfield 39, 3) := by decide +kernel
theorem dX1_copyFrom_80 : decode cX1_copyFrom 80 = .ok (.aload_n 0, 1) := by decide +kernel
theorem dX1_copyFrom_81 : decode cX1_copyFrom 81 = .ok (.aload_n 1, 1) := by decide +kernel
theorem dX1_copyFrom_82 : decode cX1_copyFrom 82 = .ok (.getfield 42, 3) := by decide +kernel
theorem dX1_copyFrom_85 : decode cX1_copyFrom 85 = .ok (.putfield 42, 3) := by decide +kernel
theorem dX1_copyFrom_88 : decode cX1_copyFrom 88 = .ok (.return_, 1) := by decide +kernel
theorem dX2_init_0 : decode cX2_init 0 = .ok (.aload_n 0, 1) := by decide +kernel
theorem dX2_init_1 : decode cX2_init 1 = .ok (.invokespecial 3, 3) := by decide +kernel
theorem dX2_init_4 : decode cX2_init 4 = .ok (.aload_n 0, 1) := by decide +kernel
theorem dX2_init_5 : decode cX2_init 5 = .ok (.bipush 80, 2) := by decide +kernel
theorem dX2_init_7 : decode cX2_init 7 = .ok (.newarray .char, 2) := by decide +kernel
theorem dX2_init_9 : decode cX2_init 9 = .ok (.putfield 9, 3) := by decide +kernel
theorem dX2_init_12 : decode cX2_init 12 = .ok (.return_, 1) := by decide +kernel
theorem dX2_append_0 : decode cX2_append 0 = .ok (.iload_n 3, 1) := by decide +kernel
theorem dX2_append_1 : decode cX2_append 1 = .ok (.iconst 1, 1) := by decide +kernel
theorem dX2_append_2 : decode cX2_append 2 = .ok (.isub, 1) := by decide +kernel
theorem dX2_append_3 : decode cX2_append 3 = .ok (.istore 4, 2) := by decide +kernel
theorem dX2_append_5 : decode cX2_append 5 = .ok (.iload 4, 2) := by decide +kernel
theorem dX2_append_7 : decode cX2_append 7 = .ok (.ifCond .lt 53, 3) := by decide +kernel
theorem dX2_append_10 : decode cX2_append 10 = .ok (.aload_n 0, 1) := by decide +kernel
theorem dX2_append_11 : decode cX2_append 11 = .ok (.getfield 15, 3) := by decide +kernel
theorem dX2_append_14 : decode cX2_append 14 = .ok (.aload_n 0, 1) := by decide +kernel
theorem dX2_append_15 : decode cX2_append 15 = .ok (.getfield 9, 3) := by decide +kernel
theorem dX2_append_18 : decode cX2_append 18 = .ok (.arraylength, 1) := by decide +kernel
theorem dX2_append_19 : decode cX2_append 19 = .ok (.if_icmp .ge 35, 3) := by decide +kernel
theorem dX2_append_22 : decode cX2_append 22 = .ok (.aload_n 0, 1) := by decide +kernel
theorem dX2_append_23 : decode cX2_append 23 = .ok (.getfield 9, 3) := by decide +kernel
theorem dX2_append_26 : decode cX2_append 26 = .ok (.aload_n 0, 1) := by decide +kernel
theorem dX2_append_27 : decode cX2_append 27 = .ok (.getfield 15, 3) := by decide +kernel
theorem dX2_append_30 : decode cX2_append 30 = .ok (.lload_n 1, 1) := by decide +kernel
theorem dX2_append_31 : decode cX2_append 31 = .ok (.bipush 8, 2) := by decide +kernel
theorem dX2_append_33 : decode cX2_append 33 = .ok (.iload 4, 2) := by decide +kernel
theorem dX2_append_35 : decode cX2_append 35 = .ok (.imul, 1) := by decide +kernel
theorem dX2_append_36 : decode cX2_append 36 = .ok (.lushr, 1) := by decide +kernel
theorem dX2_append_37 : decode cX2_append 37 = .ok (.ldc2_w 19, 3) := by decide +kernel
theorem dX2_append_40 : decode cX2_append 40 = .ok (.land, 1) := by decide +kernel
theorem dX2_append_41 : decode cX2_append 41 = .ok (.l2i, 1) := by decide +kernel
theorem dX2_append_42 : decode cX2_append 42 = .ok (.i2c, 1) := by decide +kernel
theorem dX2_append_43 : decode cX2_append 43 = .ok (.castore, 1) := by decide +kernel
theorem dX2_append_44 : decode cX2_append 44 = .ok (.aload_n 0, 1) := by decide +kernel
theorem dX2_append_45 : decode cX2_append 45 = .ok (.dup, 1) := by decide +kernel
theorem dX2_append_46 : decode cX2_append 46 = .ok (.getfield 15, 3) := by decide +kernel
theorem dX2_append_49 : decode cX2_append 49 = .ok (.iconst 1, 1) := by decide +kernel
theorem dX2_append_50 : decode cX2_append 50 = .ok (.iadd, 1) := by decide +kernel
theorem dX2_append_51 : decode cX2_append 51 = .ok (.putfield 15, 3) := by decide +kernel
theorem dX2_append_54 : decode cX2_append 54 = .ok (.iinc 4 (-1), 3) := by decide +kernel
theorem dX2_append_57 : decode cX2_append 57 = .ok (.goto (-52), 3) := by decide +kernel
theorem dX2_append_60 : decode cX2_append 60 = .ok (.return_, 1) := by decide +kernel
theorem dX2_findFault_0 : decode cX2_findFault 0 = .ok (.aload_n 0, 1) := by decide +kernel
theorem dX2_findFault_1 : decode cX2_findFault 1 = .ok (.iconst 0, 1) := by decide +kernel
theorem dX2_findFault_2 : decode cX2_findFault 2 = .ok (.putfield 21, 3) := by decide +kernel
theorem dX2_findFault_5 : decode cX2_findFault 5 = .ok (.aload_n 0, 1) := by decide +kernel
theorem dX2_findFault_6 : decode cX2_findFault 6 = .ok (.getfield 21, 3) := by decide +kernel
theorem dX2_findFault_9 : decode cX2_findFault 9 = .ok (.aload_n 0, 1) := by decide +kernel
theorem dX2_findFault_10 : decode cX2_findFault 10 = .ok (.getfield 15, 3) := by decide +kernel
theorem dX2_findFault_13 : decode cX2_findFault 13 = .ok (.if_icmp .ge 61, 3) := by decide +kernel
theorem dX2_findFault_16 : decode cX2_findFault 16 = .ok (.aload_n 0, 1) := by decide +kernel
theorem dX2_findFault_17 : decode cX2_findFault 17 = .ok (.invokevirtual 24, 3) := by decide +kernel
theorem dX2_findFault_20 : decode cX2_findFault 20 = .ok (.ifCond .ne 8, 3) := by decide +kernel
theorem dX2_findFault_23 : decode cX2_findFault 23 = .ok (.aload_n 0, 1) := by decide +kernel
theorem dX2_findFault_24 : decode cX2_findFault 24 = .ok (.getfield 21, 3) := by decide +kernel
theorem dX2_findFault_27 : decode cX2_findFault 27 = .ok (.ireturn, 1) := by decide +kernel
theorem dX2_findFault_28 : decode cX2_findFault 28 = .ok (.aload_n 0, 1) := by decide +kernel
theorem dX2_findFault_29 : decode cX2_findFault 29 = .ok (.getfield 21, 3) := by decide +kernel
theorem dX2_findFault_32 : decode cX2_findFault 32 = .ok (.aload_n 0, 1) := by decide +kernel
theorem dX2_findFault_33 : decode cX2_findFault 33 = .ok (.getfield 15, 3) := by decide +kernel
theorem dX2_findFault_36 : decode cX2_findFault 36 = .ok (.if_icmp .ne 6, 3) := by decide +kernel
theorem dX2_findFault_39 : decode cX2_findFault 39 = .ok (.bipush (-6), 2) := by decide +kernel
theorem dX2_findFault_41 : decode cX2_findFault 41 = .ok (.ireturn, 1) := by decide +kernel
theorem dX2_findFault_42 : decode cX2_findFault 42 = .ok (.aload_n 0, 1) := by decide +kernel
theorem dX2_findFault_43 : decode cX2_findFault 43 = .ok (.getfield 9, 3) := by decide +kernel
theorem dX2_findFault_46 : decode cX2_findFault 46 = .ok (.aload_n 0, 1) := by decide +kernel
theorem dX2_findFault_47 : decode cX2_findFault 47 = .ok (.getfield 21, 3) := by decide +kernel
theorem dX2_findFault_50 : decode cX2_findFault 50 = .ok (.caload, 1) := by decide +kernel
theorem dX2_findFault_51 : decode cX2_findFault 51 = .ok (.bipush 44, 2) := by decide +kernel
theorem dX2_findFault_53 : decode cX2_findFault 53 = .ok (.if_icmp .eq 8, 3) := by decide +kernel
theorem dX2_findFault_56 : decode cX2_findFault 56 = .ok (.aload_n 0, 1) := by decide +kernel
theorem dX2_findFault_57 : decode cX2_findFault 57 = .ok (.getfield 21, 3) := by decide +kernel
theorem dX2_findFault_60 : decode cX2_findFault 60 = .ok (.ireturn, 1) := by decide +kernel
theorem dX2_findFault_61 : decode cX2_findFault 61 = .ok (.aload_n 0, 1) := by decide +kernel
theorem dX2_findFault_62 : decode cX2_findFault 62 = .ok (.dup, 1) := by decide +kernel
theorem dX2_findFault_63 : decode cX2_findFault 63 = .ok (.getfield 21, 3) := by decide +kernel
theorem dX2_findFault_66 : decode cX2_findFault 66 = .ok (.iconst 1, 1) := by decide +kernel
theorem dX2_findFault_67 : decode cX2_findFault 67 = .ok (.iadd, 1) := by decide +kernel
theorem dX2_findFault_68 : decode cX2_findFault 68 = .ok (.putfield 21, 3) := by decide +kernel
theorem dX2_findFault_71 : decode cX2_findFault 71 = .ok (.goto (-66), 3) := by decide +kernel
theorem dX2_findFault_74 : decode cX2_findFault 74 = .ok (.aload_n 0, 1) := by decide +kernel
theorem dX2_findFault_75 : decode cX2_findFault 75 = .ok (.getfield 15, 3) := by decide +kernel
theorem dX2_findFault_78 : decode cX2_findFault 78 = .ok (.ireturn, 1) := by decide +kernel
theorem dX2_rewind_0 : decode cX2_rewind 0 = .ok (.aload_n 0, 1) := by decide +kernel
theorem dX2_rewind_1 : decode cX2_rewind 1 = .ok (.iconst 0, 1) := by decide +kernel
theorem dX2_rewind_2 : decode cX2_rewind 2 = .ok (.putfield 21, 3) := by decide +kernel
theorem dX2_rewind_5 : decode cX2_rewind 5 = .ok (.return_, 1) := by decide +kernel
theorem dX2_readNext_0 : decode cX2_readNext 0 = .ok (.aload_n 0, 1) := by decide +kernel
theorem dX2_readNext_1 : decode cX2_readNext 1 = .ok (.getfield 21, 3) := by decide +kernel
theorem dX2_readNext_4 : decode cX2_readNext 4 = .ok (.aload_n 0, 1) := by decide +kernel
theorem dX2_readNext_5 : decode cX2_readNext 5 = .ok (.getfield 15, 3) := by decide +kernel
theorem dX2_readNext_8 : decode cX2_readNext 8 = .ok (.if_icmp .lt 5, 3) := by decide +kernel
theorem dX2_readNext_11 : decode cX2_readNext 11 = .ok (.iconst 0, 1) := by decide +kernel
theorem dX2_readNext_12 : decode cX2_readNext 12 = .ok (.ireturn, 1) := by decide +kernel
theorem dX2_readNext_13 : decode cX2_readNext 13 = .ok (.aload_n 0, 1) := by decide +kernel
theorem dX2_readNext_14 : decode cX2_readNext 14 = .ok (.invokevirtual 24, 3) := by decide +kernel
theorem dX2_readNext_17 : decode cX2_readNext 17 = .ok (.istore_n 1, 1) := by decide +kernel
theorem dX2_readNext_18 : decode cX2_readNext 18 = .ok (.aload_n 0, 1) := by decide +kernel
theorem dX2_readNext_19 : decode cX2_readNext 19 = .ok (.dup, 1) := by decide +kernel
theorem dX2_readNext_20 : decode cX2_readNext 20 = .ok (.getfield 21, 3) := by decide +kernel
theorem dX2_readNext_23 : decode cX2_readNext 23 = .ok (.iconst 1, 1) := by decide +kernel
theorem dX2_readNext_24 : decode cX2_readNext 24 = .ok (.iadd, 1) := by decide +kernel
theorem dX2_readNext_25 : decode cX2_readNext 25 = .ok (.putfield 21, 3) := by decide +kernel
theorem dX2_readNext_28 : decode cX2_readNext 28 = .ok (.iload_n 1, 1) := by decide +kernel
theorem dX2_readNext_29 : decode cX2_readNext 29 = .ok (.ireturn, 1) := by decide +kernel
theorem dX2_readArrival_0 : decode cX2_readArrival 0 = .ok (.aload_n 0, 1) := by decide +kernel
theorem dX2_readArrival_1 : decode cX2_readArrival 1 = .ok (.aload_n 0, 1) := by decide +kernel
theorem dX2_readArrival_2 : decode cX2_readArrival 2 = .ok (.getfield 21, 3) := by decide +kernel
theorem dX2_readArrival_5 : decode cX2_readArrival 5 = .ok (.aload_n 0, 1) := by decide +kernel
theorem dX2_readArrival_6 : decode cX2_readArrival 6 = .ok (.getfield 15, 3) := by decide +kernel
theorem dX2_readArrival_9 : decode cX2_readArrival 9 = .ok (.if_icmp .ge 18, 3) := by decide +kernel
theorem dX2_readArrival_12 : decode cX2_readArrival 12 = .ok (.aload_n 0, 1) := by decide +kernel
theorem dX2_readArrival_13 : decode cX2_readArrival 13 = .ok (.getfield 9, 3) := by decide +kernel
theorem dX2_readArrival_16 : decode cX2_readArrival 16 = .ok (.aload_n 0, 1) := by decide +kernel
theorem dX2_readArrival_17 : decode cX2_readArrival 17 = .ok (.getfield 21, 3) := by decide +kernel
theorem dX2_readArrival_20 : decode cX2_readArrival 20 = .ok (.caload, 1) := by decide +kernel
theorem dX2_readArrival_21 : decode cX2_readArrival 21 = .ok (.bipush 97, 2) := by decide +kernel
theorem dX2_readArrival_23 : decode cX2_readArrival 23 = .ok (.isub, 1) := by decide +kernel
theorem dX2_readArrival_24 : decode cX2_readArrival 24 = .ok (.goto 5, 3) := by decide +kernel
theorem dX2_readArrival_27 : decode cX2_readArrival 27 = .ok (.bipush (-6), 2) := by decide +kernel
theorem dX2_readArrival_29 : decode cX2_readArrival 29 = .ok (.putfield 28, 3) := by decide +kernel
theorem dX2_readArrival_32 : decode cX2_readArrival 32 = .ok (.aload_n 0, 1) := by decide +kernel
theorem dX2_readArrival_33 : decode cX2_readArrival 33 = .ok (.getfield 28, 3) := by decide +kernel
theorem dX2_readArrival_36 : decode cX2_readArrival 36 = .ok (.ifCond .lt 12, 3) := by decide +kernel
theorem dX2_readArrival_39 : decode cX2_readArrival 39 = .ok (.aload_n 0, 1) := by decide +kernel
theorem dX2_readArrival_40 : decode cX2_readArrival 40 = .ok (.getfield 28, 3) := by decide +kernel
theorem dX2_readArrival_43 : decode cX2_readArrival 43 = .ok (.bipush 6, 2) := by decide +kernel
theorem dX2_readArrival_45 : decode cX2_readArrival 45 = .ok (.if_icmp .lt 5, 3) := by decide +kernel
theorem dX2_readArrival_48 : decode cX2_readArrival 48 = .ok (.iconst 0, 1) := by decide +kernel
theorem dX2_readArrival_49 : decode cX2_readArrival 49 = .ok (.ireturn, 1) := by decide +kernel
theorem dX2_readArrival_50 : decode cX2_readArrival 50 = .ok (.aload_n 0, 1) := by decide +kernel
theorem dX2_readArrival_51 : decode cX2_readArrival 51 = .ok (.dup, 1) := by decide +kernel
theorem dX2_readArrival_52 : decode cX2_readArrival 52 = .ok (.getfield 21, 3) := by decide +kernel
theorem dX2_readArrival_55 : decode cX2_readArrival 55 = .ok (.iconst 1, 1) := by decide +kernel
theorem dX2_readArrival_56 : decode cX2_readArrival 56 = .ok (.iadd, 1) := by decide +kernel
theorem dX2_readArrival_57 : decode cX2_readArrival 57 = .ok (.putfield 21, 3) := by decide +kernel
theorem dX2_readArrival_60 : decode cX2_readArrival 60 = .ok (.aload_n 0, 1) := by decide +kernel
theorem dX2_readArrival_61 : decode cX2_readArrival 61 = .ok (.aload_n 0, 1) := by decide +kernel
theorem dX2_readArrival_62 : decode cX2_readArrival 62 = .ok (.sipush 2000, 3) := by decide +kernel
theorem dX2_readArrival_65 : decode cX2_readArrival 65 = .ok (.invokevirtual 31, 3) := by decide +kernel
theorem dX2_readArrival_68 : decode cX2_readArrival 68 = .ok (.putfield 35, 3) := by decide +kernel
theorem dX2_readArrival_71 : decode cX2_readArrival 71 = .ok (.aload_n 0, 1) := by decide +kernel
theorem dX2_readArrival_72 : decode cX2_readArrival 72 = .ok (.getfield 35, 3) := by decide +kernel
theorem dX2_readArrival_75 : decode cX2_readArrival 75 = .ok (.ifCond .ne 5, 3) := by decide +kernel
theorem dX2_readArrival_78 : decode cX2_readArrival 78 = .ok (.iconst 0, 1) := by decide +kernel
theorem dX2_readArrival_79 : decode cX2_readArrival 79 = .ok (.ireturn, 1) := by decide +kernel
theorem dX2_readArrival_80 : decode cX2_readArrival 80 = .ok (.aload_n 0, 1) := by decide +kernel
theorem dX2_readArrival_81 : decode cX2_readArrival 81 = .ok (.aload_n 0, 1) := by decide +kernel
theorem dX2_readArrival_82 : decode cX2_readArrival 82 = .ok (.bipush 64, 2) := by decide +kernel
theorem dX2_readArrival_84 : decode cX2_readArrival 84 = .ok (.sipush 9999, 3) := by decide +kernel
theorem dX2_readArrival_87 : decode cX2_readArrival 87 = .ok (.iconst 0, 1) := by decide +kernel
theorem dX2_readArrival_88 : decode cX2_readArrival 88 = .ok (.invokevirtual 38, 3) := by decide +kernel
theorem dX2_readArrival_91 : decode cX2_readArrival 91 = .ok (.putfield 42, 3) := by decide +kernel
theorem dX2_readArrival_94 : decode cX2_readArrival 94 = .ok (.aload_n 0, 1) := by decide +kernel
theorem dX2_readArrival_95 : decode cX2_readArrival 95 = .ok (.getfield 42, 3) := by decide +kernel
theorem dX2_readArrival_98 : decode cX2_readArrival 98 = .ok (.bipush (-6), 2) := by decide +kernel
theorem dX2_readArrival_100 : decode cX2_readArrival 100 = .ok (.if_icmp .ne 5, 3) := by decide +kernel
theorem dX2_readArrival_103 : decode cX2_readArrival 103 = .ok (.iconst 0, 1) := by decide +kernel
theorem dX2_readArrival_104 : decode cX2_readArrival 104 = .ok (.ireturn, 1) := by decide +kernel
theorem dX2_readArrival_105 : decode cX2_readArrival 105 = .ok (.aload_n 0, 1) := by decide +kernel
theorem dX2_readArrival_106 : decode cX2_readArrival 106 = .ok (.aload_n 0, 1) := by decide +kernel
theorem dX2_readArrival_107 : decode cX2_readArrival 107 = .ok (.bipush 42, 2) := by decide +kernel
theorem dX2_readArrival_109 : decode cX2_readArrival 109 = .ok (.bipush 9, 2) := by decide +kernel
theorem dX2_readArrival_111 : decode cX2_readArrival 111 = .ok (.iconst 1, 1) := by decide +kernel
theorem dX2_readArrival_112 : decode cX2_readArrival 112 = .ok (.invokevirtual 38, 3) := by decide +kernel
theorem dX2_readArrival_115 : decode cX2_readArrival 115 = .ok (.putfield 45, 3) := by decide +kernel
theorem dX2_readArrival_118 : decode cX2_readArrival 118 = .ok (.aload_n 0, 1) := by decide +kernel
theorem dX2_readArrival_119 : decode cX2_readArrival 119 = .ok (.getfield 45, 3) := by decide +kernel
theorem dX2_readArrival_122 : decode cX2_readArrival 122 = .ok (.bipush (-6), 2) := by decide +kernel
theorem dX2_readArrival_124 : decode cX2_readArrival 124 = .ok (.if_icmp .eq 7, 3) := by decide +kernel
theorem dX2_readArrival_127 : decode cX2_readArrival 127 = .ok (.iconst 1, 1) := by decide +kernel
theorem dX2_readArrival_128 : decode cX2_readArrival 128 = .ok (.goto 4, 3) := by decide +kernel
theorem dX2_readArrival_131 : decode cX2_readArrival 131 = .ok (.iconst 0, 1) := by decide +kernel
theorem dX2_readArrival_132 : decode cX2_readArrival 132 = .ok (.ireturn, 1) := by decide +kernel
theorem dX2_readBehind_0 : decode cX2_readBehind 0 = .ok (.aload_n 0, 1) := by decide +kernel
theorem dX2_readBehind_1 : decode cX2_readBehind 1 = .ok (.getfield 21, 3) := by decide +kernel
theorem dX2_readBehind_4 : decode cX2_readBehind 4 = .ok (.aload_n 0, 1) := by decide +kernel
theorem dX2_readBehind_5 : decode cX2_readBehind 5 = .ok (.getfield 15, 3) := by decide +kernel
theorem dX2_readBehind_8 : decode cX2_readBehind 8 = .ok (.if_icmp .ge 16, 3) := by decide +kernel
theorem dX2_readBehind_11 : decode cX2_readBehind 11 = .ok (.aload_n 0, 1) := by decide +kernel
theorem dX2_readBehind_12 : decode cX2_readBehind 12 = .ok (.getfield 9, 3) := by decide +kernel
theorem dX2_readBehind_15 : decode cX2_readBehind 15 = .ok (.aload_n 0, 1) := by decide +kernel
theorem dX2_readBehind_16 : decode cX2_readBehind 16 = .ok (.getfield 21, 3) := by decide +kernel
theorem dX2_readBehind_19 : decode cX2_readBehind 19 = .ok (.caload, 1) := by decide +kernel
theorem dX2_readBehind_20 : decode cX2_readBehind 20 = .ok (.iload_n 1, 1) := by decide +kernel
theorem dX2_readBehind_21 : decode cX2_readBehind 21 = .ok (.if_icmp .eq 5, 3) := by decide +kernel
theorem dX2_readBehind_24 : decode cX2_readBehind 24 = .ok (.iload_n 3, 1) := by decide +kernel
theorem dX2_readBehind_25 : decode cX2_readBehind 25 = .ok (.ireturn, 1) := by decide +kernel
theorem dX2_readBehind_26 : decode cX2_readBehind 26 = .ok (.aload_n 0, 1) := by decide +kernel
theorem dX2_readBehind_27 : decode cX2_readBehind 27 = .ok (.dup, 1) := by decide +kernel
theorem dX2_readBehind_28 : decode cX2_readBehind 28 = .ok (.getfield 21, 3) := by decide +kernel
theorem dX2_readBehind_31 : decode cX2_readBehind 31 = .ok (.iconst 1, 1) := by decide +kernel
theorem dX2_readBehind_32 : decode cX2_readBehind 32 = .ok (.iadd, 1) := by decide +kernel
theorem dX2_readBehind_33 : decode cX2_readBehind 33 = .ok (.putfield 21, 3) := by decide +kernel
theorem dX2_readBehind_36 : decode cX2_readBehind 36 = .ok (.aload_n 0, 1) := by decide +kernel
theorem dX2_readBehind_37 : decode cX2_readBehind 37 = .ok (.iload_n 2, 1) := by decide +kernel
theorem dX2_readBehind_38 : decode cX2_readBehind 38 = .ok (.invokevirtual 31, 3) := by decide +kernel
theorem dX2_readBehind_41 : decode cX2_readBehind 41 = .ok (.istore 4, 2) := by decide +kernel
theorem dX2_readBehind_43 : decode cX2_readBehind 43 = .ok (.iload 4, 2) := by decide +kernel
theorem dX2_readBehind_45 : decode cX2_readBehind 45 = .ok (.ifCond .ne 8, 3) := by decide +kernel
theorem dX2_readBehind_48 : decode cX2_readBehind 48 = .ok (.bipush (-6), 2) := by decide +kernel
theorem dX2_readBehind_50 : decode cX2_readBehind 50 = .ok (.goto 5, 3) := by decide +kernel
theorem dX2_readBehind_53 : decode cX2_readBehind 53 = .ok (.iload 4, 2) := by decide +kernel
theorem dX2_readBehind_55 : decode cX2_readBehind 55 = .ok (.ireturn, 1) := by decide +kernel
theorem dX2_readNumber_0 : decode cX2_readNumber 0 = .ok (.iconst 0, 1) := by decide +kernel
theorem dX2_readNumber_1 : decode cX2_readNumber 1 = .ok (.istore_n 2, 1) := by decide +kernel
theorem dX2_readNumber_2 : decode cX2_readNumber 2 = .ok (.aload_n 0, 1) := by decide +kernel
theorem dX2_readNumber_3 : decode cX2_readNumber 3 = .ok (.getfield 21, 3) := by decide +kernel
theorem dX2_readNumber_6 : decode cX2_readNumber 6 = .ok (.aload_n 0, 1) := by decide +kernel
theorem dX2_readNumber_7 : decode cX2_readNumber 7 = .ok (.getfield 15, 3) := by decide +kernel
theorem dX2_readNumber_10 : decode cX2_readNumber 10 = .ok (.if_icmp .ge 78, 3) := by decide +kernel
theorem dX2_readNumber_13 : decode cX2_readNumber 13 = .ok (.aload_n 0, 1) := by decide +kernel
theorem dX2_readNumber_14 : decode cX2_readNumber 14 = .ok (.getfield 9, 3) := by decide +kernel
theorem dX2_readNumber_17 : decode cX2_readNumber 17 = .ok (.aload_n 0, 1) := by decide +kernel
theorem dX2_readNumber_18 : decode cX2_readNumber 18 = .ok (.getfield 21, 3) := by decide +kernel
theorem dX2_readNumber_21 : decode cX2_readNumber 21 = .ok (.caload, 1) := by decide +kernel
theorem dX2_readNumber_22 : decode cX2_readNumber 22 = .ok (.bipush 48, 2) := by decide +kernel
theorem dX2_readNumber_24 : decode cX2_readNumber 24 = .ok (.isub, 1) := by decide +kernel
theorem dX2_readNumber_25 : decode cX2_readNumber 25 = .ok (.istore_n 3, 1) := by decide +kernel
theorem dX2_readNumber_26 : decode cX2_readNumber 26 = .ok (.iload_n 2, 1) := by decide +kernel
theorem dX2_readNumber_27 : decode cX2_readNumber 27 = .ok (.ifCond .ne 11, 3) := by decide +kernel
theorem dX2_readNumber_30 : decode cX2_readNumber 30 = .ok (.iload_n 3, 1) := by decide +kernel
theorem dX2_readNumber_31 : decode cX2_readNumber 31 = .ok (.ifCond .ne 7, 3) := by decide +kernel
theorem dX2_readNumber_34 : decode cX2_readNumber 34 = .ok (.iconst 1, 1) := by decide +kernel
theorem dX2_readNumber_35 : decode cX2_readNumber 35 = .ok (.goto 4, 3) := by decide +kernel
theorem dX2_readNumber_38 : decode cX2_readNumber 38 = .ok (.iconst 0, 1) := by decide +kernel
theorem dX2_readNumber_39 : decode cX2_readNumber 39 = .ok (.istore 4, 2) := by decide +kernel
theorem dX2_readNumber_41 : decode cX2_readNumber 41 = .ok (.iload_n 3, 1) := by decide +kernel
theorem dX2_readNumber_42 : decode cX2_readNumber 42 = .ok (.ifCond .lt 24, 3) := by decide +kernel
theorem dX2_readNumber_45 : decode cX2_readNumber 45 = .ok (.iload_n 3, 1) := by decide +kernel
theorem dX2_readNumber_46 : decode cX2_readNumber 46 = .ok (.bipush 9, 2) := by decide +kernel
theorem dX2_readNumber_48 : decode cX2_readNumber 48 = .ok (.if_icmp .gt 18, 3) := by decide +kernel
theorem dX2_readNumber_51 : decode cX2_readNumber 51 = .ok (.iload 4, 2) := by decide +kernel
theorem dX2_readNumber_53 : decode cX2_readNumber 53 = .ok (.ifCond .ne 13, 3) := by decide +kernel
theorem dX2_readNumber_56 : decode cX2_readNumber 56 = .ok (.iload_n 2, 1) := by decide +kernel
theorem dX2_readNumber_57 : decode cX2_readNumber 57 = .ok (.bipush 10, 2) := by decide +kernel
theorem dX2_readNumber_59 : decode cX2_readNumber 59 = .ok (.imul, 1) := by decide +kernel
theorem dX2_readNumber_60 : decode cX2_readNumber 60 = .ok (.iload_n 3, 1) := by decide +kernel
theorem dX2_readNumber_61 : decode cX2_readNumber 61 = .ok (.iadd, 1) := by decide +kernel
theorem dX2_readNumber_62 : decode cX2_readNumber 62 = .ok (.iload_n 1, 1) := by decide +kernel
theorem dX2_readNumber_63 : decode cX2_readNumber 63 = .ok (.if_icmp .le 5, 3) := by decide +kernel
theorem dX2_readNumber_66 : decode cX2_readNumber 66 = .ok (.iload_n 2, 1) := by decide +kernel
theorem dX2_readNumber_67 : decode cX2_readNumber 67 = .ok (.ireturn, 1) := by decide +kernel
theorem dX2_readNumber_68 : decode cX2_readNumber 68 = .ok (.iload_n 2, 1) := by decide +kernel
theorem dX2_readNumber_69 : decode cX2_readNumber 69 = .ok (.bipush 10, 2) := by decide +kernel
theorem dX2_readNumber_71 : decode cX2_readNumber 71 = .ok (.imul, 1) := by decide +kernel
theorem dX2_readNumber_72 : decode cX2_readNumber 72 = .ok (.iload_n 3, 1) := by decide +kernel
theorem dX2_readNumber_73 : decode cX2_readNumber 73 = .ok (.iadd, 1) := by decide +kernel
theorem dX2_readNumber_74 : decode cX2_readNumber 74 = .ok (.istore_n 2, 1) := by decide +kernel
theorem dX2_readNumber_75 : decode cX2_readNumber 75 = .ok (.aload_n 0, 1) := by decide +kernel
theorem dX2_readNumber_76 : decode cX2_readNumber 76 = .ok (.dup, 1) := by decide +kernel
theorem dX2_readNumber_77 : decode cX2_readNumber 77 = .ok (.getfield 21, 3) := by decide +kernel
theorem dX2_readNumber_80 : decode cX2_readNumber 80 = .ok (.iconst 1, 1) := by decide +kernel
theorem dX2_readNumber_81 : decode cX2_readNumber 81 = .ok (.iadd, 1) := by decide +kernel
theorem dX2_readNumber_82 : decode cX2_readNumber 82 = .ok (.putfield 21, 3) := by decide +kernel
theorem dX2_readNumber_85 : decode cX2_readNumber 85 = .ok (.goto (-83), 3) := by decide +kernel
theorem dX2_readNumber_88 : decode cX2_readNumber 88 = .ok (.iload_n 2, 1) := by decide +kernel
theorem dX2_readNumber_89 : decode cX2_readNumber 89 = .ok (.ireturn, 1) := by decide +kernel
theorem dX2_copyFrom_0 : decode cX2_copyFrom 0 = .ok (.aload_n 1, 1) := by decide +kernel
theorem dX2_copyFrom_1 : decode cX2_copyFrom 1 = .ok (.getfield 9, 3) := by decide +kernel
theorem dX2_copyFrom_4 : decode cX2_copyFrom 4 = .ok (.iconst 0, 1) := by decide +kernel
theorem dX2_copyFrom_5 : decode cX2_copyFrom 5 = .ok (.aload_n 0, 1) := by decide +kernel
theorem dX2_copyFrom_6 : decode cX2_copyFrom 6 = .ok (.getfield 9, 3) := by decide +kernel
theorem dX2_copyFrom_9 : decode cX2_copyFrom 9 = .ok (.iconst 0, 1) := by decide +kernel
theorem dX2_copyFrom_10 : decode cX2_copyFrom 10 = .ok (.aload_n 0, 1) := by decide +kernel
theorem dX2_copyFrom_11 : decode cX2_copyFrom 11 = .ok (.getfield 9, 3) := by decide +kernel
theorem dX2_copyFrom_14 : decode cX2_copyFrom 14 = .ok (.arraylength, 1) := by decide +kernel
theorem dX2_copyFrom_15 : decode cX2_copyFrom 15 = .ok (.invokestatic 48, 3) := by decide +kernel
theorem dX2_copyFrom_18 : decode cX2_copyFrom 18 = .ok (.aload_n 0, 1) := by decide +kernel
theorem dX2_copyFrom_19 : decode cX2_copyFrom 19 = .ok (.aload_n 1, 1) := by decide +kernel
theorem dX2_copyFrom_20 : decode cX2_copyFrom 20 = .ok (.getfield 15, 3) := by decide +kernel
theorem dX2_copyFrom_23 : decode cX2_copyFrom 23 = .ok (.putfield 15, 3) := by decide +kernel
theorem dX2_copyFrom_26 : decode cX2_copyFrom 26 = .ok (.return_, 1) := by decide +kernel
theorem dX3_init_0 : decode cX3_init 0 = .ok (.aload_n 0, 1) := by decide +kernel
theorem dX3_init_1 : decode cX3_init 1 = .ok (.invokespecial 3, 3) := by decide +kernel
theorem dX3_init_4 : decode cX3_init 4 = .ok (.aload_n 0, 1) := by decide +kernel
theorem dX3_init_5 : decode cX3_init 5 = .ok (.invokevirtual 9, 3) := by decide +kernel
theorem dX3_init_8 : decode cX3_init 8 = .ok (.return_, 1) := by decide +kernel
theorem dX3_clear_0 : decode cX3_clear 0 = .ok (.aload_n 0, 1) := by decide +kernel
theorem dX3_clear_1 : decode cX3_clear 1 = .ok (.bipush (-6), 2) := by decide +kernel
theorem dX3_clear_3 : decode cX3_clear 3 = .ok (.putfield 14, 3) := by decide +kernel
theorem dX3_clear_6 : decode cX3_clear 6 = .ok (.aload_n 0, 1) := by decide +kernel
theorem dX3_clear_7 : decode cX3_clear 7 = .ok (.bipush (-6), 2) := by decide +kernel
theorem dX3_clear_9 : decode cX3_clear 9 = .ok (.putfield 18, 3) := by decide +kernel
theorem dX3_clear_12 : decode cX3_clear 12 = .ok (.aload_n 0, 1) := by decide +kernel
theorem dX3_clear_13 : decode cX3_clear 13 = .ok (.iconst 0, 1) := by decide +kernel
theorem dX3_clear_14 : decode cX3_clear 14 = .ok (.putfield 21, 3) := by decide +kernel
theorem dX3_clear_17 : decode cX3_clear 17 = .ok (.aload_n 0, 1) := by decide +kernel
theorem dX3_clear_18 : decode cX3_clear 18 = .ok (.iconst 0, 1) := by decide +kernel
theorem dX3_clear_19 : decode cX3_clear 19 = .ok (.putfield 24, 3) := by decide +kernel
theorem dX3_clear_22 : decode cX3_clear 22 = .ok (.aload_n 0, 1) := by decide +kernel
theorem dX3_clear_23 : decode cX3_clear 23 = .ok (.iconst 0, 1) := by decide +kernel
theorem dX3_clear_24 : decode cX3_clear 24 = .ok (.putfield 27, 3) := by decide +kernel
theorem dX3_clear_27 : decode cX3_clear 27 = .ok (.aload_n 0, 1) := by decide +kernel
theorem dX3_clear_28 : decode cX3_clear 28 = .ok (.bipush (-6), 2) := by decide +kernel
theorem dX3_clear_30 : decode cX3_clear 30 = .ok (.putfield 30, 3) := by decide +kernel
theorem dX3_clear_33 : decode cX3_clear 33 = .ok (.aload_n 0, 1) := by decide +kernel
theorem dX3_clear_34 : decode cX3_clear 34 = .ok (.iconst 0, 1) := by decide +kernel
theorem dX3_clear_35 : decode cX3_clear 35 = .ok (.putfield 33, 3) := by decide +kernel
theorem dX3_clear_38 : decode cX3_clear 38 = .ok (.return_, 1) := by decide +kernel
theorem dX3_copyFrom_0 : decode cX3_copyFrom 0 = .ok (.aload_n 0, 1) := by decide +kernel
theorem dX3_copyFrom_1 : decode cX3_copyFrom 1 = .ok (.aload_n 1, 1) := by decide +kernel
theorem dX3_copyFrom_2 : decode cX3_copyFrom 2 = .ok (.getfield 14, 3) := by decide +kernel
theorem dX3_copyFrom_5 : decode cX3_copyFrom 5 = .ok (.putfield 14, 3) := by decide +kernel
theorem dX3_copyFrom_8 : decode cX3_copyFrom 8 = .ok (.aload_n 0, 1) := by decide +kernel
theorem dX3_copyFrom_9 : decode cX3_copyFrom 9 = .ok (.aload_n 1, 1) := by decide +kernel
theorem dX3_copyFrom_10 : decode cX3_copyFrom 10 = .ok (.getfield 18, 3) := by decide +kernel
theorem dX3_copyFrom_13 : decode cX3_copyFrom 13 = .ok (.putfield 18, 3) := by decide +kernel
theorem dX3_copyFrom_16 : decode cX3_copyFrom 16 = .ok (.aload_n 0, 1) := by decide +kernel
theorem dX3_copyFrom_17 : decode cX3_copyFrom 17 = .ok (.aload_n 1, 1) := by decide +kernel
theorem dX3_copyFrom_18 : decode cX3_copyFrom 18 = .ok (.getfield 21, 3) := by decide +kernel
theorem dX3_copyFrom_21 : decode cX3_copyFrom 21 = .ok (.putfield 21, 3) := by decide +kernel
theorem dX3_copyFrom_24 : decode cX3_copyFrom 24 = .ok (.aload_n 0, 1) := by decide +kernel
theorem dX3_copyFrom_25 : decode cX3_copyFrom 25 = .ok (.aload_n 1, 1) := by decide +kernel
theorem dX3_copyFrom_26 : decode cX3_copyFrom 26 = .ok (.getfield 24, 3) := by decide +kernel
theorem dX3_copyFrom_29 : decode cX3_copyFrom 29 = .ok (.putfield 24, 3) := by decide +kernel
theorem dX3_copyFrom_32 : decode cX3_copyFrom 32 = .ok (.aload_n 0, 1) := by decide +kernel
theorem dX3_copyFrom_33 : decode cX3_copyFrom 33 = .ok (.aload_n 1, 1) := by decide +kernel
theorem dX3_copyFrom_34 : decode cX3_copyFrom 34 = .ok (.getfield 27, 3) := by decide +kernel
theorem dX3_copyFrom_37 : decode cX3_copyFrom 37 = .ok (.putfield 27, 3) := by decide +kernel
theorem dX3_copyFrom_40 : decode cX3_copyFrom 40 = .ok (.aload_n 0, 1) := by decide +kernel
theorem dX3_copyFrom_41 : decode cX3_copyFrom 41 = .ok (.aload_n 1, 1) := by decide +kernel
theorem dX3_copyFrom_42 : decode cX3_copyFrom 42 = .ok (.getfield 30, 3) := by decide +kernel
theorem dX3_copyFrom_45 : decode cX3_copyFrom 45 = .ok (.putfield 30, 3) := by decide +kernel
theorem dX3_copyFrom_48 : decode cX3_copyFrom 48 = .ok (.aload_n 0, 1) := by decide +kernel
theorem dX3_copyFrom_49 : decode cX3_copyFrom 49 = .ok (.aload_n 1, 1) := by decide +kernel
theorem dX3_copyFrom_50 : decode cX3_copyFrom 50 = .ok (.getfield 33, 3) := by decide +kernel
theorem dX3_copyFrom_53 : decode cX3_copyFrom 53 = .ok (.putfield 33, 3) := by decide +kernel
theorem dX3_copyFrom_56 : decode cX3_copyFrom 56 = .ok (.return_, 1) := by decide +kernel
theorem dX4_init_0 : decode cX4_init 0 = .ok (.aload_n 0, 1) := by decide +kernel
theorem dX4_init_1 : decode cX4_init 1 = .ok (.invokespecial 3, 3) := by decide +kernel
theorem dX4_init_4 : decode cX4_init 4 = .ok (.aload_n 0, 1) := by decide +kernel
theorem dX4_init_5 : decode cX4_init 5 = .ok (.getstatic 9, 3) := by decide +kernel
theorem dX4_init_8 : decode cX4_init 8 = .ok (.arraylength, 1) := by decide +kernel
theorem dX4_init_9 : decode cX4_init 9 = .ok (.newarray .int, 2) := by decide +kernel
theorem dX4_init_11 : decode cX4_init 11 = .ok (.putfield 13, 3) := by decide +kernel
theorem dX4_init_14 : decode cX4_init 14 = .ok (.getstatic 9, 3) := by decide +kernel
theorem dX4_init_17 : decode cX4_init 17 = .ok (.iconst 0, 1) := by decide +kernel
theorem dX4_init_18 : decode cX4_init 18 = .ok (.aload_n 0, 1) := by decide +kernel
theorem dX4_init_19 : decode cX4_init 19 = .ok (.getfield 13, 3) := by decide +kernel
theorem dX4_init_22 : decode cX4_init 22 = .ok (.iconst 0, 1) := by decide +kernel
theorem dX4_init_23 : decode cX4_init 23 = .ok (.aload_n 0, 1) := by decide +kernel
theorem dX4_init_24 : decode cX4_init 24 = .ok (.getfield 13, 3) := by decide +kernel
theorem dX4_init_27 : decode cX4_init 27 = .ok (.arraylength, 1) := by decide +kernel
theorem dX4_init_28 : decode cX4_init 28 = .ok (.invokestatic 18, 3) := by decide +kernel
theorem dX4_init_31 : decode cX4_init 31 = .ok (.aload_n 0, 1) := by decide +kernel
theorem dX4_init_32 : decode cX4_init 32 = .ok (.bipush 6, 2) := by decide +kernel
theorem dX4_init_34 : decode cX4_init 34 = .ok (.anewarray 24, 3) := by decide +kernel
theorem dX4_init_37 : decode cX4_init 37 = .ok (.putfield 26, 3) := by decide +kernel
theorem dX4_init_40 : decode cX4_init 40 = .ok (.iconst 0, 1) := by decide +kernel
theorem dX4_init_41 : decode cX4_init 41 = .ok (.istore_n 1, 1) := by decide +kernel
theorem dX4_init_42 : decode cX4_init 42 = .ok (.iload_n 1, 1) := by decide +kernel
theorem dX4_init_43 : decode cX4_init 43 = .ok (.aload_n 0, 1) := by decide +kernel
theorem dX4_init_44 : decode cX4_init 44 = .ok (.getfield 26, 3) := by decide +kernel
theorem dX4_init_47 : decode cX4_init 47 = .ok (.arraylength, 1) := by decide +kernel
theorem dX4_init_48 : decode cX4_init 48 = .ok (.if_icmp .ge 22, 3) := by decide +kernel
theorem dX4_init_51 : decode cX4_init 51 = .ok (.aload_n 0, 1) := by decide +kernel
theorem dX4_init_52 : decode cX4_init 52 = .ok (.getfield 26, 3) := by decide +kernel
theorem dX4_init_55 : decode cX4_init 55 = .ok (.iload_n 1, 1) := by decide +kernel
theorem dX4_init_56 : decode cX4_init 56 = .ok (.new 24, 3) := by decide +kernel
theorem dX4_init_59 : decode cX4_init 59 = .ok (.dup, 1) := by decide +kernel
theorem dX4_init_60 : decode cX4_init 60 = .ok (.invokespecial 30, 3) := by decide +kernel
theorem dX4_init_63 : decode cX4_init 63 = .ok (.aastore, 1) := by decide +kernel
theorem dX4_init_64 : decode cX4_init 64 = .ok (.iinc 1 1, 3) := by decide +kernel
theorem dX4_init_67 : decode cX4_init 67 = .ok (.goto (-25), 3) := by decide +kernel
theorem dX4_init_70 : decode cX4_init 70 = .ok (.aload_n 0, 1) := by decide +kernel
theorem dX4_init_71 : decode cX4_init 71 = .ok (.bipush 120, 2) := by decide +kernel
theorem dX4_init_73 : decode cX4_init 73 = .ok (.anewarray 31, 3) := by decide +kernel
theorem dX4_init_76 : decode cX4_init 76 = .ok (.putfield 33, 3) := by decide +kernel
theorem dX4_init_79 : decode cX4_init 79 = .ok (.iconst 0, 1) := by decide +kernel
theorem dX4_init_80 : decode cX4_init 80 = .ok (.istore_n 1, 1) := by decide +kernel
theorem dX4_init_81 : decode cX4_init 81 = .ok (.iload_n 1, 1) := by decide +kernel
theorem dX4_init_82 : decode cX4_init 82 = .ok (.aload_n 0, 1) := by decide +kernel
theorem dX4_init_83 : decode cX4_init 83 = .ok (.getfield 33, 3) := by decide +kernel
theorem dX4_init_86 : decode cX4_init 86 = .ok (.arraylength, 1) := by decide +kernel
theorem dX4_init_87 : decode cX4_init 87 = .ok (.if_icmp .ge 22, 3) := by decide +kernel
theorem dX4_init_90 : decode cX4_init 90 = .ok (.aload_n 0, 1) := by decide +kernel
theorem dX4_init_91 : decode cX4_init 91 = .ok (.getfield 33, 3) := by decide +kernel
theorem dX4_init_94 : decode cX4_init 94 = .ok (.iload_n 1, 1) := by decide +kernel
theorem dX4_init_95 : decode cX4_init 95 = .ok (.new 31, 3) := by decide +kernel
theorem dX4_init_98 : decode cX4_init 98 = .ok (.dup, 1) := by decide +kernel
theorem dX4_init_99 : decode cX4_init 99 = .ok (.invokespecial 37, 3) := by decide +kernel
theorem dX4_init_102 : decode cX4_init 102 = .ok (.aastore, 1) := by decide +kernel
theorem dX4_init_103 : decode cX4_init 103 = .ok (.iinc 1 1, 3) := by decide +kernel
theorem dX4_init_106 : decode cX4_init 106 = .ok (.goto (-25), 3) := by decide +kernel
theorem dX4_init_109 : decode cX4_init 109 = .ok (.aload_n 0, 1) := by decide +kernel
theorem dX4_init_110 : decode cX4_init 110 = .ok (.bipush 60, 2) := by decide +kernel
theorem dX4_init_112 : decode cX4_init 112 = .ok (.anewarray 38, 3) := by decide +kernel
theorem dX4_init_115 : decode cX4_init 115 = .ok (.putfield 40, 3) := by decide +kernel
theorem dX4_init_118 : decode cX4_init 118 = .ok (.iconst 0, 1) := by decide +kernel
theorem dX4_init_119 : decode cX4_init 119 = .ok (.istore_n 1, 1) := by decide +kernel
theorem dX4_init_120 : decode cX4_init 120 = .ok (.iload_n 1, 1) := by decide +kernel
theorem dX4_init_121 : decode cX4_init 121 = .ok (.aload_n 0, 1) := by decide +kernel
theorem dX4_init_122 : decode cX4_init 122 = .ok (.getfield 40, 3) := by decide +kernel
theorem dX4_init_125 : decode cX4_init 125 = .ok (.arraylength, 1) := by decide +kernel
theorem dX4_init_126 : decode cX4_init 126 = .ok (.if_icmp .ge 22, 3) := by decide +kernel
theorem dX4_init_129 : decode cX4_init 129 = .ok (.aload_n 0, 1) := by decide +kernel
theorem dX4_init_130 : decode cX4_init 130 = .ok (.getfield 40, 3) := by decide +kernel
theorem dX4_init_133 : decode cX4_init 133 = .ok (.iload_n 1, 1) := by decide +kernel
theorem dX4_init_134 : decode cX4_init 134 = .ok (.new 38, 3) := by decide +kernel
theorem dX4_init_137 : decode cX4_init 137 = .ok (.dup, 1) := by decide +kernel
theorem dX4_init_138 : decode cX4_init 138 = .ok (.invokespecial 44, 3) := by decide +kernel
theorem dX4_init_141 : decode cX4_init 141 = .ok (.aastore, 1) := by decide +kernel
theorem dX4_init_142 : decode cX4_init 142 = .ok (.iinc 1 1, 3) := by decide +kernel
theorem dX4_init_145 : decode cX4_init 145 = .ok (.goto (-25), 3) := by decide +kernel
theorem dX4_init_148 : decode cX4_init 148 = .ok (.aload_n 0, 1) := by decide +kernel
theorem dX4_init_149 : decode cX4_init 149 = .ok (.new 38, 3) := by decide +kernel
theorem dX4_init_152 : decode cX4_init 152 = .ok (.dup, 1) := by decide +kernel
theorem dX4_init_153 : decode cX4_init 153 = .ok (.invokespecial 44, 3) := by decide +kernel
theorem dX4_init_156 : decode cX4_init 156 = .ok (.putfield 45, 3) := by decide +kernel
theorem dX4_init_159 : decode cX4_init 159 = .ok (.aload_n 0, 1) := by decide +kernel
theorem dX4_init_160 : decode cX4_init 160 = .ok (.new 49, 3) := by decide +kernel
theorem dX4_init_163 : decode cX4_init 163 = .ok (.dup, 1) := by decide +kernel
theorem dX4_init_164 : decode cX4_init 164 = .ok (.invokespecial 51, 3) := by decide +kernel
theorem dX4_init_167 : decode cX4_init 167 = .ok (.putfield 52, 3) := by decide +kernel
theorem dX4_init_170 : decode cX4_init 170 = .ok (.aload_n 0, 1) := by decide +kernel
theorem dX4_init_171 : decode cX4_init 171 = .ok (.bipush (-6), 2) := by decide +kernel
theorem dX4_init_173 : decode cX4_init 173 = .ok (.putfield 56, 3) := by decide +kernel
theorem dX4_init_176 : decode cX4_init 176 = .ok (.return_, 1) := by decide +kernel
theorem dX4_hasFlow_0 : decode cX4_hasFlow 0 = .ok (.iload_n 1, 1) := by decide +kernel
theorem dX4_hasFlow_1 : decode cX4_hasFlow 1 = .ok (.ifCond .lt 15, 3) := by decide +kernel
theorem dX4_hasFlow_4 : decode cX4_hasFlow 4 = .ok (.iload_n 1, 1) := by decide +kernel
theorem dX4_hasFlow_5 : decode cX4_hasFlow 5 = .ok (.aload_n 0, 1) := by decide +kernel
theorem dX4_hasFlow_6 : decode cX4_hasFlow 6 = .ok (.getfield 60, 3) := by decide +kernel
theorem dX4_hasFlow_9 : decode cX4_hasFlow 9 = .ok (.if_icmp .ge 7, 3) := by decide +kernel
theorem dX4_hasFlow_12 : decode cX4_hasFlow 12 = .ok (.iconst 1, 1) := by decide +kernel
theorem dX4_hasFlow_13 : decode cX4_hasFlow 13 = .ok (.goto 4, 3) := by decide +kernel
theorem dX4_hasFlow_16 : decode cX4_hasFlow 16 = .ok (.iconst 0, 1) := by decide +kernel
theorem dX4_hasFlow_17 : decode cX4_hasFlow 17 = .ok (.ireturn, 1) := by decide +kernel
theorem dX4_oldestPacket_0 : decode cX4_oldestPacket 0 = .ok (.iconst 0, 1) := by decide +kernel
theorem dX4_oldestPacket_1 : decode cX4_oldestPacket 1 = .ok (.aload_n 0, 1) := by decide +kernel
theorem dX4_oldestPacket_2 : decode cX4_oldestPacket 2 = .ok (.getfield 63, 3) := by decide +kernel
theorem dX4_oldestPacket_5 : decode cX4_oldestPacket 5 = .ok (.bipush 120, 2) := by decide +kernel
theorem dX4_oldestPacket_7 : decode cX4_oldestPacket 7 = .ok (.isub, 1) := by decide +kernel
theorem dX4_oldestPacket_8 : decode cX4_oldestPacket 8 = .ok (.invokestatic 66, 3) := by decide +kernel
theorem dX4_oldestPacket_11 : decode cX4_oldestPacket 11 = .ok (.ireturn, 1) := by decide +kernel
theorem dX4_knowsPacket_0 : decode cX4_knowsPacket 0 = .ok (.iload_n 1, 1) := by decide +kernel
theorem dX4_knowsPacket_1 : decode cX4_knowsPacket 1 = .ok (.aload_n 0, 1) := by decide +kernel
theorem dX4_knowsPacket_2 : decode cX4_knowsPacket 2 = .ok (.invokevirtual 72, 3) := by decide +kernel
theorem dX4_knowsPacket_5 : decode cX4_knowsPacket 5 = .ok (.if_icmp .lt 15, 3) := by decide +kernel
theorem dX4_knowsPacket_8 : decode cX4_knowsPacket 8 = .ok (.iload_n 1, 1) := by decide +kernel
theorem dX4_knowsPacket_9 : decode cX4_knowsPacket 9 = .ok (.aload_n 0, 1) := by decide +kernel
theorem dX4_knowsPacket_10 : decode cX4_knowsPacket 10 = .ok (.getfield 63, 3) := by decide +kernel
theorem dX4_knowsPacket_13 : decode cX4_knowsPacket 13 = .ok (.if_icmp .ge 7, 3) := by decide +kernel
theorem dX4_knowsPacket_16 : decode cX4_knowsPacket 16 = .ok (.iconst 1, 1) := by decide +kernel
theorem dX4_knowsPacket_17 : decode cX4_knowsPacket 17 = .ok (.goto 4, 3) := by decide +kernel
theorem dX4_knowsPacket_20 : decode cX4_knowsPacket 20 = .ok (.iconst 0, 1) := by decide +kernel
theorem dX4_knowsPacket_21 : decode cX4_knowsPacket 21 = .ok (.ireturn, 1) := by decide +kernel
theorem dX4_packetAt_0 : decode cX4_packetAt 0 = .ok (.aload_n 0, 1) := by decide +kernel
theorem dX4_packetAt_1 : decode cX4_packetAt 1 = .ok (.getfield 33, 3) := by decide +kernel
theorem dX4_packetAt_4 : decode cX4_packetAt 4 = .ok (.iload_n 1, 1) := by decide +kernel
theorem dX4_packetAt_5 : decode cX4_packetAt 5 = .ok (.bipush 120, 2) := by decide +kernel
theorem dX4_packetAt_7 : decode cX4_packetAt 7 = .ok (.invokestatic 76, 3) := by decide +kernel
theorem dX4_packetAt_10 : decode cX4_packetAt 10 = .ok (.aaload, 1) := by decide +kernel
theorem dX4_packetAt_11 : decode cX4_packetAt 11 = .ok (.areturn, 1) := by decide +kernel
theorem dX4_oldestPiece_0 : decode cX4_oldestPiece 0 = .ok (.iconst 0, 1) := by decide +kernel
theorem dX4_oldestPiece_1 : decode cX4_oldestPiece 1 = .ok (.aload_n 0, 1) := by decide +kernel
theorem dX4_oldestPiece_2 : decode cX4_oldestPiece 2 = .ok (.getfield 79, 3) := by decide +kernel
theorem dX4_oldestPiece_5 : decode cX4_oldestPiece 5 = .ok (.bipush 60, 2) := by decide +kernel
theorem dX4_oldestPiece_7 : decode cX4_oldestPiece 7 = .ok (.isub, 1) := by decide +kernel
theorem dX4_oldestPiece_8 : decode cX4_oldestPiece 8 = .ok (.invokestatic 66, 3) := by decide +kernel
theorem dX4_oldestPiece_11 : decode cX4_oldestPiece 11 = .ok (.ireturn, 1) := by decide +kernel
theorem dX4_knowsPiece_0 : decode cX4_knowsPiece 0 = .ok (.iload_n 1, 1) := by decide +kernel
theorem dX4_knowsPiece_1 : decode cX4_knowsPiece 1 = .ok (.aload_n 0, 1) := by decide +kernel
theorem dX4_knowsPiece_2 : decode cX4_knowsPiece 2 = .ok (.invokevirtual 82, 3) := by decide +kernel
theorem dX4_knowsPiece_5 : decode cX4_knowsPiece 5 = .ok (.if_icmp .lt 15, 3) := by decide +kernel
theorem dX4_knowsPiece_8 : decode cX4_knowsPiece 8 = .ok (.iload_n 1, 1) := by decide +kernel
theorem dX4_knowsPiece_9 : decode cX4_knowsPiece 9 = .ok (.aload_n 0, 1) := by decide +kernel
theorem dX4_knowsPiece_10 : decode cX4_knowsPiece 10 = .ok (.getfield 79, 3) := by decide +kernel
theorem dX4_knowsPiece_13 : decode cX4_knowsPiece 13 = .ok (.if_icmp .ge 7, 3) := by decide +kernel
theorem dX4_knowsPiece_16 : decode cX4_knowsPiece 16 = .ok (.iconst 1, 1) := by decide +kernel
theorem dX4_knowsPiece_17 : decode cX4_knowsPiece 17 = .ok (.goto 4, 3) := by decide +kernel
theorem dX4_knowsPiece_20 : decode cX4_knowsPiece 20 = .ok (.iconst 0, 1) := by decide +kernel
theorem dX4_knowsPiece_21 : decode cX4_knowsPiece 21 = .ok (.ireturn, 1) := by decide +kernel
theorem dX4_pieceAt_0 : decode cX4_pieceAt 0 = .ok (.aload_n 0, 1) := by decide +kernel
theorem dX4_pieceAt_1 : decode cX4_pieceAt 1 = .ok (.getfield 40, 3) := by decide +kernel
theorem dX4_pieceAt_4 : decode cX4_pieceAt 4 = .ok (.iload_n 1, 1) := by decide +kernel
theorem dX4_pieceAt_5 : decode cX4_pieceAt 5 = .ok (.bipush 60, 2) := by decide +kernel
theorem dX4_pieceAt_7 : decode cX4_pieceAt 7 = .ok (.invokestatic 76, 3) := by decide +kernel
theorem dX4_pieceAt_10 : decode cX4_pieceAt 10 = .ok (.aaload, 1) := by decide +kernel
theorem dX4_pieceAt_11 : decode cX4_pieceAt 11 = .ok (.areturn, 1) := by decide +kernel
theorem dX4_areQueuesEmpty_0 : decode cX4_areQueuesEmpty 0 = .ok (.iconst 0, 1) := by decide +kernel
theorem dX4_areQueuesEmpty_1 : decode cX4_areQueuesEmpty 1 = .ok (.istore_n 1, 1) := by decide +kernel
theorem dX4_areQueuesEmpty_2 : decode cX4_areQueuesEmpty 2 = .ok (.iload_n 1, 1) := by decide +kernel
theorem dX4_areQueuesEmpty_3 : decode cX4_areQueuesEmpty 3 = .ok (.aload_n 0, 1) := by decide +kernel
theorem dX4_areQueuesEmpty_4 : decode cX4_areQueuesEmpty 4 = .ok (.getfield 60, 3) := by decide +kernel
theorem dX4_areQueuesEmpty_7 : decode cX4_areQueuesEmpty 7 = .ok (.if_icmp .ge 23, 3) := by decide +kernel
theorem dX4_areQueuesEmpty_10 : decode cX4_areQueuesEmpty 10 = .ok (.aload_n 0, 1) := by decide +kernel
theorem dX4_areQueuesEmpty_11 : decode cX4_areQueuesEmpty 11 = .ok (.getfield 26, 3) := by decide +kernel
theorem dX4_areQueuesEmpty_14 : decode cX4_areQueuesEmpty 14 = .ok (.iload_n 1, 1) := by decide +kernel
theorem dX4_areQueuesEmpty_15 : decode cX4_areQueuesEmpty 15 = .ok (.aaload, 1) := by decide +kernel
theorem dX4_areQueuesEmpty_16 : decode cX4_areQueuesEmpty 16 = .ok (.getfield 85, 3) := by decide +kernel
theorem dX4_areQueuesEmpty_19 : decode cX4_areQueuesEmpty 19 = .ok (.ifCond .le 5, 3) := by decide +kernel
theorem dX4_areQueuesEmpty_22 : decode cX4_areQueuesEmpty 22 = .ok (.iconst 0, 1) := by decide +kernel
theorem dX4_areQueuesEmpty_23 : decode cX4_areQueuesEmpty 23 = .ok (.ireturn, 1) := by decide +kernel
theorem dX4_areQueuesEmpty_24 : decode cX4_areQueuesEmpty 24 = .ok (.iinc 1 1, 3) := by decide +kernel
theorem dX4_areQueuesEmpty_27 : decode cX4_areQueuesEmpty 27 = .ok (.goto (-25), 3) := by decide +kernel
theorem dX4_areQueuesEmpty_30 : decode cX4_areQueuesEmpty 30 = .ok (.iconst 1, 1) := by decide +kernel
theorem dX4_areQueuesEmpty_31 : decode cX4_areQueuesEmpty 31 = .ok (.ireturn, 1) := by decide +kernel
theorem dX4_unsentLength_0 : decode cX4_unsentLength 0 = .ok (.iconst 0, 1) := by decide +kernel
theorem dX4_unsentLength_1 : decode cX4_unsentLength 1 = .ok (.istore_n 2, 1) := by decide +kernel
theorem dX4_unsentLength_2 : decode cX4_unsentLength 2 = .ok (.iconst 0, 1) := by decide +kernel
theorem dX4_unsentLength_3 : decode cX4_unsentLength 3 = .ok (.istore_n 3, 1) := by decide +kernel
theorem dX4_unsentLength_4 : decode cX4_unsentLength 4 = .ok (.iload_n 3, 1) := by decide +kernel
theorem dX4_unsentLength_5 : decode cX4_unsentLength 5 = .ok (.aload_n 1, 1) := by decide +kernel
theorem dX4_unsentLength_6 : decode cX4_unsentLength 6 = .ok (.getfield 85, 3) := by decide +kernel
theorem dX4_unsentLength_9 : decode cX4_unsentLength 9 = .ok (.if_icmp .ge 25, 3) := by decide +kernel
theorem dX4_unsentLength_12 : decode cX4_unsentLength 12 = .ok (.iload_n 2, 1) := by decide +kernel
theorem dX4_unsentLength_13 : decode cX4_unsentLength 13 = .ok (.aload_n 0, 1) := by decide +kernel
theorem dX4_unsentLength_14 : decode cX4_unsentLength 14 = .ok (.aload_n 1, 1) := by decide +kernel
theorem dX4_unsentLength_15 : decode cX4_unsentLength 15 = .ok (.getfield 88, 3) := by decide +kernel
theorem dX4_unsentLength_18 : decode cX4_unsentLength 18 = .ok (.iload_n 3, 1) := by decide +kernel
theorem dX4_unsentLength_19 : decode cX4_unsentLength 19 = .ok (.iaload, 1) := by decide +kernel
theorem dX4_unsentLength_20 : decode cX4_unsentLength 20 = .ok (.invokevirtual 91, 3) := by decide +kernel
theorem dX4_unsentLength_23 : decode cX4_unsentLength 23 = .ok (.invokevirtual 95, 3) := by decide +kernel
theorem dX4_unsentLength_26 : decode cX4_unsentLength 26 = .ok (.iadd, 1) := by decide +kernel
theorem dX4_unsentLength_27 : decode cX4_unsentLength 27 = .ok (.istore_n 2, 1) := by decide +kernel
theorem dX4_unsentLength_28 : decode cX4_unsentLength 28 = .ok (.iinc 3 1, 3) := by decide +kernel
theorem dX4_unsentLength_31 : decode cX4_unsentLength 31 = .ok (.goto (-27), 3) := by decide +kernel
theorem dX4_unsentLength_34 : decode cX4_unsentLength 34 = .ok (.iload_n 2, 1) := by decide +kernel
theorem dX4_unsentLength_35 : decode cX4_unsentLength 35 = .ok (.ireturn, 1) := by decide +kernel
theorem dX4_tagOrFinish_0 : decode cX4_tagOrFinish 0 = .ok (.aload_n 1, 1) := by decide +kernel
theorem dX4_tagOrFinish_1 : decode cX4_tagOrFinish 1 = .ok (.getfield 85, 3) := by decide +kernel
theorem dX4_tagOrFinish_4 : decode cX4_tagOrFinish 4 = .ok (.ifCond .ne 8, 3) := by decide +kernel
theorem dX4_tagOrFinish_7 : decode cX4_tagOrFinish 7 = .ok (.aload_n 1, 1) := by decide +kernel
theorem dX4_tagOrFinish_8 : decode cX4_tagOrFinish 8 = .ok (.getfield 98, 3) := by decide +kernel
theorem dX4_tagOrFinish_11 : decode cX4_tagOrFinish 11 = .ok (.lreturn, 1) := by decide +kernel
theorem dX4_tagOrFinish_12 : decode cX4_tagOrFinish 12 = .ok (.aload_n 0, 1) := by decide +kernel
theorem dX4_tagOrFinish_13 : decode cX4_tagOrFinish 13 = .ok (.aload_n 1, 1) := by decide +kernel
theorem dX4_tagOrFinish_14 : decode cX4_tagOrFinish 14 = .ok (.invokevirtual 102, 3) := by decide +kernel
theorem dX4_tagOrFinish_17 : decode cX4_tagOrFinish 17 = .ok (.invokevirtual 91, 3) := by decide +kernel
theorem dX4_tagOrFinish_20 : decode cX4_tagOrFinish 20 = .ok (.astore_n 2, 1) := by decide +kernel
theorem dX4_tagOrFinish_21 : decode cX4_tagOrFinish 21 = .ok (.aload_n 2, 1) := by decide +kernel
theorem dX4_tagOrFinish_22 : decode cX4_tagOrFinish 22 = .ok (.getfield 105, 3) := by decide +kernel
theorem dX4_tagOrFinish_25 : decode cX4_tagOrFinish 25 = .ok (.aload_n 1, 1) := by decide +kernel
theorem dX4_tagOrFinish_26 : decode cX4_tagOrFinish 26 = .ok (.aload_n 2, 1) := by decide +kernel
theorem dX4_tagOrFinish_27 : decode cX4_tagOrFinish 27 = .ok (.getfield 108, 3) := by decide +kernel
theorem dX4_tagOrFinish_30 : decode cX4_tagOrFinish 30 = .ok (.invokevirtual 111, 3) := by decide +kernel
theorem dX4_tagOrFinish_33 : decode cX4_tagOrFinish 33 = .ok (.ladd, 1) := by decide +kernel
theorem dX4_tagOrFinish_34 : decode cX4_tagOrFinish 34 = .ok (.lreturn, 1) := by decide +kernel
theorem dX4_openFlow_0 : decode cX4_openFlow 0 = .ok (.aload_n 0, 1) := by decide +kernel
theorem dX4_openFlow_1 : decode cX4_openFlow 1 = .ok (.getfield 26, 3) := by decide +kernel
theorem dX4_openFlow_4 : decode cX4_openFlow 4 = .ok (.aload_n 0, 1) := by decide +kernel
theorem dX4_openFlow_5 : decode cX4_openFlow 5 = .ok (.getfield 60, 3) := by decide +kernel
theorem dX4_openFlow_8 : decode cX4_openFlow 8 = .ok (.aaload, 1) := by decide +kernel
theorem dX4_openFlow_9 : decode cX4_openFlow 9 = .ok (.iload_n 1, 1) := by decide +kernel
theorem dX4_openFlow_10 : decode cX4_openFlow 10 = .ok (.invokevirtual 115, 3) := by decide +kernel
theorem dX4_openFlow_13 : decode cX4_openFlow 13 = .ok (.aload_n 0, 1) := by decide +kernel
theorem dX4_openFlow_14 : decode cX4_openFlow 14 = .ok (.dup, 1) := by decide +kernel
theorem dX4_openFlow_15 : decode cX4_openFlow 15 = .ok (.getfield 60, 3) := by decide +kernel
theorem dX4_openFlow_18 : decode cX4_openFlow 18 = .ok (.iconst 1, 1) := by decide +kernel
theorem dX4_openFlow_19 : decode cX4_openFlow 19 = .ok (.iadd, 1) := by decide +kernel
theorem dX4_openFlow_20 : decode cX4_openFlow 20 = .ok (.putfield 60, 3) := by decide +kernel
theorem dX4_openFlow_23 : decode cX4_openFlow 23 = .ok (.aload_n 0, 1) := by decide +kernel
theorem dX4_openFlow_24 : decode cX4_openFlow 24 = .ok (.getfield 60, 3) := by decide +kernel
theorem dX4_openFlow_27 : decode cX4_openFlow 27 = .ok (.iconst 1, 1) := by decide +kernel
theorem dX4_openFlow_28 : decode cX4_openFlow 28 = .ok (.isub, 1) := by decide +kernel
theorem dX4_openFlow_29 : decode cX4_openFlow 29 = .ok (.ireturn, 1) := by decide +kernel
theorem dX4_canAccept_0 : decode cX4_canAccept 0 = .ok (.aload_n 0, 1) := by decide +kernel
theorem dX4_canAccept_1 : decode cX4_canAccept 1 = .ok (.getfield 26, 3) := by decide +kernel
theorem dX4_canAccept_4 : decode cX4_canAccept 4 = .ok (.iload_n 1, 1) := by decide +kernel
theorem dX4_canAccept_5 : decode cX4_canAccept 5 = .ok (.aaload, 1) := by decide +kernel
theorem dX4_canAccept_6 : decode cX4_canAccept 6 = .ok (.getfield 85, 3) := by decide +kernel
theorem dX4_canAccept_9 : decode cX4_canAccept 9 = .ok (.aload_n 0, 1) := by decide +kernel
theorem dX4_canAccept_10 : decode cX4_canAccept 10 = .ok (.getfield 26, 3) := by decide +kernel
theorem dX4_canAccept_13 : decode cX4_canAccept 13 = .ok (.iload_n 1, 1) := by decide +kernel
theorem dX4_canAccept_14 : decode cX4_canAccept 14 = .ok (.aaload, 1) := by decide +kernel
theorem dX4_canAccept_15 : decode cX4_canAccept 15 = .ok (.getfield 119, 3) := by decide +kernel
theorem dX4_canAccept_18 : decode cX4_canAccept 18 = .ok (.iconst 1, 1) := by decide +kernel
theorem dX4_canAccept_19 : decode cX4_canAccept 19 = .ok (.iaload, 1) := by decide +kernel
theorem dX4_canAccept_20 : decode cX4_canAccept 20 = .ok (.if_icmp .lt 5, 3) := by decide +kernel
theorem dX4_canAccept_23 : decode cX4_canAccept 23 = .ok (.iconst 0, 1) := by decide +kernel
theorem dX4_canAccept_24 : decode cX4_canAccept 24 = .ok (.ireturn, 1) := by decide +kernel
theorem dX4_canAccept_25 : decode cX4_canAccept 25 = .ok (.aload_n 0, 1) := by decide +kernel
theorem dX4_canAccept_26 : decode cX4_canAccept 26 = .ok (.getfield 63, 3) := by decide +kernel
theorem dX4_canAccept_29 : decode cX4_canAccept 29 = .ok (.bipush 120, 2) := by decide +kernel
theorem dX4_canAccept_31 : decode cX4_canAccept 31 = .ok (.if_icmp .ge 5, 3) := by decide +kernel
theorem dX4_canAccept_34 : decode cX4_canAccept 34 = .ok (.iconst 1, 1) := by decide +kernel
theorem dX4_canAccept_35 : decode cX4_canAccept 35 = .ok (.ireturn, 1) := by decide +kernel
theorem dX4_canAccept_36 : decode cX4_canAccept 36 = .ok (.aload_n 0, 1) := by decide +kernel
theorem dX4_canAccept_37 : decode cX4_canAccept 37 = .ok (.aload_n 0, 1) := by decide +kernel
theorem dX4_canAccept_38 : decode cX4_canAccept 38 = .ok (.invokevirtual 72, 3) := by decide +kernel
theorem dX4_canAccept_41 : decode cX4_canAccept 41 = .ok (.invokevirtual 91, 3) := by decide +kernel
theorem dX4_canAccept_44 : decode cX4_canAccept 44 = .ok (.getfield 120, 3) := by decide +kernel
theorem dX4_canAccept_47 : decode cX4_canAccept 47 = .ok (.istore_n 2, 1) := by decide +kernel
theorem dX4_canAccept_48 : decode cX4_canAccept 48 = .ok (.iload_n 2, 1) := by decide +kernel
theorem dX4_canAccept_49 : decode cX4_canAccept 49 = .ok (.iconst 3, 1) := by decide +kernel
theorem dX4_canAccept_50 : decode cX4_canAccept 50 = .ok (.if_icmp .eq 8, 3) := by decide +kernel
theorem dX4_canAccept_53 : decode cX4_canAccept 53 = .ok (.iload_n 2, 1) := by decide +kernel
theorem dX4_canAccept_54 : decode cX4_canAccept 54 = .ok (.iconst 4, 1) := by decide +kernel
theorem dX4_canAccept_55 : decode cX4_canAccept 55 = .ok (.if_icmp .ne 7, 3) := by decide +kernel
theorem dX4_canAccept_58 : decode cX4_canAccept 58 = .ok (.iconst 1, 1) := by decide +kernel
theorem dX4_canAccept_59 : decode cX4_canAccept 59 = .ok (.goto 4, 3) := by decide +kernel
theorem dX4_canAccept_62 : decode cX4_canAccept 62 = .ok (.iconst 0, 1) := by decide +kernel
theorem dX4_canAccept_63 : decode cX4_canAccept 63 = .ok (.ireturn, 1) := by decide +kernel
theorem dX4_accept_0 : decode cX4_accept 0 = .ok (.aload_n 0, 1) := by decide +kernel
theorem dX4_accept_1 : decode cX4_accept 1 = .ok (.getfield 63, 3) := by decide +kernel
theorem dX4_accept_4 : decode cX4_accept 4 = .ok (.istore 4, 2) := by decide +kernel
theorem dX4_accept_6 : decode cX4_accept 6 = .ok (.aload_n 0, 1) := by decide +kernel
theorem dX4_accept_7 : decode cX4_accept 7 = .ok (.getfield 26, 3) := by decide +kernel
theorem dX4_accept_10 : decode cX4_accept 10 = .ok (.iload_n 1, 1) := by decide +kernel
theorem dX4_accept_11 : decode cX4_accept 11 = .ok (.aaload, 1) := by decide +kernel
theorem dX4_accept_12 : decode cX4_accept 12 = .ok (.astore 5, 2) := by decide +kernel
theorem dX4_accept_14 : decode cX4_accept 14 = .ok (.aload_n 0, 1) := by decide +kernel
theorem dX4_accept_15 : decode cX4_accept 15 = .ok (.getfield 123, 3) := by decide +kernel
theorem dX4_accept_18 : decode cX4_accept 18 = .ok (.aload 5, 2) := by decide +kernel
theorem dX4_accept_20 : decode cX4_accept 20 = .ok (.getfield 98, 3) := by decide +kernel
theorem dX4_accept_23 : decode cX4_accept 23 = .ok (.invokestatic 126, 3) := by decide +kernel
theorem dX4_accept_26 : decode cX4_accept 26 = .ok (.lstore 6, 2) := by decide +kernel
theorem dX4_accept_28 : decode cX4_accept 28 = .ok (.aload_n 0, 1) := by decide +kernel
theorem dX4_accept_29 : decode cX4_accept 29 = .ok (.iload 4, 2) := by decide +kernel
theorem dX4_accept_31 : decode cX4_accept 31 = .ok (.invokevirtual 91, 3) := by decide +kernel
theorem dX4_accept_34 : decode cX4_accept 34 = .ok (.iload_n 1, 1) := by decide +kernel
theorem dX4_accept_35 : decode cX4_accept 35 = .ok (.iload_n 2, 1) := by decide +kernel
theorem dX4_accept_36 : decode cX4_accept 36 = .ok (.aload_n 0, 1) := by decide +kernel
theorem dX4_accept_37 : decode cX4_accept 37 = .ok (.getfield 129, 3) := by decide +kernel
theorem dX4_accept_40 : decode cX4_accept 40 = .ok (.iload_n 3, 1) := by decide +kernel
theorem dX4_accept_41 : decode cX4_accept 41 = .ok (.ifCond .ne 8, 3) := by decide +kernel
theorem dX4_accept_44 : decode cX4_accept 44 = .ok (.bipush (-6), 2) := by decide +kernel
theorem dX4_accept_46 : decode cX4_accept 46 = .ok (.goto 9, 3) := by decide +kernel
theorem dX4_accept_49 : decode cX4_accept 49 = .ok (.aload_n 0, 1) := by decide +kernel
theorem dX4_accept_50 : decode cX4_accept 50 = .ok (.getfield 129, 3) := by decide +kernel
theorem dX4_accept_53 : decode cX4_accept 53 = .ok (.iload_n 3, 1) := by decide +kernel
theorem dX4_accept_54 : decode cX4_accept 54 = .ok (.iadd, 1) := by decide +kernel
theorem dX4_accept_55 : decode cX4_accept 55 = .ok (.lload 6, 2) := by decide +kernel
theorem dX4_accept_57 : decode cX4_accept 57 = .ok (.invokevirtual 132, 3) := by decide +kernel
theorem dX4_accept_60 : decode cX4_accept 60 = .ok (.aload 5, 2) := by decide +kernel
theorem dX4_accept_62 : decode cX4_accept 62 = .ok (.lload 6, 2) := by decide +kernel
theorem dX4_accept_64 : decode cX4_accept 64 = .ok (.aload 5, 2) := by decide +kernel
theorem dX4_accept_66 : decode cX4_accept 66 = .ok (.iload_n 2, 1) := by decide +kernel
theorem dX4_accept_67 : decode cX4_accept 67 = .ok (.invokevirtual 111, 3) := by decide +kernel
theorem dX4_accept_70 : decode cX4_accept 70 = .ok (.ladd, 1) := by decide +kernel
theorem dX4_accept_71 : decode cX4_accept 71 = .ok (.putfield 98, 3) := by decide +kernel
theorem dX4_accept_74 : decode cX4_accept 74 = .ok (.aload 5, 2) := by decide +kernel
theorem dX4_accept_76 : decode cX4_accept 76 = .ok (.dup, 1) := by decide +kernel
theorem dX4_accept_77 : decode cX4_accept 77 = .ok (.getfield 135, 3) := by decide +kernel
theorem dX4_accept_80 : decode cX4_accept 80 = .ok (.iload_n 2, 1) := by decide +kernel
theorem dX4_accept_81 : decode cX4_accept 81 = .ok (.i2l, 1) := by decide +kernel
theorem dX4_accept_82 : decode cX4_accept 82 = .ok (.ldc2_w 138, 3) := by decide +kernel
theorem dX4_accept_85 : decode cX4_accept 85 = .ok (.lmul, 1) := by decide +kernel
theorem dX4_accept_86 : decode cX4_accept 86 = .ok (.ladd, 1) := by decide +kernel
theorem dX4_accept_87 : decode cX4_accept 87 = .ok (.putfield 135, 3) := by decide +kernel
theorem dX4_accept_90 : decode cX4_accept 90 = .ok (.aload 5, 2) := by decide +kernel
theorem dX4_accept_92 : decode cX4_accept 92 = .ok (.dup, 1) := by decide +kernel
theorem dX4_accept_93 : decode cX4_accept 93 = .ok (.getfield 140, 3) := by decide +kernel
theorem dX4_accept_96 : decode cX4_accept 96 = .ok (.iconst 1, 1) := by decide +kernel
theorem dX4_accept_97 : decode cX4_accept 97 = .ok (.iadd, 1) := by decide +kernel
theorem dX4_accept_98 : decode cX4_accept 98 = .ok (.putfield 140, 3) := by decide +kernel
theorem dX4_accept_101 : decode cX4_accept 101 = .ok (.aload 5, 2) := by decide +kernel
theorem dX4_accept_103 : decode cX4_accept 103 = .ok (.iload 4, 2) := by decide +kernel
theorem dX4_accept_105 : decode cX4_accept 105 = .ok (.invokevirtual 143, 3) := by decide +kernel
theorem dX4_accept_108 : decode cX4_accept 108 = .ok (.aload_n 0, 1) := by decide +kernel
theorem dX4_accept_109 : decode cX4_accept 109 = .ok (.dup, 1) := by decide +kernel
theorem dX4_accept_110 : decode cX4_accept 110 = .ok (.getfield 63, 3) := by decide +kernel
theorem dX4_accept_113 : decode cX4_accept 113 = .ok (.iconst 1, 1) := by decide +kernel
theorem dX4_accept_114 : decode cX4_accept 114 = .ok (.iadd, 1) := by decide +kernel
theorem dX4_accept_115 : decode cX4_accept 115 = .ok (.putfield 63, 3) := by decide +kernel
theorem dX4_accept_118 : decode cX4_accept 118 = .ok (.iload 4, 2) := by decide +kernel
theorem dX4_accept_120 : decode cX4_accept 120 = .ok (.ireturn, 1) := by decide +kernel
theorem dX4_makeTick_0 : decode cX4_makeTick 0 = .ok (.aload_n 0, 1) := by decide +kernel
theorem dX4_makeTick_1 : decode cX4_makeTick 1 = .ok (.invokevirtual 146, 3) := by decide +kernel
theorem dX4_makeTick_4 : decode cX4_makeTick 4 = .ok (.iconst 0, 1) := by decide +kernel
theorem dX4_makeTick_5 : decode cX4_makeTick 5 = .ok (.istore_n 1, 1) := by decide +kernel
theorem dX4_makeTick_6 : decode cX4_makeTick 6 = .ok (.iload_n 1, 1) := by decide +kernel
theorem dX4_makeTick_7 : decode cX4_makeTick 7 = .ok (.aload_n 0, 1) := by decide +kernel
theorem dX4_makeTick_8 : decode cX4_makeTick 8 = .ok (.getfield 60, 3) := by decide +kernel
theorem dX4_makeTick_11 : decode cX4_makeTick 11 = .ok (.if_icmp .ge 22, 3) := by decide +kernel
theorem dX4_makeTick_14 : decode cX4_makeTick 14 = .ok (.aload_n 0, 1) := by decide +kernel
theorem dX4_makeTick_15 : decode cX4_makeTick 15 = .ok (.getfield 26, 3) := by decide +kernel
theorem dX4_makeTick_18 : decode cX4_makeTick 18 = .ok (.iload_n 1, 1) := by decide +kernel
theorem dX4_makeTick_19 : decode cX4_makeTick 19 = .ok (.aaload, 1) := by decide +kernel
theorem dX4_makeTick_20 : decode cX4_makeTick 20 = .ok (.aload_n 0, 1) := by decide +kernel
theorem dX4_makeTick_21 : decode cX4_makeTick 21 = .ok (.getfield 123, 3) := by decide +kernel
theorem dX4_makeTick_24 : decode cX4_makeTick 24 = .ok (.invokevirtual 149, 3) := by decide +kernel
theorem dX4_makeTick_27 : decode cX4_makeTick 27 = .ok (.iinc 1 1, 3) := by decide +kernel
theorem dX4_makeTick_30 : decode cX4_makeTick 30 = .ok (.goto (-24), 3) := by decide +kernel
theorem dX4_makeTick_33 : decode cX4_makeTick 33 = .ok (.aload_n 0, 1) := by decide +kernel
theorem dX4_makeTick_34 : decode cX4_makeTick 34 = .ok (.invokevirtual 153, 3) := by decide +kernel
theorem dX4_makeTick_37 : decode cX4_makeTick 37 = .ok (.aload_n 0, 1) := by decide +kernel
theorem dX4_makeTick_38 : decode cX4_makeTick 38 = .ok (.invokevirtual 156, 3) := by decide +kernel
theorem dX4_makeTick_41 : decode cX4_makeTick 41 = .ok (.return_, 1) := by decide +kernel
theorem dX4_makeDeliveryTick_0 : decode cX4_makeDeliveryTick 0 = .ok (.aload_n 0, 1) := by decide +kernel
theorem dX4_makeDeliveryTick_1 : decode cX4_makeDeliveryTick 1 = .ok (.invokevirtual 146, 3) := by decide +kernel
theorem dX4_makeDeliveryTick_4 : decode cX4_makeDeliveryTick 4 = .ok (.aload_n 0, 1) := by decide +kernel
theorem dX4_makeDeliveryTick_5 : decode cX4_makeDeliveryTick 5 = .ok (.invokevirtual 156, 3) := by decide +kernel
theorem dX4_makeDeliveryTick_8 : decode cX4_makeDeliveryTick 8 = .ok (.return_, 1) := by decide +kernel
theorem dX4_ticksUntilDelivery_0 : decode cX4_ticksUntilDelivery 0 = .ok (.iconst 1, 1) := by decide +kernel
theorem dX4_ticksUntilDelivery_1 : decode cX4_ticksUntilDelivery 1 = .ok (.istore_n 3, 1) := by decide +kernel
theorem dX4_ticksUntilDelivery_2 : decode cX4_ticksUntilDelivery 2 = .ok (.iload_n 3, 1) := by decide +kernel
theorem dX4_ticksUntilDelivery_3 : decode cX4_ticksUntilDelivery 3 = .ok (.iload_n 2, 1) := by decide +kernel
theorem dX4_ticksUntilDelivery_4 : decode cX4_ticksUntilDelivery 4 = .ok (.if_icmp .gt 27, 3) := by decide +kernel
theorem dX4_ticksUntilDelivery_7 : decode cX4_ticksUntilDelivery 7 = .ok (.aload_n 0, 1) := by decide +kernel
theorem dX4_ticksUntilDelivery_8 : decode cX4_ticksUntilDelivery 8 = .ok (.invokevirtual 159, 3) := by decide +kernel
theorem dX4_ticksUntilDelivery_11 : decode cX4_ticksUntilDelivery 11 = .ok (.aload_n 0, 1) := by decide +kernel
theorem dX4_ticksUntilDelivery_12 : decode cX4_ticksUntilDelivery 12 = .ok (.iload_n 1, 1) := by decide +kernel
theorem dX4_ticksUntilDelivery_13 : decode cX4_ticksUntilDelivery 13 = .ok (.invokevirtual 91, 3) := by decide +kernel
theorem dX4_ticksUntilDelivery_16 : decode cX4_ticksUntilDelivery 16 = .ok (.getfield 120, 3) := by decide +kernel
theorem dX4_ticksUntilDelivery_19 : decode cX4_ticksUntilDelivery 19 = .ok (.iconst 3, 1) := by decide +kernel
theorem dX4_ticksUntilDelivery_20 : decode cX4_ticksUntilDelivery 20 = .ok (.if_icmp .ne 5, 3) := by decide +kernel
theorem dX4_ticksUntilDelivery_23 : decode cX4_ticksUntilDelivery 23 = .ok (.iload_n 3, 1) := by decide +kernel
theorem dX4_ticksUntilDelivery_24 : decode cX4_ticksUntilDelivery 24 = .ok (.ireturn, 1) := by decide +kernel
theorem dX4_ticksUntilDelivery_25 : decode cX4_ticksUntilDelivery 25 = .ok (.iinc 3 1, 3) := by decide +kernel
theorem dX4_ticksUntilDelivery_28 : decode cX4_ticksUntilDelivery 28 = .ok (.goto (-26), 3) := by decide +kernel
theorem dX4_ticksUntilDelivery_31 : decode cX4_ticksUntilDelivery 31 = .ok (.bipush (-6), 2) := by decide +kernel
theorem dX4_ticksUntilDelivery_33 : decode cX4_ticksUntilDelivery 33 = .ok (.ireturn, 1) := by decide +kernel
theorem dX4_moveTime_0 : decode cX4_moveTime 0 = .ok (.aload_n 0, 1) := by decide +kernel
theorem dX4_moveTime_1 : decode cX4_moveTime 1 = .ok (.dup, 1) := by decide +kernel
theorem dX4_moveTime_2 : decode cX4_moveTime 2 = .ok (.getfield 129, 3) := by decide +kernel
theorem dX4_moveTime_5 : decode cX4_moveTime 5 = .ok (.iconst 1, 1) := by decide +kernel
theorem dX4_moveTime_6 : decode cX4_moveTime 6 = .ok (.iadd, 1) := by decide +kernel
theorem dX4_moveTime_7 : decode cX4_moveTime 7 = .ok (.putfield 129, 3) := by decide +kernel
theorem dX4_moveTime_10 : decode cX4_moveTime 10 = .ok (.aload_n 0, 1) := by decide +kernel
theorem dX4_moveTime_11 : decode cX4_moveTime 11 = .ok (.bipush (-6), 2) := by decide +kernel
theorem dX4_moveTime_13 : decode cX4_moveTime 13 = .ok (.putfield 56, 3) := by decide +kernel
theorem dX4_moveTime_16 : decode cX4_moveTime 16 = .ok (.aload_n 0, 1) := by decide +kernel
theorem dX4_moveTime_17 : decode cX4_moveTime 17 = .ok (.getfield 45, 3) := by decide +kernel
theorem dX4_moveTime_20 : decode cX4_moveTime 20 = .ok (.getfield 162, 3) := by decide +kernel
theorem dX4_moveTime_23 : decode cX4_moveTime 23 = .ok (.bipush (-6), 2) := by decide +kernel
theorem dX4_moveTime_25 : decode cX4_moveTime 25 = .ok (.if_icmp .eq 40, 3) := by decide +kernel
theorem dX4_moveTime_28 : decode cX4_moveTime 28 = .ok (.aload_n 0, 1) := by decide +kernel
theorem dX4_moveTime_29 : decode cX4_moveTime 29 = .ok (.dup, 1) := by decide +kernel
theorem dX4_moveTime_30 : decode cX4_moveTime 30 = .ok (.getfield 165, 3) := by decide +kernel
theorem dX4_moveTime_33 : decode cX4_moveTime 33 = .ok (.iconst 1, 1) := by decide +kernel
theorem dX4_moveTime_34 : decode cX4_moveTime 34 = .ok (.iadd, 1) := by decide +kernel
theorem dX4_moveTime_35 : decode cX4_moveTime 35 = .ok (.putfield 165, 3) := by decide +kernel
theorem dX4_moveTime_38 : decode cX4_moveTime 38 = .ok (.aload_n 0, 1) := by decide +kernel
theorem dX4_moveTime_39 : decode cX4_moveTime 39 = .ok (.getfield 45, 3) := by decide +kernel
theorem dX4_moveTime_42 : decode cX4_moveTime 42 = .ok (.dup, 1) := by decide +kernel
theorem dX4_moveTime_43 : decode cX4_moveTime 43 = .ok (.getfield 168, 3) := by decide +kernel
theorem dX4_moveTime_46 : decode cX4_moveTime 46 = .ok (.iconst 1, 1) := by decide +kernel
theorem dX4_moveTime_47 : decode cX4_moveTime 47 = .ok (.isub, 1) := by decide +kernel
theorem dX4_moveTime_48 : decode cX4_moveTime 48 = .ok (.putfield 168, 3) := by decide +kernel
theorem dX4_moveTime_51 : decode cX4_moveTime 51 = .ok (.aload_n 0, 1) := by decide +kernel
theorem dX4_moveTime_52 : decode cX4_moveTime 52 = .ok (.getfield 45, 3) := by decide +kernel
theorem dX4_moveTime_55 : decode cX4_moveTime 55 = .ok (.getfield 168, 3) := by decide +kernel
theorem dX4_moveTime_58 : decode cX4_moveTime 58 = .ok (.ifCond .gt 7, 3) := by decide +kernel
theorem dX4_moveTime_61 : decode cX4_moveTime 61 = .ok (.aload_n 0, 1) := by decide +kernel
theorem dX4_moveTime_62 : decode cX4_moveTime 62 = .ok (.invokevirtual 171, 3) := by decide +kernel
theorem dX4_moveTime_65 : decode cX4_moveTime 65 = .ok (.aload_n 0, 1) := by decide +kernel
theorem dX4_moveTime_66 : decode cX4_moveTime 66 = .ok (.getfield 174, 3) := by decide +kernel
theorem dX4_moveTime_69 : decode cX4_moveTime 69 = .ok (.ifCond .le 7, 3) := by decide +kernel
theorem dX4_moveTime_72 : decode cX4_moveTime 72 = .ok (.aload_n 0, 1) := by decide +kernel
theorem dX4_moveTime_73 : decode cX4_moveTime 73 = .ok (.invokevirtual 177, 3) := by decide +kernel
theorem dX4_moveTime_76 : decode cX4_moveTime 76 = .ok (.return_, 1) := by decide +kernel
theorem dX4_finishPiece_0 : decode cX4_finishPiece 0 = .ok (.aload_n 0, 1) := by decide +kernel
theorem dX4_finishPiece_1 : decode cX4_finishPiece 1 = .ok (.getfield 45, 3) := by decide +kernel
theorem dX4_finishPiece_4 : decode cX4_finishPiece 4 = .ok (.getfield 162, 3) := by decide +kernel
theorem dX4_finishPiece_7 : decode cX4_finishPiece 7 = .ok (.istore_n 1, 1) := by decide +kernel
theorem dX4_finishPiece_8 : decode cX4_finishPiece 8 = .ok (.aload_n 0, 1) := by decide +kernel
theorem dX4_finishPiece_9 : decode cX4_finishPiece 9 = .ok (.iload_n 1, 1) := by decide +kernel
theorem dX4_finishPiece_10 : decode cX4_finishPiece 10 = .ok (.invokevirtual 91, 3) := by decide +kernel
theorem dX4_finishPiece_13 : decode cX4_finishPiece 13 = .ok (.astore_n 2, 1) := by decide +kernel
theorem dX4_finishPiece_14 : decode cX4_finishPiece 14 = .ok (.aload_n 0, 1) := by decide +kernel
theorem dX4_finishPiece_15 : decode cX4_finishPiece 15 = .ok (.getfield 26, 3) := by decide +kernel
theorem dX4_finishPiece_18 : decode cX4_finishPiece 18 = .ok (.aload_n 2, 1) := by decide +kernel
theorem dX4_finishPiece_19 : decode cX4_finishPiece 19 = .ok (.getfield 180, 3) := by decide +kernel
theorem dX4_finishPiece_22 : decode cX4_finishPiece 22 = .ok (.aaload, 1) := by decide +kernel
theorem dX4_finishPiece_23 : decode cX4_finishPiece 23 = .ok (.astore_n 3, 1) := by decide +kernel
theorem dX4_finishPiece_24 : decode cX4_finishPiece 24 = .ok (.aload_n 2, 1) := by decide +kernel
theorem dX4_finishPiece_25 : decode cX4_finishPiece 25 = .ok (.dup, 1) := by decide +kernel
theorem dX4_finishPiece_26 : decode cX4_finishPiece 26 = .ok (.getfield 108, 3) := by decide +kernel
theorem dX4_finishPiece_29 : decode cX4_finishPiece 29 = .ok (.aload_n 0, 1) := by decide +kernel
theorem dX4_finishPiece_30 : decode cX4_finishPiece 30 = .ok (.getfield 45, 3) := by decide +kernel
theorem dX4_finishPiece_33 : decode cX4_finishPiece 33 = .ok (.getfield 183, 3) := by decide +kernel
theorem dX4_finishPiece_36 : decode cX4_finishPiece 36 = .ok (.iadd, 1) := by decide +kernel
theorem dX4_finishPiece_37 : decode cX4_finishPiece 37 = .ok (.putfield 108, 3) := by decide +kernel
theorem dX4_finishPiece_40 : decode cX4_finishPiece 40 = .ok (.aload_n 2, 1) := by decide +kernel
theorem dX4_finishPiece_41 : decode cX4_finishPiece 41 = .ok (.dup, 1) := by decide +kernel
theorem dX4_finishPiece_42 : decode cX4_finishPiece 42 = .ok (.getfield 186, 3) := by decide +kernel
theorem dX4_finishPiece_45 : decode cX4_finishPiece 45 = .ok (.iconst 1, 1) := by decide +kernel
theorem dX4_finishPiece_46 : decode cX4_finishPiece 46 = .ok (.iadd, 1) := by decide +kernel
theorem dX4_finishPiece_47 : decode cX4_finishPiece 47 = .ok (.putfield 186, 3) := by decide +kernel
theorem dX4_finishPiece_50 : decode cX4_finishPiece 50 = .ok (.aload_n 2, 1) := by decide +kernel
theorem dX4_finishPiece_51 : decode cX4_finishPiece 51 = .ok (.dup, 1) := by decide +kernel
theorem dX4_finishPiece_52 : decode cX4_finishPiece 52 = .ok (.getfield 188, 3) := by decide +kernel
theorem dX4_finishPiece_55 : decode cX4_finishPiece 55 = .ok (.aload_n 0, 1) := by decide +kernel
theorem dX4_finishPiece_56 : decode cX4_finishPiece 56 = .ok (.getfield 45, 3) := by decide +kernel
theorem dX4_finishPiece_59 : decode cX4_finishPiece 59 = .ok (.getfield 191, 3) := by decide +kernel
theorem dX4_finishPiece_62 : decode cX4_finishPiece 62 = .ok (.ifCond .eq 7, 3) := by decide +kernel
theorem dX4_finishPiece_65 : decode cX4_finishPiece 65 = .ok (.iconst 1, 1) := by decide +kernel
theorem dX4_finishPiece_66 : decode cX4_finishPiece 66 = .ok (.goto 4, 3) := by decide +kernel
theorem dX4_finishPiece_69 : decode cX4_finishPiece 69 = .ok (.iconst 0, 1) := by decide +kernel
theorem dX4_finishPiece_70 : decode cX4_finishPiece 70 = .ok (.iadd, 1) := by decide +kernel
theorem dX4_finishPiece_71 : decode cX4_finishPiece 71 = .ok (.putfield 188, 3) := by decide +kernel
theorem dX4_finishPiece_74 : decode cX4_finishPiece 74 = .ok (.aload_n 2, 1) := by decide +kernel
theorem dX4_finishPiece_75 : decode cX4_finishPiece 75 = .ok (.aload_n 0, 1) := by decide +kernel
theorem dX4_finishPiece_76 : decode cX4_finishPiece 76 = .ok (.getfield 129, 3) := by decide +kernel
theorem dX4_finishPiece_79 : decode cX4_finishPiece 79 = .ok (.putfield 195, 3) := by decide +kernel
theorem dX4_finishPiece_82 : decode cX4_finishPiece 82 = .ok (.aload_n 3, 1) := by decide +kernel
theorem dX4_finishPiece_83 : decode cX4_finishPiece 83 = .ok (.dup, 1) := by decide +kernel
theorem dX4_finishPiece_84 : decode cX4_finishPiece 84 = .ok (.getfield 198, 3) := by decide +kernel
theorem dX4_finishPiece_87 : decode cX4_finishPiece 87 = .ok (.aload_n 0, 1) := by decide +kernel
theorem dX4_finishPiece_88 : decode cX4_finishPiece 88 = .ok (.getfield 45, 3) := by decide +kernel
theorem dX4_finishPiece_91 : decode cX4_finishPiece 91 = .ok (.getfield 183, 3) := by decide +kernel
theorem dX4_finishPiece_94 : decode cX4_finishPiece 94 = .ok (.iadd, 1) := by decide +kernel
theorem dX4_finishPiece_95 : decode cX4_finishPiece 95 = .ok (.putfield 198, 3) := by decide +kernel
theorem dX4_finishPiece_98 : decode cX4_finishPiece 98 = .ok (.aload_n 0, 1) := by decide +kernel
theorem dX4_finishPiece_99 : decode cX4_finishPiece 99 = .ok (.invokevirtual 199, 3) := by decide +kernel
theorem dX4_finishPiece_102 : decode cX4_finishPiece 102 = .ok (.aload_n 2, 1) := by decide +kernel
theorem dX4_finishPiece_103 : decode cX4_finishPiece 103 = .ok (.invokevirtual 95, 3) := by decide +kernel
theorem dX4_finishPiece_106 : decode cX4_finishPiece 106 = .ok (.ifCond .le 9, 3) := by decide +kernel
theorem dX4_finishPiece_109 : decode cX4_finishPiece 109 = .ok (.aload_n 2, 1) := by decide +kernel
theorem dX4_finishPiece_110 : decode cX4_finishPiece 110 = .ok (.iconst 0, 1) := by decide +kernel
theorem dX4_finishPiece_111 : decode cX4_finishPiece 111 = .ok (.putfield 120, 3) := by decide +kernel
theorem dX4_finishPiece_114 : decode cX4_finishPiece 114 = .ok (.return_, 1) := by decide +kernel
theorem dX4_finishPiece_115 : decode cX4_finishPiece 115 = .ok (.aload_n 3, 1) := by decide +kernel
theorem dX4_finishPiece_116 : decode cX4_finishPiece 116 = .ok (.iload_n 1, 1) := by decide +kernel
theorem dX4_finishPiece_117 : decode cX4_finishPiece 117 = .ok (.invokevirtual 202, 3) := by decide +kernel
theorem dX4_finishPiece_120 : decode cX4_finishPiece 120 = .ok (.aload_n 2, 1) := by decide +kernel
theorem dX4_finishPiece_121 : decode cX4_finishPiece 121 = .ok (.getfield 186, 3) := by decide +kernel
theorem dX4_finishPiece_124 : decode cX4_finishPiece 124 = .ok (.iconst 1, 1) := by decide +kernel
theorem dX4_finishPiece_125 : decode cX4_finishPiece 125 = .ok (.if_icmp .le 30, 3) := by decide +kernel
theorem dX4_finishPiece_128 : decode cX4_finishPiece 128 = .ok (.aload_n 0, 1) := by decide +kernel
theorem dX4_finishPiece_129 : decode cX4_finishPiece 129 = .ok (.getfield 13, 3) := by decide +kernel
theorem dX4_finishPiece_132 : decode cX4_finishPiece 132 = .ok (.iconst 1, 1) := by decide +kernel
theorem dX4_finishPiece_133 : decode cX4_finishPiece 133 = .ok (.iaload, 1) := by decide +kernel
theorem dX4_finishPiece_134 : decode cX4_finishPiece 134 = .ok (.ifCond .le 21, 3) := by decide +kernel
theorem dX4_finishPiece_137 : decode cX4_finishPiece 137 = .ok (.aload_n 2, 1) := by decide +kernel
theorem dX4_finishPiece_138 : decode cX4_finishPiece 138 = .ok (.iconst 2, 1) := by decide +kernel
theorem dX4_finishPiece_139 : decode cX4_finishPiece 139 = .ok (.putfield 120, 3) := by decide +kernel
theorem dX4_finishPiece_142 : decode cX4_finishPiece 142 = .ok (.aload_n 0, 1) := by decide +kernel
theorem dX4_finishPiece_143 : decode cX4_finishPiece 143 = .ok (.dup, 1) := by decide +kernel
theorem dX4_finishPiece_144 : decode cX4_finishPiece 144 = .ok (.getfield 174, 3) := by decide +kernel
theorem dX4_finishPiece_147 : decode cX4_finishPiece 147 = .ok (.iconst 1, 1) := by decide +kernel
theorem dX4_finishPiece_148 : decode cX4_finishPiece 148 = .ok (.iadd, 1) := by decide +kernel
theorem dX4_finishPiece_149 : decode cX4_finishPiece 149 = .ok (.putfield 174, 3) := by decide +kernel
theorem dX4_finishPiece_152 : decode cX4_finishPiece 152 = .ok (.goto 8, 3) := by decide +kernel
theorem dX4_finishPiece_155 : decode cX4_finishPiece 155 = .ok (.aload_n 0, 1) := by decide +kernel
theorem dX4_finishPiece_156 : decode cX4_finishPiece 156 = .ok (.iload_n 1, 1) := by decide +kernel
theorem dX4_finishPiece_157 : decode cX4_finishPiece 157 = .ok (.invokevirtual 205, 3) := by decide +kernel
theorem dX4_finishPiece_160 : decode cX4_finishPiece 160 = .ok (.return_, 1) := by decide +kernel
theorem dX4_recordPiece_0 : decode cX4_recordPiece 0 = .ok (.aload_n 0, 1) := by decide +kernel
theorem dX4_recordPiece_1 : decode cX4_recordPiece 1 = .ok (.dup, 1) := by decide +kernel
theorem dX4_recordPiece_2 : decode cX4_recordPiece 2 = .ok (.getfield 208, 3) := by decide +kernel
theorem dX4_recordPiece_5 : decode cX4_recordPiece 5 = .ok (.aload_n 0, 1) := by decide +kernel
theorem dX4_recordPiece_6 : decode cX4_recordPiece 6 = .ok (.getfield 45, 3) := by decide +kernel
theorem dX4_recordPiece_9 : decode cX4_recordPiece 9 = .ok (.getfield 211, 3) := by decide +kernel
theorem dX4_recordPiece_12 : decode cX4_recordPiece 12 = .ok (.iadd, 1) := by decide +kernel
theorem dX4_recordPiece_13 : decode cX4_recordPiece 13 = .ok (.putfield 208, 3) := by decide +kernel
theorem dX4_recordPiece_16 : decode cX4_recordPiece 16 = .ok (.aload_n 0, 1) := by decide +kernel
theorem dX4_recordPiece_17 : decode cX4_recordPiece 17 = .ok (.getfield 45, 3) := by decide +kernel
theorem dX4_recordPiece_20 : decode cX4_recordPiece 20 = .ok (.aload_n 0, 1) := by decide +kernel
theorem dX4_recordPiece_21 : decode cX4_recordPiece 21 = .ok (.getfield 129, 3) := by decide +kernel
theorem dX4_recordPiece_24 : decode cX4_recordPiece 24 = .ok (.putfield 214, 3) := by decide +kernel
theorem dX4_recordPiece_27 : decode cX4_recordPiece 27 = .ok (.aload_n 0, 1) := by decide +kernel
theorem dX4_recordPiece_28 : decode cX4_recordPiece 28 = .ok (.aload_n 0, 1) := by decide +kernel
theorem dX4_recordPiece_29 : decode cX4_recordPiece 29 = .ok (.getfield 79, 3) := by decide +kernel
theorem dX4_recordPiece_32 : decode cX4_recordPiece 32 = .ok (.invokevirtual 217, 3) := by decide +kernel
theorem dX4_recordPiece_35 : decode cX4_recordPiece 35 = .ok (.aload_n 0, 1) := by decide +kernel
theorem dX4_recordPiece_36 : decode cX4_recordPiece 36 = .ok (.getfield 45, 3) := by decide +kernel
theorem dX4_recordPiece_39 : decode cX4_recordPiece 39 = .ok (.invokevirtual 221, 3) := by decide +kernel
theorem dX4_recordPiece_42 : decode cX4_recordPiece 42 = .ok (.aload_n 0, 1) := by decide +kernel
theorem dX4_recordPiece_43 : decode cX4_recordPiece 43 = .ok (.dup, 1) := by decide +kernel
theorem dX4_recordPiece_44 : decode cX4_recordPiece 44 = .ok (.getfield 79, 3) := by decide +kernel
theorem dX4_recordPiece_47 : decode cX4_recordPiece 47 = .ok (.iconst 1, 1) := by decide +kernel
theorem dX4_recordPiece_48 : decode cX4_recordPiece 48 = .ok (.iadd, 1) := by decide +kernel
theorem dX4_recordPiece_49 : decode cX4_recordPiece 49 = .ok (.putfield 79, 3) := by decide +kernel
theorem dX4_recordPiece_52 : decode cX4_recordPiece 52 = .ok (.aload_n 0, 1) := by decide +kernel
theorem dX4_recordPiece_53 : decode cX4_recordPiece 53 = .ok (.getfield 45, 3) := by decide +kernel
theorem dX4_recordPiece_56 : decode cX4_recordPiece 56 = .ok (.invokevirtual 225, 3) := by decide +kernel
theorem dX4_recordPiece_59 : decode cX4_recordPiece 59 = .ok (.return_, 1) := by decide +kernel
theorem dX4_deliver_0 : decode cX4_deliver 0 = .ok (.aload_n 0, 1) := by decide +kernel
theorem dX4_deliver_1 : decode cX4_deliver 1 = .ok (.iload_n 1, 1) := by decide +kernel
theorem dX4_deliver_2 : decode cX4_deliver 2 = .ok (.invokevirtual 91, 3) := by decide +kernel
theorem dX4_deliver_5 : decode cX4_deliver 5 = .ok (.astore_n 2, 1) := by decide +kernel
theorem dX4_deliver_6 : decode cX4_deliver 6 = .ok (.aload_n 2, 1) := by decide +kernel
theorem dX4_deliver_7 : decode cX4_deliver 7 = .ok (.iconst 3, 1) := by decide +kernel
theorem dX4_deliver_8 : decode cX4_deliver 8 = .ok (.putfield 120, 3) := by decide +kernel
theorem dX4_deliver_11 : decode cX4_deliver 11 = .ok (.aload_n 2, 1) := by decide +kernel
theorem dX4_deliver_12 : decode cX4_deliver 12 = .ok (.aload_n 0, 1) := by decide +kernel
theorem dX4_deliver_13 : decode cX4_deliver 13 = .ok (.getfield 129, 3) := by decide +kernel
theorem dX4_deliver_16 : decode cX4_deliver 16 = .ok (.putfield 228, 3) := by decide +kernel
theorem dX4_deliver_19 : decode cX4_deliver 19 = .ok (.aload_n 0, 1) := by decide +kernel
theorem dX4_deliver_20 : decode cX4_deliver 20 = .ok (.getfield 26, 3) := by decide +kernel
theorem dX4_deliver_23 : decode cX4_deliver 23 = .ok (.aload_n 2, 1) := by decide +kernel
theorem dX4_deliver_24 : decode cX4_deliver 24 = .ok (.getfield 180, 3) := by decide +kernel
theorem dX4_deliver_27 : decode cX4_deliver 27 = .ok (.aaload, 1) := by decide +kernel
theorem dX4_deliver_28 : decode cX4_deliver 28 = .ok (.aload_n 2, 1) := by decide +kernel
theorem dX4_deliver_29 : decode cX4_deliver 29 = .ok (.invokevirtual 231, 3) := by decide +kernel
theorem dX4_deliver_32 : decode cX4_deliver 32 = .ok (.aload_n 2, 1) := by decide +kernel
theorem dX4_deliver_33 : decode cX4_deliver 33 = .ok (.invokevirtual 234, 3) := by decide +kernel
theorem dX4_deliver_36 : decode cX4_deliver 36 = .ok (.invokevirtual 238, 3) := by decide +kernel
theorem dX4_deliver_39 : decode cX4_deliver 39 = .ok (.aload_n 0, 1) := by decide +kernel
theorem dX4_deliver_40 : decode cX4_deliver 40 = .ok (.getfield 56, 3) := by decide +kernel
theorem dX4_deliver_43 : decode cX4_deliver 43 = .ok (.bipush (-6), 2) := by decide +kernel
theorem dX4_deliver_45 : decode cX4_deliver 45 = .ok (.if_icmp .eq 11, 3) := by decide +kernel
theorem dX4_deliver_48 : decode cX4_deliver 48 = .ok (.iload_n 1, 1) := by decide +kernel
theorem dX4_deliver_49 : decode cX4_deliver 49 = .ok (.aload_n 0, 1) := by decide +kernel
theorem dX4_deliver_50 : decode cX4_deliver 50 = .ok (.getfield 56, 3) := by decide +kernel
theorem dX4_deliver_53 : decode cX4_deliver 53 = .ok (.if_icmp .ge 8, 3) := by decide +kernel
theorem dX4_deliver_56 : decode cX4_deliver 56 = .ok (.aload_n 0, 1) := by decide +kernel
theorem dX4_deliver_57 : decode cX4_deliver 57 = .ok (.iload_n 1, 1) := by decide +kernel
theorem dX4_deliver_58 : decode cX4_deliver 58 = .ok (.putfield 56, 3) := by decide +kernel
theorem dX4_deliver_61 : decode cX4_deliver 61 = .ok (.return_, 1) := by decide +kernel
theorem dX4_deliverJoined_0 : decode cX4_deliverJoined 0 = .ok (.aload_n 0, 1) := by decide +kernel
theorem dX4_deliverJoined_1 : decode cX4_deliverJoined 1 = .ok (.invokevirtual 72, 3) := by decide +kernel
theorem dX4_deliverJoined_4 : decode cX4_deliverJoined 4 = .ok (.istore_n 1, 1) := by decide +kernel
theorem dX4_deliverJoined_5 : decode cX4_deliverJoined 5 = .ok (.iload_n 1, 1) := by decide +kernel
theorem dX4_deliverJoined_6 : decode cX4_deliverJoined 6 = .ok (.aload_n 0, 1) := by decide +kernel
theorem dX4_deliverJoined_7 : decode cX4_deliverJoined 7 = .ok (.getfield 63, 3) := by decide +kernel
theorem dX4_deliverJoined_10 : decode cX4_deliverJoined 10 = .ok (.if_icmp .ge 56, 3) := by decide +kernel
theorem dX4_deliverJoined_13 : decode cX4_deliverJoined 13 = .ok (.aload_n 0, 1) := by decide +kernel
theorem dX4_deliverJoined_14 : decode cX4_deliverJoined 14 = .ok (.iload_n 1, 1) := by decide +kernel
theorem dX4_deliverJoined_15 : decode cX4_deliverJoined 15 = .ok (.invokevirtual 91, 3) := by decide +kernel
theorem dX4_deliverJoined_18 : decode cX4_deliverJoined 18 = .ok (.astore_n 2, 1) := by decide +kernel
theorem dX4_deliverJoined_19 : decode cX4_deliverJoined 19 = .ok (.aload_n 2, 1) := by decide +kernel
theorem dX4_deliverJoined_20 : decode cX4_deliverJoined 20 = .ok (.getfield 120, 3) := by decide +kernel
theorem dX4_deliverJoined_23 : decode cX4_deliverJoined 23 = .ok (.iconst 2, 1) := by decide +kernel
theorem dX4_deliverJoined_24 : decode cX4_deliverJoined 24 = .ok (.if_icmp .ne 36, 3) := by decide +kernel
theorem dX4_deliverJoined_27 : decode cX4_deliverJoined 27 = .ok (.aload_n 0, 1) := by decide +kernel
theorem dX4_deliverJoined_28 : decode cX4_deliverJoined 28 = .ok (.getfield 129, 3) := by decide +kernel
theorem dX4_deliverJoined_31 : decode cX4_deliverJoined 31 = .ok (.aload_n 2, 1) := by decide +kernel
theorem dX4_deliverJoined_32 : decode cX4_deliverJoined 32 = .ok (.getfield 195, 3) := by decide +kernel
theorem dX4_deliverJoined_35 : decode cX4_deliverJoined 35 = .ok (.isub, 1) := by decide +kernel
theorem dX4_deliverJoined_36 : decode cX4_deliverJoined 36 = .ok (.aload_n 0, 1) := by decide +kernel
theorem dX4_deliverJoined_37 : decode cX4_deliverJoined 37 = .ok (.getfield 13, 3) := by decide +kernel
theorem dX4_deliverJoined_40 : decode cX4_deliverJoined 40 = .ok (.iconst 1, 1) := by decide +kernel
theorem dX4_deliverJoined_41 : decode cX4_deliverJoined 41 = .ok (.iaload, 1) := by decide +kernel
theorem dX4_deliverJoined_42 : decode cX4_deliverJoined 42 = .ok (.if_icmp .lt 18, 3) := by decide +kernel
theorem dX4_deliverJoined_45 : decode cX4_deliverJoined 45 = .ok (.aload_n 0, 1) := by decide +kernel
theorem dX4_deliverJoined_46 : decode cX4_deliverJoined 46 = .ok (.dup, 1) := by decide +kernel
theorem dX4_deliverJoined_47 : decode cX4_deliverJoined 47 = .ok (.getfield 174, 3) := by decide +kernel
theorem dX4_deliverJoined_50 : decode cX4_deliverJoined 50 = .ok (.iconst 1, 1) := by decide +kernel
theorem dX4_deliverJoined_51 : decode cX4_deliverJoined 51 = .ok (.isub, 1) := by decide +kernel
theorem dX4_deliverJoined_52 : decode cX4_deliverJoined 52 = .ok (.putfield 174, 3) := by decide +kernel
theorem dX4_deliverJoined_55 : decode cX4_deliverJoined 55 = .ok (.aload_n 0, 1) := by decide +kernel
theorem dX4_deliverJoined_56 : decode cX4_deliverJoined 56 = .ok (.iload_n 1, 1) := by decide +kernel
theorem dX4_deliverJoined_57 : decode cX4_deliverJoined 57 = .ok (.invokevirtual 205, 3) := by decide +kernel
theorem dX4_deliverJoined_60 : decode cX4_deliverJoined 60 = .ok (.iinc 1 1, 3) := by decide +kernel
theorem dX4_deliverJoined_63 : decode cX4_deliverJoined 63 = .ok (.goto (-58), 3) := by decide +kernel
theorem dX4_deliverJoined_66 : decode cX4_deliverJoined 66 = .ok (.return_, 1) := by decide +kernel
theorem dX4_drainFluid_0 : decode cX4_drainFluid 0 = .ok (.iconst 0, 1) := by decide +kernel
theorem dX4_drainFluid_1 : decode cX4_drainFluid 1 = .ok (.istore_n 1, 1) := by decide +kernel
theorem dX4_drainFluid_2 : decode cX4_drainFluid 2 = .ok (.iconst 0, 1) := by decide +kernel
theorem dX4_drainFluid_3 : decode cX4_drainFluid 3 = .ok (.istore_n 2, 1) := by decide +kernel
theorem dX4_drainFluid_4 : decode cX4_drainFluid 4 = .ok (.iload_n 2, 1) := by decide +kernel
theorem dX4_drainFluid_5 : decode cX4_drainFluid 5 = .ok (.aload_n 0, 1) := by decide +kernel
theorem dX4_drainFluid_6 : decode cX4_drainFluid 6 = .ok (.getfield 60, 3) := by decide +kernel
theorem dX4_drainFluid_9 : decode cX4_drainFluid 9 = .ok (.if_icmp .ge 37, 3) := by decide +kernel
theorem dX4_drainFluid_12 : decode cX4_drainFluid 12 = .ok (.aload_n 0, 1) := by decide +kernel
theorem dX4_drainFluid_13 : decode cX4_drainFluid 13 = .ok (.getfield 26, 3) := by decide +kernel
theorem dX4_drainFluid_16 : decode cX4_drainFluid 16 = .ok (.iload_n 2, 1) := by decide +kernel
theorem dX4_drainFluid_17 : decode cX4_drainFluid 17 = .ok (.aaload, 1) := by decide +kernel
theorem dX4_drainFluid_18 : decode cX4_drainFluid 18 = .ok (.getfield 135, 3) := by decide +kernel
theorem dX4_drainFluid_21 : decode cX4_drainFluid 21 = .ok (.lconst 0, 1) := by decide +kernel
theorem dX4_drainFluid_22 : decode cX4_drainFluid 22 = .ok (.lcmp, 1) := by decide +kernel
theorem dX4_drainFluid_23 : decode cX4_drainFluid 23 = .ok (.ifCond .le 17, 3) := by decide +kernel
theorem dX4_drainFluid_26 : decode cX4_drainFluid 26 = .ok (.iload_n 1, 1) := by decide +kernel
theorem dX4_drainFluid_27 : decode cX4_drainFluid 27 = .ok (.aload_n 0, 1) := by decide +kernel
theorem dX4_drainFluid_28 : decode cX4_drainFluid 28 = .ok (.getfield 26, 3) := by decide +kernel
theorem dX4_drainFluid_31 : decode cX4_drainFluid 31 = .ok (.iload_n 2, 1) := by decide +kernel
theorem dX4_drainFluid_32 : decode cX4_drainFluid 32 = .ok (.aaload, 1) := by decide +kernel
theorem dX4_drainFluid_33 : decode cX4_drainFluid 33 = .ok (.getfield 119, 3) := by decide +kernel
theorem dX4_drainFluid_36 : decode cX4_drainFluid 36 = .ok (.iconst 0, 1) := by decide +kernel
theorem dX4_drainFluid_37 : decode cX4_drainFluid 37 = .ok (.iaload, 1) := by decide +kernel
theorem dX4_drainFluid_38 : decode cX4_drainFluid 38 = .ok (.iadd, 1) := by decide +kernel
theorem dX4_drainFluid_39 : decode cX4_drainFluid 39 = .ok (.istore_n 1, 1) := by decide +kernel
theorem dX4_drainFluid_40 : decode cX4_drainFluid 40 = .ok (.iinc 2 1, 3) := by decide +kernel
theorem dX4_drainFluid_43 : decode cX4_drainFluid 43 = .ok (.goto (-39), 3) := by decide +kernel
theorem dX4_drainFluid_46 : decode cX4_drainFluid 46 = .ok (.iload_n 1, 1) := by decide +kernel
theorem dX4_drainFluid_47 : decode cX4_drainFluid 47 = .ok (.ifCond .ne 4, 3) := by decide +kernel
theorem dX4_drainFluid_50 : decode cX4_drainFluid 50 = .ok (.return_, 1) := by decide +kernel
theorem dX4_drainFluid_51 : decode cX4_drainFluid 51 = .ok (.iconst 0, 1) := by decide +kernel
theorem dX4_drainFluid_52 : decode cX4_drainFluid 52 = .ok (.istore_n 2, 1) := by decide +kernel
theorem dX4_drainFluid_53 : decode cX4_drainFluid 53 = .ok (.iload_n 2, 1) := by decide +kernel
theorem dX4_drainFluid_54 : decode cX4_drainFluid 54 = .ok (.aload_n 0, 1) := by decide +kernel
theorem dX4_drainFluid_55 : decode cX4_drainFluid 55 = .ok (.getfield 60, 3) := by decide +kernel
theorem dX4_drainFluid_58 : decode cX4_drainFluid 58 = .ok (.if_icmp .ge 33, 3) := by decide +kernel
theorem dX4_drainFluid_61 : decode cX4_drainFluid 61 = .ok (.aload_n 0, 1) := by decide +kernel
theorem dX4_drainFluid_62 : decode cX4_drainFluid 62 = .ok (.getfield 26, 3) := by decide +kernel
theorem dX4_drainFluid_65 : decode cX4_drainFluid 65 = .ok (.iload_n 2, 1) := by decide +kernel
theorem dX4_drainFluid_66 : decode cX4_drainFluid 66 = .ok (.aaload, 1) := by decide +kernel
theorem dX4_drainFluid_67 : decode cX4_drainFluid 67 = .ok (.getfield 135, 3) := by decide +kernel
theorem dX4_drainFluid_70 : decode cX4_drainFluid 70 = .ok (.lconst 0, 1) := by decide +kernel
theorem dX4_drainFluid_71 : decode cX4_drainFluid 71 = .ok (.lcmp, 1) := by decide +kernel
theorem dX4_drainFluid_72 : decode cX4_drainFluid 72 = .ok (.ifCond .le 13, 3) := by decide +kernel
theorem dX4_drainFluid_75 : decode cX4_drainFluid 75 = .ok (.aload_n 0, 1) := by decide +kernel
theorem dX4_drainFluid_76 : decode cX4_drainFluid 76 = .ok (.getfield 26, 3) := by decide +kernel
theorem dX4_drainFluid_79 : decode cX4_drainFluid 79 = .ok (.iload_n 2, 1) := by decide +kernel
theorem dX4_drainFluid_80 : decode cX4_drainFluid 80 = .ok (.aaload, 1) := by decide +kernel
theorem dX4_drainFluid_81 : decode cX4_drainFluid 81 = .ok (.iload_n 1, 1) := by decide +kernel
theorem dX4_drainFluid_82 : decode cX4_drainFluid 82 = .ok (.invokevirtual 242, 3) := by decide +kernel
theorem dX4_drainFluid_85 : decode cX4_drainFluid 85 = .ok (.iinc 2 1, 3) := by decide +kernel
theorem dX4_drainFluid_88 : decode cX4_drainFluid 88 = .ok (.goto (-35), 3) := by decide +kernel
theorem dX4_drainFluid_91 : decode cX4_drainFluid 91 = .ok (.return_, 1) := by decide +kernel
theorem dX4_beginPieceIfFree_0 : decode cX4_beginPieceIfFree 0 = .ok (.aload_n 0, 1) := by decide +kernel
theorem dX4_beginPieceIfFree_1 : decode cX4_beginPieceIfFree 1 = .ok (.getfield 45, 3) := by decide +kernel
theorem dX4_beginPieceIfFree_4 : decode cX4_beginPieceIfFree 4 = .ok (.getfield 162, 3) := by decide +kernel
theorem dX4_beginPieceIfFree_7 : decode cX4_beginPieceIfFree 7 = .ok (.bipush (-6), 2) := by decide +kernel
theorem dX4_beginPieceIfFree_9 : decode cX4_beginPieceIfFree 9 = .ok (.if_icmp .eq 4, 3) := by decide +kernel
theorem dX4_beginPieceIfFree_12 : decode cX4_beginPieceIfFree 12 = .ok (.return_, 1) := by decide +kernel
theorem dX4_beginPieceIfFree_13 : decode cX4_beginPieceIfFree 13 = .ok (.aload_n 0, 1) := by decide +kernel
theorem dX4_beginPieceIfFree_14 : decode cX4_beginPieceIfFree 14 = .ok (.invokevirtual 245, 3) := by decide +kernel
theorem dX4_beginPieceIfFree_17 : decode cX4_beginPieceIfFree 17 = .ok (.istore_n 1, 1) := by decide +kernel
theorem dX4_beginPieceIfFree_18 : decode cX4_beginPieceIfFree 18 = .ok (.iload_n 1, 1) := by decide +kernel
theorem dX4_beginPieceIfFree_19 : decode cX4_beginPieceIfFree 19 = .ok (.bipush (-6), 2) := by decide +kernel
theorem dX4_beginPieceIfFree_21 : decode cX4_beginPieceIfFree 21 = .ok (.if_icmp .ne 10, 3) := by decide +kernel
theorem dX4_beginPieceIfFree_24 : decode cX4_beginPieceIfFree 24 = .ok (.aload_n 0, 1) := by decide +kernel
theorem dX4_beginPieceIfFree_25 : decode cX4_beginPieceIfFree 25 = .ok (.invokevirtual 248, 3) := by decide +kernel
theorem dX4_beginPieceIfFree_28 : decode cX4_beginPieceIfFree 28 = .ok (.goto 4, 3) := by decide +kernel
theorem dX4_beginPieceIfFree_31 : decode cX4_beginPieceIfFree 31 = .ok (.iload_n 1, 1) := by decide +kernel
theorem dX4_beginPieceIfFree_32 : decode cX4_beginPieceIfFree 32 = .ok (.istore_n 2, 1) := by decide +kernel
theorem dX4_beginPieceIfFree_33 : decode cX4_beginPieceIfFree 33 = .ok (.iload_n 2, 1) := by decide +kernel
theorem dX4_beginPieceIfFree_34 : decode cX4_beginPieceIfFree 34 = .ok (.bipush (-6), 2) := by decide +kernel
theorem dX4_beginPieceIfFree_36 : decode cX4_beginPieceIfFree 36 = .ok (.if_icmp .ne 4, 3) := by decide +kernel
theorem dX4_beginPieceIfFree_39 : decode cX4_beginPieceIfFree 39 = .ok (.return_, 1) := by decide +kernel
theorem dX4_beginPieceIfFree_40 : decode cX4_beginPieceIfFree 40 = .ok (.iload_n 1, 1) := by decide +kernel
theorem dX4_beginPieceIfFree_41 : decode cX4_beginPieceIfFree 41 = .ok (.bipush (-6), 2) := by decide +kernel
theorem dX4_beginPieceIfFree_43 : decode cX4_beginPieceIfFree 43 = .ok (.if_icmp .ne 24, 3) := by decide +kernel
theorem dX4_beginPieceIfFree_46 : decode cX4_beginPieceIfFree 46 = .ok (.aload_n 0, 1) := by decide +kernel
theorem dX4_beginPieceIfFree_47 : decode cX4_beginPieceIfFree 47 = .ok (.aload_n 0, 1) := by decide +kernel
theorem dX4_beginPieceIfFree_48 : decode cX4_beginPieceIfFree 48 = .ok (.getfield 123, 3) := by decide +kernel
theorem dX4_beginPieceIfFree_51 : decode cX4_beginPieceIfFree 51 = .ok (.aload_n 0, 1) := by decide +kernel
theorem dX4_beginPieceIfFree_52 : decode cX4_beginPieceIfFree 52 = .ok (.aload_n 0, 1) := by decide +kernel
theorem dX4_beginPieceIfFree_53 : decode cX4_beginPieceIfFree 53 = .ok (.getfield 26, 3) := by decide +kernel
theorem dX4_beginPieceIfFree_56 : decode cX4_beginPieceIfFree 56 = .ok (.iload_n 2, 1) := by decide +kernel
theorem dX4_beginPieceIfFree_57 : decode cX4_beginPieceIfFree 57 = .ok (.aaload, 1) := by decide +kernel
theorem dX4_beginPieceIfFree_58 : decode cX4_beginPieceIfFree 58 = .ok (.invokevirtual 251, 3) := by decide +kernel
theorem dX4_beginPieceIfFree_61 : decode cX4_beginPieceIfFree 61 = .ok (.invokestatic 126, 3) := by decide +kernel
theorem dX4_beginPieceIfFree_64 : decode cX4_beginPieceIfFree 64 = .ok (.putfield 123, 3) := by decide +kernel
theorem dX4_beginPieceIfFree_67 : decode cX4_beginPieceIfFree 67 = .ok (.aload_n 0, 1) := by decide +kernel
theorem dX4_beginPieceIfFree_68 : decode cX4_beginPieceIfFree 68 = .ok (.iload_n 2, 1) := by decide +kernel
theorem dX4_beginPieceIfFree_69 : decode cX4_beginPieceIfFree 69 = .ok (.iload_n 1, 1) := by decide +kernel
theorem dX4_beginPieceIfFree_70 : decode cX4_beginPieceIfFree 70 = .ok (.bipush (-6), 2) := by decide +kernel
theorem dX4_beginPieceIfFree_72 : decode cX4_beginPieceIfFree 72 = .ok (.if_icmp .eq 7, 3) := by decide +kernel
theorem dX4_beginPieceIfFree_75 : decode cX4_beginPieceIfFree 75 = .ok (.iconst 1, 1) := by decide +kernel
theorem dX4_beginPieceIfFree_76 : decode cX4_beginPieceIfFree 76 = .ok (.goto 4, 3) := by decide +kernel
theorem dX4_beginPieceIfFree_79 : decode cX4_beginPieceIfFree 79 = .ok (.iconst 0, 1) := by decide +kernel
theorem dX4_beginPieceIfFree_80 : decode cX4_beginPieceIfFree 80 = .ok (.invokevirtual 255, 3) := by decide +kernel
theorem dX4_beginPieceIfFree_83 : decode cX4_beginPieceIfFree 83 = .ok (.return_, 1) := by decide +kernel
theorem dX4_beginPiece_0 : decode cX4_beginPiece 0 = .ok (.aload_n 0, 1) := by decide +kernel
theorem dX4_beginPiece_1 : decode cX4_beginPiece 1 = .ok (.aload_n 0, 1) := by decide +kernel
theorem dX4_beginPiece_2 : decode cX4_beginPiece 2 = .ok (.getfield 26, 3) := by decide +kernel
theorem dX4_beginPiece_5 : decode cX4_beginPiece 5 = .ok (.iload_n 1, 1) := by decide +kernel
theorem dX4_beginPiece_6 : decode cX4_beginPiece 6 = .ok (.aaload, 1) := by decide +kernel
theorem dX4_beginPiece_7 : decode cX4_beginPiece 7 = .ok (.invokevirtual 102, 3) := by decide +kernel
theorem dX4_beginPiece_10 : decode cX4_beginPiece 10 = .ok (.invokevirtual 91, 3) := by decide +kernel
theorem dX4_beginPiece_13 : decode cX4_beginPiece 13 = .ok (.astore_n 3, 1) := by decide +kernel
theorem dX4_beginPiece_14 : decode cX4_beginPiece 14 = .ok (.aload_n 0, 1) := by decide +kernel
theorem dX4_beginPiece_15 : decode cX4_beginPiece 15 = .ok (.getfield 26, 3) := by decide +kernel
theorem dX4_beginPiece_18 : decode cX4_beginPiece 18 = .ok (.iload_n 1, 1) := by decide +kernel
theorem dX4_beginPiece_19 : decode cX4_beginPiece 19 = .ok (.aaload, 1) := by decide +kernel
theorem dX4_beginPiece_20 : decode cX4_beginPiece 20 = .ok (.getfield 119, 3) := by decide +kernel
theorem dX4_beginPiece_23 : decode cX4_beginPiece 23 = .ok (.iconst 2, 1) := by decide +kernel
theorem dX4_beginPiece_24 : decode cX4_beginPiece 24 = .ok (.iaload, 1) := by decide +kernel
theorem dX4_beginPiece_25 : decode cX4_beginPiece 25 = .ok (.istore 4, 2) := by decide +kernel
theorem dX4_beginPiece_27 : decode cX4_beginPiece 27 = .ok (.aload_n 3, 1) := by decide +kernel
theorem dX4_beginPiece_28 : decode cX4_beginPiece 28 = .ok (.iconst 1, 1) := by decide +kernel
theorem dX4_beginPiece_29 : decode cX4_beginPiece 29 = .ok (.putfield 120, 3) := by decide +kernel
theorem dX4_beginPiece_32 : decode cX4_beginPiece 32 = .ok (.aload_n 0, 1) := by decide +kernel
theorem dX4_beginPiece_33 : decode cX4_beginPiece 33 = .ok (.getfield 45, 3) := by decide +kernel
theorem dX4_beginPiece_36 : decode cX4_beginPiece 36 = .ok (.aload_n 0, 1) := by decide +kernel
theorem dX4_beginPiece_37 : decode cX4_beginPiece 37 = .ok (.getfield 26, 3) := by decide +kernel
theorem dX4_beginPiece_40 : decode cX4_beginPiece 40 = .ok (.iload_n 1, 1) := by decide +kernel
theorem dX4_beginPiece_41 : decode cX4_beginPiece 41 = .ok (.aaload, 1) := by decide +kernel
theorem dX4_beginPiece_42 : decode cX4_beginPiece 42 = .ok (.invokevirtual 102, 3) := by decide +kernel
theorem dX4_beginPiece_45 : decode cX4_beginPiece 45 = .ok (.putfield 162, 3) := by decide +kernel
theorem dX4_beginPiece_48 : decode cX4_beginPiece 48 = .ok (.aload_n 0, 1) := by decide +kernel
theorem dX4_beginPiece_49 : decode cX4_beginPiece 49 = .ok (.getfield 45, 3) := by decide +kernel
theorem dX4_beginPiece_52 : decode cX4_beginPiece 52 = .ok (.iload_n 1, 1) := by decide +kernel
theorem dX4_beginPiece_53 : decode cX4_beginPiece 53 = .ok (.putfield 258, 3) := by decide +kernel
theorem dX4_beginPiece_56 : decode cX4_beginPiece 56 = .ok (.aload_n 0, 1) := by decide +kernel
theorem dX4_beginPiece_57 : decode cX4_beginPiece 57 = .ok (.getfield 45, 3) := by decide +kernel
theorem dX4_beginPiece_60 : decode cX4_beginPiece 60 = .ok (.iload 4, 2) := by decide +kernel
theorem dX4_beginPiece_62 : decode cX4_beginPiece 62 = .ok (.ifCond .ne 10, 3) := by decide +kernel
theorem dX4_beginPiece_65 : decode cX4_beginPiece 65 = .ok (.aload_n 3, 1) := by decide +kernel
theorem dX4_beginPiece_66 : decode cX4_beginPiece 66 = .ok (.invokevirtual 95, 3) := by decide +kernel
theorem dX4_beginPiece_69 : decode cX4_beginPiece 69 = .ok (.goto 12, 3) := by decide +kernel
theorem dX4_beginPiece_72 : decode cX4_beginPiece 72 = .ok (.iload 4, 2) := by decide +kernel
theorem dX4_beginPiece_74 : decode cX4_beginPiece 74 = .ok (.aload_n 3, 1) := by decide +kernel
theorem dX4_beginPiece_75 : decode cX4_beginPiece 75 = .ok (.invokevirtual 95, 3) := by decide +kernel
theorem dX4_beginPiece_78 : decode cX4_beginPiece 78 = .ok (.invokestatic 259, 3) := by decide +kernel
theorem dX4_beginPiece_81 : decode cX4_beginPiece 81 = .ok (.putfield 183, 3) := by decide +kernel
theorem dX4_beginPiece_84 : decode cX4_beginPiece 84 = .ok (.aload_n 0, 1) := by decide +kernel
theorem dX4_beginPiece_85 : decode cX4_beginPiece 85 = .ok (.getfield 45, 3) := by decide +kernel
theorem dX4_beginPiece_88 : decode cX4_beginPiece 88 = .ok (.aload_n 0, 1) := by decide +kernel
theorem dX4_beginPiece_89 : decode cX4_beginPiece 89 = .ok (.getfield 13, 3) := by decide +kernel
theorem dX4_beginPiece_92 : decode cX4_beginPiece 92 = .ok (.iconst 0, 1) := by decide +kernel
theorem dX4_beginPiece_93 : decode cX4_beginPiece 93 = .ok (.iaload, 1) := by decide +kernel
theorem dX4_beginPiece_94 : decode cX4_beginPiece 94 = .ok (.putfield 211, 3) := by decide +kernel
theorem dX4_beginPiece_97 : decode cX4_beginPiece 97 = .ok (.aload_n 0, 1) := by decide +kernel
theorem dX4_beginPiece_98 : decode cX4_beginPiece 98 = .ok (.getfield 45, 3) := by decide +kernel
theorem dX4_beginPiece_101 : decode cX4_beginPiece 101 = .ok (.aload_n 0, 1) := by decide +kernel
theorem dX4_beginPiece_102 : decode cX4_beginPiece 102 = .ok (.getfield 45, 3) := by decide +kernel
theorem dX4_beginPiece_105 : decode cX4_beginPiece 105 = .ok (.getfield 211, 3) := by decide +kernel
theorem dX4_beginPiece_108 : decode cX4_beginPiece 108 = .ok (.aload_n 0, 1) := by decide +kernel
theorem dX4_beginPiece_109 : decode cX4_beginPiece 109 = .ok (.getfield 45, 3) := by decide +kernel
theorem dX4_beginPiece_112 : decode cX4_beginPiece 112 = .ok (.getfield 183, 3) := by decide +kernel
theorem dX4_beginPiece_115 : decode cX4_beginPiece 115 = .ok (.iadd, 1) := by decide +kernel
theorem dX4_beginPiece_116 : decode cX4_beginPiece 116 = .ok (.putfield 168, 3) := by decide +kernel
theorem dX4_beginPiece_119 : decode cX4_beginPiece 119 = .ok (.aload_n 0, 1) := by decide +kernel
theorem dX4_beginPiece_120 : decode cX4_beginPiece 120 = .ok (.getfield 45, 3) := by decide +kernel
theorem dX4_beginPiece_123 : decode cX4_beginPiece 123 = .ok (.iload_n 2, 1) := by decide +kernel
theorem dX4_beginPiece_124 : decode cX4_beginPiece 124 = .ok (.putfield 191, 3) := by decide +kernel
theorem dX4_beginPiece_127 : decode cX4_beginPiece 127 = .ok (.return_, 1) := by decide +kernel
theorem dX4_nextFlow_0 : decode cX4_nextFlow 0 = .ok (.aload_n 0, 1) := by decide +kernel
theorem dX4_nextFlow_1 : decode cX4_nextFlow 1 = .ok (.invokevirtual 245, 3) := by decide +kernel
theorem dX4_nextFlow_4 : decode cX4_nextFlow 4 = .ok (.istore_n 1, 1) := by decide +kernel
theorem dX4_nextFlow_5 : decode cX4_nextFlow 5 = .ok (.iload_n 1, 1) := by decide +kernel
theorem dX4_nextFlow_6 : decode cX4_nextFlow 6 = .ok (.bipush (-6), 2) := by decide +kernel
theorem dX4_nextFlow_8 : decode cX4_nextFlow 8 = .ok (.if_icmp .ne 10, 3) := by decide +kernel
theorem dX4_nextFlow_11 : decode cX4_nextFlow 11 = .ok (.aload_n 0, 1) := by decide +kernel
theorem dX4_nextFlow_12 : decode cX4_nextFlow 12 = .ok (.invokevirtual 248, 3) := by decide +kernel
theorem dX4_nextFlow_15 : decode cX4_nextFlow 15 = .ok (.goto 4, 3) := by decide +kernel
theorem dX4_nextFlow_18 : decode cX4_nextFlow 18 = .ok (.iload_n 1, 1) := by decide +kernel
theorem dX4_nextFlow_19 : decode cX4_nextFlow 19 = .ok (.ireturn, 1) := by decide +kernel
theorem dX4_urgentFlow_0 : decode cX4_urgentFlow 0 = .ok (.bipush (-6), 2) := by decide +kernel
theorem dX4_urgentFlow_2 : decode cX4_urgentFlow 2 = .ok (.istore_n 1, 1) := by decide +kernel
theorem dX4_urgentFlow_3 : decode cX4_urgentFlow 3 = .ok (.iconst 0, 1) := by decide +kernel
theorem dX4_urgentFlow_4 : decode cX4_urgentFlow 4 = .ok (.istore_n 2, 1) := by decide +kernel
theorem dX4_urgentFlow_5 : decode cX4_urgentFlow 5 = .ok (.iconst 0, 1) := by decide +kernel
theorem dX4_urgentFlow_6 : decode cX4_urgentFlow 6 = .ok (.istore_n 3, 1) := by decide +kernel
theorem dX4_urgentFlow_7 : decode cX4_urgentFlow 7 = .ok (.iload_n 3, 1) := by decide +kernel
theorem dX4_urgentFlow_8 : decode cX4_urgentFlow 8 = .ok (.aload_n 0, 1) := by decide +kernel
theorem dX4_urgentFlow_9 : decode cX4_urgentFlow 9 = .ok (.getfield 60, 3) := by decide +kernel
theorem dX4_urgentFlow_12 : decode cX4_urgentFlow 12 = .ok (.if_icmp .ge 68, 3) := by decide +kernel
theorem dX4_urgentFlow_15 : decode cX4_urgentFlow 15 = .ok (.aload_n 0, 1) := by decide +kernel
theorem dX4_urgentFlow_16 : decode cX4_urgentFlow 16 = .ok (.getfield 26, 3) := by decide +kernel
theorem dX4_urgentFlow_19 : decode cX4_urgentFlow 19 = .ok (.iload_n 3, 1) := by decide +kernel
theorem dX4_urgentFlow_20 : decode cX4_urgentFlow 20 = .ok (.aaload, 1) := by decide +kernel
theorem dX4_urgentFlow_21 : decode cX4_urgentFlow 21 = .ok (.getfield 85, 3) := by decide +kernel
theorem dX4_urgentFlow_24 : decode cX4_urgentFlow 24 = .ok (.ifCond .le 50, 3) := by decide +kernel
theorem dX4_urgentFlow_27 : decode cX4_urgentFlow 27 = .ok (.aload_n 0, 1) := by decide +kernel
theorem dX4_urgentFlow_28 : decode cX4_urgentFlow 28 = .ok (.aload_n 0, 1) := by decide +kernel
theorem dX4_urgentFlow_29 : decode cX4_urgentFlow 29 = .ok (.getfield 26, 3) := by decide +kernel
theorem dX4_urgentFlow_32 : decode cX4_urgentFlow 32 = .ok (.iload_n 3, 1) := by decide +kernel
theorem dX4_urgentFlow_33 : decode cX4_urgentFlow 33 = .ok (.aaload, 1) := by decide +kernel
theorem dX4_urgentFlow_34 : decode cX4_urgentFlow 34 = .ok (.invokevirtual 102, 3) := by decide +kernel
theorem dX4_urgentFlow_37 : decode cX4_urgentFlow 37 = .ok (.invokevirtual 91, 3) := by decide +kernel
theorem dX4_urgentFlow_40 : decode cX4_urgentFlow 40 = .ok (.astore 4, 2) := by decide +kernel
theorem dX4_urgentFlow_42 : decode cX4_urgentFlow 42 = .ok (.aload_n 0, 1) := by decide +kernel
theorem dX4_urgentFlow_43 : decode cX4_urgentFlow 43 = .ok (.aload 4, 2) := by decide +kernel
theorem dX4_urgentFlow_45 : decode cX4_urgentFlow 45 = .ok (.invokevirtual 262, 3) := by decide +kernel
theorem dX4_urgentFlow_48 : decode cX4_urgentFlow 48 = .ok (.ifCond .eq 26, 3) := by decide +kernel
theorem dX4_urgentFlow_51 : decode cX4_urgentFlow 51 = .ok (.iload_n 1, 1) := by decide +kernel
theorem dX4_urgentFlow_52 : decode cX4_urgentFlow 52 = .ok (.bipush (-6), 2) := by decide +kernel
theorem dX4_urgentFlow_54 : decode cX4_urgentFlow 54 = .ok (.if_icmp .eq 12, 3) := by decide +kernel
theorem dX4_urgentFlow_57 : decode cX4_urgentFlow 57 = .ok (.aload 4, 2) := by decide +kernel
theorem dX4_urgentFlow_59 : decode cX4_urgentFlow 59 = .ok (.getfield 266, 3) := by decide +kernel
theorem dX4_urgentFlow_62 : decode cX4_urgentFlow 62 = .ok (.iload_n 2, 1) := by decide +kernel
theorem dX4_urgentFlow_63 : decode cX4_urgentFlow 63 = .ok (.if_icmp .ge 11, 3) := by decide +kernel
theorem dX4_urgentFlow_66 : decode cX4_urgentFlow 66 = .ok (.iload_n 3, 1) := by decide +kernel
theorem dX4_urgentFlow_67 : decode cX4_urgentFlow 67 = .ok (.istore_n 1, 1) := by decide +kernel
theorem dX4_urgentFlow_68 : decode cX4_urgentFlow 68 = .ok (.aload 4, 2) := by decide +kernel
theorem dX4_urgentFlow_70 : decode cX4_urgentFlow 70 = .ok (.getfield 266, 3) := by decide +kernel
theorem dX4_urgentFlow_73 : decode cX4_urgentFlow 73 = .ok (.istore_n 2, 1) := by decide +kernel
theorem dX4_urgentFlow_74 : decode cX4_urgentFlow 74 = .ok (.iinc 3 1, 3) := by decide +kernel
theorem dX4_urgentFlow_77 : decode cX4_urgentFlow 77 = .ok (.goto (-70), 3) := by decide +kernel
theorem dX4_urgentFlow_80 : decode cX4_urgentFlow 80 = .ok (.iload_n 1, 1) := by decide +kernel
theorem dX4_urgentFlow_81 : decode cX4_urgentFlow 81 = .ok (.ireturn, 1) := by decide +kernel
theorem dX4_leastTagFlow_0 : decode cX4_leastTagFlow 0 = .ok (.bipush (-6), 2) := by decide +kernel
theorem dX4_leastTagFlow_2 : decode cX4_leastTagFlow 2 = .ok (.istore_n 1, 1) := by decide +kernel
theorem dX4_leastTagFlow_3 : decode cX4_leastTagFlow 3 = .ok (.lconst 0, 1) := by decide +kernel
theorem dX4_leastTagFlow_4 : decode cX4_leastTagFlow 4 = .ok (.lstore_n 2, 1) := by decide +kernel
theorem dX4_leastTagFlow_5 : decode cX4_leastTagFlow 5 = .ok (.iconst 0, 1) := by decide +kernel
theorem dX4_leastTagFlow_6 : decode cX4_leastTagFlow 6 = .ok (.istore 4, 2) := by decide +kernel
theorem dX4_leastTagFlow_8 : decode cX4_leastTagFlow 8 = .ok (.iload 4, 2) := by decide +kernel
theorem dX4_leastTagFlow_10 : decode cX4_leastTagFlow 10 = .ok (.aload_n 0, 1) := by decide +kernel
theorem dX4_leastTagFlow_11 : decode cX4_leastTagFlow 11 = .ok (.getfield 60, 3) := by decide +kernel
theorem dX4_leastTagFlow_14 : decode cX4_leastTagFlow 14 = .ok (.if_icmp .ge 54, 3) := by decide +kernel
theorem dX4_leastTagFlow_17 : decode cX4_leastTagFlow 17 = .ok (.aload_n 0, 1) := by decide +kernel
theorem dX4_leastTagFlow_18 : decode cX4_leastTagFlow 18 = .ok (.getfield 26, 3) := by decide +kernel
theorem dX4_leastTagFlow_21 : decode cX4_leastTagFlow 21 = .ok (.iload 4, 2) := by decide +kernel
theorem dX4_leastTagFlow_23 : decode cX4_leastTagFlow 23 = .ok (.aaload, 1) := by decide +kernel
theorem dX4_leastTagFlow_24 : decode cX4_leastTagFlow 24 = .ok (.getfield 85, 3) := by decide +kernel
theorem dX4_leastTagFlow_27 : decode cX4_leastTagFlow 27 = .ok (.ifCond .le 35, 3) := by decide +kernel
theorem dX4_leastTagFlow_30 : decode cX4_leastTagFlow 30 = .ok (.aload_n 0, 1) := by decide +kernel
theorem dX4_leastTagFlow_31 : decode cX4_leastTagFlow 31 = .ok (.aload_n 0, 1) := by decide +kernel
theorem dX4_leastTagFlow_32 : decode cX4_leastTagFlow 32 = .ok (.getfield 26, 3) := by decide +kernel
theorem dX4_leastTagFlow_35 : decode cX4_leastTagFlow 35 = .ok (.iload 4, 2) := by decide +kernel
theorem dX4_leastTagFlow_37 : decode cX4_leastTagFlow 37 = .ok (.aaload, 1) := by decide +kernel
theorem dX4_leastTagFlow_38 : decode cX4_leastTagFlow 38 = .ok (.invokevirtual 251, 3) := by decide +kernel
end
section
theorem dX4_leastTagFlow_41 : decode cX4_leastTagFlow 41 = .ok (.lstore 5, 2) := by decide +kernel
theorem dX4_leastTagFlow_43 : decode cX4_leastTagFlow 43 = .ok (.iload_n 1, 1) := by decide +kernel
theorem dX4_leastTagFlow_44 : decode cX4_leastTagFlow 44 = .ok (.bipush (-6), 2) := by decide +kernel
theorem dX4_leastTagFlow_46 : decode cX4_leastTagFlow 46 = .ok (.if_icmp .eq 10, 3) := by decide +kernel
theorem dX4_leastTagFlow_49 : decode cX4_leastTagFlow 49 = .ok (.lload 5, 2) := by decide +kernel
theorem dX4_leastTagFlow_51 : decode cX4_leastTagFlow 51 = .ok (.lload_n 2, 1) := by decide +kernel
theorem dX4_leastTagFlow_52 : decode cX4_leastTagFlow 52 = .ok (.lcmp, 1) := by decide +kernel
theorem dX4_leastTagFlow_53 : decode cX4_leastTagFlow 53 = .ok (.ifCond .ge 9, 3) := by decide +kernel
theorem dX4_leastTagFlow_56 : decode cX4_leastTagFlow 56 = .ok (.iload 4, 2) := by decide +kernel
theorem dX4_leastTagFlow_58 : decode cX4_leastTagFlow 58 = .ok (.istore_n 1, 1) := by decide +kernel
theorem dX4_leastTagFlow_59 : decode cX4_leastTagFlow 59 = .ok (.lload 5, 2) := by decide +kernel
theorem dX4_leastTagFlow_61 : decode cX4_leastTagFlow 61 = .ok (.lstore_n 2, 1) := by decide +kernel
theorem dX4_leastTagFlow_62 : decode cX4_leastTagFlow 62 = .ok (.iinc 4 1, 3) := by decide +kernel
theorem dX4_leastTagFlow_65 : decode cX4_leastTagFlow 65 = .ok (.goto (-57), 3) := by decide +kernel
theorem dX4_leastTagFlow_68 : decode cX4_leastTagFlow 68 = .ok (.iload_n 1, 1) := by decide +kernel
theorem dX4_leastTagFlow_69 : decode cX4_leastTagFlow 69 = .ok (.ireturn, 1) := by decide +kernel
theorem dX4_isUrgent_0 : decode cX4_isUrgent 0 = .ok (.aload_n 0, 1) := by decide +kernel
theorem dX4_isUrgent_1 : decode cX4_isUrgent 1 = .ok (.getfield 13, 3) := by decide +kernel
theorem dX4_isUrgent_4 : decode cX4_isUrgent 4 = .ok (.iconst 3, 1) := by decide +kernel
theorem dX4_isUrgent_5 : decode cX4_isUrgent 5 = .ok (.iaload, 1) := by decide +kernel
theorem dX4_isUrgent_6 : decode cX4_isUrgent 6 = .ok (.ifCond .eq 12, 3) := by decide +kernel
theorem dX4_isUrgent_9 : decode cX4_isUrgent 9 = .ok (.aload_n 1, 1) := by decide +kernel
theorem dX4_isUrgent_10 : decode cX4_isUrgent 10 = .ok (.getfield 266, 3) := by decide +kernel
theorem dX4_isUrgent_13 : decode cX4_isUrgent 13 = .ok (.bipush (-6), 2) := by decide +kernel
theorem dX4_isUrgent_15 : decode cX4_isUrgent 15 = .ok (.if_icmp .ne 5, 3) := by decide +kernel
theorem dX4_isUrgent_18 : decode cX4_isUrgent 18 = .ok (.iconst 0, 1) := by decide +kernel
theorem dX4_isUrgent_19 : decode cX4_isUrgent 19 = .ok (.ireturn, 1) := by decide +kernel
theorem dX4_isUrgent_20 : decode cX4_isUrgent 20 = .ok (.aload_n 0, 1) := by decide +kernel
theorem dX4_isUrgent_21 : decode cX4_isUrgent 21 = .ok (.getfield 129, 3) := by decide +kernel
theorem dX4_isUrgent_24 : decode cX4_isUrgent 24 = .ok (.aload_n 0, 1) := by decide +kernel
theorem dX4_isUrgent_25 : decode cX4_isUrgent 25 = .ok (.aload_n 1, 1) := by decide +kernel
theorem dX4_isUrgent_26 : decode cX4_isUrgent 26 = .ok (.invokevirtual 269, 3) := by decide +kernel
theorem dX4_isUrgent_29 : decode cX4_isUrgent 29 = .ok (.iadd, 1) := by decide +kernel
theorem dX4_isUrgent_30 : decode cX4_isUrgent 30 = .ok (.aload_n 0, 1) := by decide +kernel
theorem dX4_isUrgent_31 : decode cX4_isUrgent 31 = .ok (.getfield 13, 3) := by decide +kernel
theorem dX4_isUrgent_34 : decode cX4_isUrgent 34 = .ok (.iconst 2, 1) := by decide +kernel
theorem dX4_isUrgent_35 : decode cX4_isUrgent 35 = .ok (.iaload, 1) := by decide +kernel
theorem dX4_isUrgent_36 : decode cX4_isUrgent 36 = .ok (.iadd, 1) := by decide +kernel
theorem dX4_isUrgent_37 : decode cX4_isUrgent 37 = .ok (.aload_n 1, 1) := by decide +kernel
theorem dX4_isUrgent_38 : decode cX4_isUrgent 38 = .ok (.getfield 266, 3) := by decide +kernel
theorem dX4_isUrgent_41 : decode cX4_isUrgent 41 = .ok (.if_icmp .lt 7, 3) := by decide +kernel
theorem dX4_isUrgent_44 : decode cX4_isUrgent 44 = .ok (.iconst 1, 1) := by decide +kernel
theorem dX4_isUrgent_45 : decode cX4_isUrgent 45 = .ok (.goto 4, 3) := by decide +kernel
theorem dX4_isUrgent_48 : decode cX4_isUrgent 48 = .ok (.iconst 0, 1) := by decide +kernel
theorem dX4_isUrgent_49 : decode cX4_isUrgent 49 = .ok (.ireturn, 1) := by decide +kernel
theorem dX4_ticksOfRest_0 : decode cX4_ticksOfRest 0 = .ok (.aload_n 1, 1) := by decide +kernel
theorem dX4_ticksOfRest_1 : decode cX4_ticksOfRest 1 = .ok (.invokevirtual 95, 3) := by decide +kernel
theorem dX4_ticksOfRest_4 : decode cX4_ticksOfRest 4 = .ok (.istore_n 2, 1) := by decide +kernel
theorem dX4_ticksOfRest_5 : decode cX4_ticksOfRest 5 = .ok (.aload_n 0, 1) := by decide +kernel
theorem dX4_ticksOfRest_6 : decode cX4_ticksOfRest 6 = .ok (.getfield 26, 3) := by decide +kernel
theorem dX4_ticksOfRest_9 : decode cX4_ticksOfRest 9 = .ok (.aload_n 1, 1) := by decide +kernel
theorem dX4_ticksOfRest_10 : decode cX4_ticksOfRest 10 = .ok (.getfield 180, 3) := by decide +kernel
theorem dX4_ticksOfRest_13 : decode cX4_ticksOfRest 13 = .ok (.aaload, 1) := by decide +kernel
theorem dX4_ticksOfRest_14 : decode cX4_ticksOfRest 14 = .ok (.getfield 119, 3) := by decide +kernel
theorem dX4_ticksOfRest_17 : decode cX4_ticksOfRest 17 = .ok (.iconst 2, 1) := by decide +kernel
theorem dX4_ticksOfRest_18 : decode cX4_ticksOfRest 18 = .ok (.iaload, 1) := by decide +kernel
theorem dX4_ticksOfRest_19 : decode cX4_ticksOfRest 19 = .ok (.istore_n 3, 1) := by decide +kernel
theorem dX4_ticksOfRest_20 : decode cX4_ticksOfRest 20 = .ok (.iload_n 3, 1) := by decide +kernel
theorem dX4_ticksOfRest_21 : decode cX4_ticksOfRest 21 = .ok (.iconst 1, 1) := by decide +kernel
theorem dX4_ticksOfRest_22 : decode cX4_ticksOfRest 22 = .ok (.if_icmp .lt 8, 3) := by decide +kernel
theorem dX4_ticksOfRest_25 : decode cX4_ticksOfRest 25 = .ok (.iload_n 2, 1) := by decide +kernel
theorem dX4_ticksOfRest_26 : decode cX4_ticksOfRest 26 = .ok (.iload_n 3, 1) := by decide +kernel
theorem dX4_ticksOfRest_27 : decode cX4_ticksOfRest 27 = .ok (.if_icmp .gt 12, 3) := by decide +kernel
theorem dX4_ticksOfRest_30 : decode cX4_ticksOfRest 30 = .ok (.aload_n 0, 1) := by decide +kernel
theorem dX4_ticksOfRest_31 : decode cX4_ticksOfRest 31 = .ok (.getfield 13, 3) := by decide +kernel
theorem dX4_ticksOfRest_34 : decode cX4_ticksOfRest 34 = .ok (.iconst 0, 1) := by decide +kernel
theorem dX4_ticksOfRest_35 : decode cX4_ticksOfRest 35 = .ok (.iaload, 1) := by decide +kernel
theorem dX4_ticksOfRest_36 : decode cX4_ticksOfRest 36 = .ok (.iload_n 2, 1) := by decide +kernel
theorem dX4_ticksOfRest_37 : decode cX4_ticksOfRest 37 = .ok (.iadd, 1) := by decide +kernel
theorem dX4_ticksOfRest_38 : decode cX4_ticksOfRest 38 = .ok (.ireturn, 1) := by decide +kernel
theorem dX4_ticksOfRest_39 : decode cX4_ticksOfRest 39 = .ok (.iload_n 2, 1) := by decide +kernel
theorem dX4_ticksOfRest_40 : decode cX4_ticksOfRest 40 = .ok (.aload_n 0, 1) := by decide +kernel
theorem dX4_ticksOfRest_41 : decode cX4_ticksOfRest 41 = .ok (.getfield 13, 3) := by decide +kernel
theorem dX4_ticksOfRest_44 : decode cX4_ticksOfRest 44 = .ok (.iconst 0, 1) := by decide +kernel
theorem dX4_ticksOfRest_45 : decode cX4_ticksOfRest 45 = .ok (.iaload, 1) := by decide +kernel
theorem dX4_ticksOfRest_46 : decode cX4_ticksOfRest 46 = .ok (.iload_n 2, 1) := by decide +kernel
theorem dX4_ticksOfRest_47 : decode cX4_ticksOfRest 47 = .ok (.iload_n 3, 1) := by decide +kernel
theorem dX4_ticksOfRest_48 : decode cX4_ticksOfRest 48 = .ok (.iadd, 1) := by decide +kernel
theorem dX4_ticksOfRest_49 : decode cX4_ticksOfRest 49 = .ok (.iconst 1, 1) := by decide +kernel
theorem dX4_ticksOfRest_50 : decode cX4_ticksOfRest 50 = .ok (.isub, 1) := by decide +kernel
theorem dX4_ticksOfRest_51 : decode cX4_ticksOfRest 51 = .ok (.iload_n 3, 1) := by decide +kernel
theorem dX4_ticksOfRest_52 : decode cX4_ticksOfRest 52 = .ok (.idiv, 1) := by decide +kernel
theorem dX4_ticksOfRest_53 : decode cX4_ticksOfRest 53 = .ok (.imul, 1) := by decide +kernel
theorem dX4_ticksOfRest_54 : decode cX4_ticksOfRest 54 = .ok (.iadd, 1) := by decide +kernel
theorem dX4_ticksOfRest_55 : decode cX4_ticksOfRest 55 = .ok (.ireturn, 1) := by decide +kernel
theorem dX4_copyFrom_0 : decode cX4_copyFrom 0 = .ok (.aload_n 1, 1) := by decide +kernel
theorem dX4_copyFrom_1 : decode cX4_copyFrom 1 = .ok (.getfield 13, 3) := by decide +kernel
theorem dX4_copyFrom_4 : decode cX4_copyFrom 4 = .ok (.iconst 0, 1) := by decide +kernel
theorem dX4_copyFrom_5 : decode cX4_copyFrom 5 = .ok (.aload_n 0, 1) := by decide +kernel
theorem dX4_copyFrom_6 : decode cX4_copyFrom 6 = .ok (.getfield 13, 3) := by decide +kernel
theorem dX4_copyFrom_9 : decode cX4_copyFrom 9 = .ok (.iconst 0, 1) := by decide +kernel
theorem dX4_copyFrom_10 : decode cX4_copyFrom 10 = .ok (.aload_n 0, 1) := by decide +kernel
theorem dX4_copyFrom_11 : decode cX4_copyFrom 11 = .ok (.getfield 13, 3) := by decide +kernel
theorem dX4_copyFrom_14 : decode cX4_copyFrom 14 = .ok (.arraylength, 1) := by decide +kernel
theorem dX4_copyFrom_15 : decode cX4_copyFrom 15 = .ok (.invokestatic 18, 3) := by decide +kernel
theorem dX4_copyFrom_18 : decode cX4_copyFrom 18 = .ok (.iconst 0, 1) := by decide +kernel
theorem dX4_copyFrom_19 : decode cX4_copyFrom 19 = .ok (.istore_n 2, 1) := by decide +kernel
theorem dX4_copyFrom_20 : decode cX4_copyFrom 20 = .ok (.iload_n 2, 1) := by decide +kernel
theorem dX4_copyFrom_21 : decode cX4_copyFrom 21 = .ok (.aload_n 1, 1) := by decide +kernel
theorem dX4_copyFrom_22 : decode cX4_copyFrom 22 = .ok (.getfield 60, 3) := by decide +kernel
theorem dX4_copyFrom_25 : decode cX4_copyFrom 25 = .ok (.if_icmp .ge 24, 3) := by decide +kernel
theorem dX4_copyFrom_28 : decode cX4_copyFrom 28 = .ok (.aload_n 0, 1) := by decide +kernel
theorem dX4_copyFrom_29 : decode cX4_copyFrom 29 = .ok (.getfield 26, 3) := by decide +kernel
theorem dX4_copyFrom_32 : decode cX4_copyFrom 32 = .ok (.iload_n 2, 1) := by decide +kernel
theorem dX4_copyFrom_33 : decode cX4_copyFrom 33 = .ok (.aaload, 1) := by decide +kernel
theorem dX4_copyFrom_34 : decode cX4_copyFrom 34 = .ok (.aload_n 1, 1) := by decide +kernel
theorem dX4_copyFrom_35 : decode cX4_copyFrom 35 = .ok (.getfield 26, 3) := by decide +kernel
theorem dX4_copyFrom_38 : decode cX4_copyFrom 38 = .ok (.iload_n 2, 1) := by decide +kernel
theorem dX4_copyFrom_39 : decode cX4_copyFrom 39 = .ok (.aaload, 1) := by decide +kernel
theorem dX4_copyFrom_40 : decode cX4_copyFrom 40 = .ok (.invokevirtual 273, 3) := by decide +kernel
theorem dX4_copyFrom_43 : decode cX4_copyFrom 43 = .ok (.iinc 2 1, 3) := by decide +kernel
theorem dX4_copyFrom_46 : decode cX4_copyFrom 46 = .ok (.goto (-26), 3) := by decide +kernel
theorem dX4_copyFrom_49 : decode cX4_copyFrom 49 = .ok (.aload_n 1, 1) := by decide +kernel
theorem dX4_copyFrom_50 : decode cX4_copyFrom 50 = .ok (.invokevirtual 72, 3) := by decide +kernel
theorem dX4_copyFrom_53 : decode cX4_copyFrom 53 = .ok (.istore_n 2, 1) := by decide +kernel
theorem dX4_copyFrom_54 : decode cX4_copyFrom 54 = .ok (.iload_n 2, 1) := by decide +kernel
theorem dX4_copyFrom_55 : decode cX4_copyFrom 55 = .ok (.aload_n 1, 1) := by decide +kernel
theorem dX4_copyFrom_56 : decode cX4_copyFrom 56 = .ok (.getfield 63, 3) := by decide +kernel
theorem dX4_copyFrom_59 : decode cX4_copyFrom 59 = .ok (.if_icmp .ge 22, 3) := by decide +kernel
theorem dX4_copyFrom_62 : decode cX4_copyFrom 62 = .ok (.aload_n 0, 1) := by decide +kernel
theorem dX4_copyFrom_63 : decode cX4_copyFrom 63 = .ok (.iload_n 2, 1) := by decide +kernel
theorem dX4_copyFrom_64 : decode cX4_copyFrom 64 = .ok (.invokevirtual 91, 3) := by decide +kernel
theorem dX4_copyFrom_67 : decode cX4_copyFrom 67 = .ok (.aload_n 1, 1) := by decide +kernel
theorem dX4_copyFrom_68 : decode cX4_copyFrom 68 = .ok (.iload_n 2, 1) := by decide +kernel
theorem dX4_copyFrom_69 : decode cX4_copyFrom 69 = .ok (.invokevirtual 91, 3) := by decide +kernel
theorem dX4_copyFrom_72 : decode cX4_copyFrom 72 = .ok (.invokevirtual 276, 3) := by decide +kernel
theorem dX4_copyFrom_75 : decode cX4_copyFrom 75 = .ok (.iinc 2 1, 3) := by decide +kernel
theorem dX4_copyFrom_78 : decode cX4_copyFrom 78 = .ok (.goto (-24), 3) := by decide +kernel
theorem dX4_copyFrom_81 : decode cX4_copyFrom 81 = .ok (.aload_n 1, 1) := by decide +kernel
theorem dX4_copyFrom_82 : decode cX4_copyFrom 82 = .ok (.invokevirtual 82, 3) := by decide +kernel
theorem dX4_copyFrom_85 : decode cX4_copyFrom 85 = .ok (.istore_n 2, 1) := by decide +kernel
theorem dX4_copyFrom_86 : decode cX4_copyFrom 86 = .ok (.iload_n 2, 1) := by decide +kernel
theorem dX4_copyFrom_87 : decode cX4_copyFrom 87 = .ok (.aload_n 1, 1) := by decide +kernel
theorem dX4_copyFrom_88 : decode cX4_copyFrom 88 = .ok (.getfield 79, 3) := by decide +kernel
theorem dX4_copyFrom_91 : decode cX4_copyFrom 91 = .ok (.if_icmp .ge 22, 3) := by decide +kernel
theorem dX4_copyFrom_94 : decode cX4_copyFrom 94 = .ok (.aload_n 0, 1) := by decide +kernel
theorem dX4_copyFrom_95 : decode cX4_copyFrom 95 = .ok (.iload_n 2, 1) := by decide +kernel
theorem dX4_copyFrom_96 : decode cX4_copyFrom 96 = .ok (.invokevirtual 217, 3) := by decide +kernel
theorem dX4_copyFrom_99 : decode cX4_copyFrom 99 = .ok (.aload_n 1, 1) := by decide +kernel
theorem dX4_copyFrom_100 : decode cX4_copyFrom 100 = .ok (.iload_n 2, 1) := by decide +kernel
theorem dX4_copyFrom_101 : decode cX4_copyFrom 101 = .ok (.invokevirtual 217, 3) := by decide +kernel
theorem dX4_copyFrom_104 : decode cX4_copyFrom 104 = .ok (.invokevirtual 221, 3) := by decide +kernel
theorem dX4_copyFrom_107 : decode cX4_copyFrom 107 = .ok (.iinc 2 1, 3) := by decide +kernel
theorem dX4_copyFrom_110 : decode cX4_copyFrom 110 = .ok (.goto (-24), 3) := by decide +kernel
theorem dX4_copyFrom_113 : decode cX4_copyFrom 113 = .ok (.aload_n 0, 1) := by decide +kernel
theorem dX4_copyFrom_114 : decode cX4_copyFrom 114 = .ok (.getfield 45, 3) := by decide +kernel
theorem dX4_copyFrom_117 : decode cX4_copyFrom 117 = .ok (.aload_n 1, 1) := by decide +kernel
theorem dX4_copyFrom_118 : decode cX4_copyFrom 118 = .ok (.getfield 45, 3) := by decide +kernel
theorem dX4_copyFrom_121 : decode cX4_copyFrom 121 = .ok (.invokevirtual 221, 3) := by decide +kernel
theorem dX4_copyFrom_124 : decode cX4_copyFrom 124 = .ok (.aload_n 0, 1) := by decide +kernel
theorem dX4_copyFrom_125 : decode cX4_copyFrom 125 = .ok (.getfield 52, 3) := by decide +kernel
theorem dX4_copyFrom_128 : decode cX4_copyFrom 128 = .ok (.aload_n 1, 1) := by decide +kernel
theorem dX4_copyFrom_129 : decode cX4_copyFrom 129 = .ok (.getfield 52, 3) := by decide +kernel
theorem dX4_copyFrom_132 : decode cX4_copyFrom 132 = .ok (.invokevirtual 279, 3) := by decide +kernel
theorem dX4_copyFrom_135 : decode cX4_copyFrom 135 = .ok (.aload_n 0, 1) := by decide +kernel
theorem dX4_copyFrom_136 : decode cX4_copyFrom 136 = .ok (.aload_n 1, 1) := by decide +kernel
theorem dX4_copyFrom_137 : decode cX4_copyFrom 137 = .ok (.getfield 129, 3) := by decide +kernel
theorem dX4_copyFrom_140 : decode cX4_copyFrom 140 = .ok (.putfield 129, 3) := by decide +kernel
theorem dX4_copyFrom_143 : decode cX4_copyFrom 143 = .ok (.aload_n 0, 1) := by decide +kernel
theorem dX4_copyFrom_144 : decode cX4_copyFrom 144 = .ok (.aload_n 1, 1) := by decide +kernel
theorem dX4_copyFrom_145 : decode cX4_copyFrom 145 = .ok (.getfield 60, 3) := by decide +kernel
theorem dX4_copyFrom_148 : decode cX4_copyFrom 148 = .ok (.putfield 60, 3) := by decide +kernel
theorem dX4_copyFrom_151 : decode cX4_copyFrom 151 = .ok (.aload_n 0, 1) := by decide +kernel
theorem dX4_copyFrom_152 : decode cX4_copyFrom 152 = .ok (.aload_n 1, 1) := by decide +kernel
theorem dX4_copyFrom_153 : decode cX4_copyFrom 153 = .ok (.getfield 63, 3) := by decide +kernel
theorem dX4_copyFrom_156 : decode cX4_copyFrom 156 = .ok (.putfield 63, 3) := by decide +kernel
theorem dX4_copyFrom_159 : decode cX4_copyFrom 159 = .ok (.aload_n 0, 1) := by decide +kernel
theorem dX4_copyFrom_160 : decode cX4_copyFrom 160 = .ok (.aload_n 1, 1) := by decide +kernel
theorem dX4_copyFrom_161 : decode cX4_copyFrom 161 = .ok (.getfield 79, 3) := by decide +kernel
theorem dX4_copyFrom_164 : decode cX4_copyFrom 164 = .ok (.putfield 79, 3) := by decide +kernel
theorem dX4_copyFrom_167 : decode cX4_copyFrom 167 = .ok (.aload_n 0, 1) := by decide +kernel
theorem dX4_copyFrom_168 : decode cX4_copyFrom 168 = .ok (.aload_n 1, 1) := by decide +kernel
theorem dX4_copyFrom_169 : decode cX4_copyFrom 169 = .ok (.getfield 165, 3) := by decide +kernel
theorem dX4_copyFrom_172 : decode cX4_copyFrom 172 = .ok (.putfield 165, 3) := by decide +kernel
theorem dX4_copyFrom_175 : decode cX4_copyFrom 175 = .ok (.aload_n 0, 1) := by decide +kernel
theorem dX4_copyFrom_176 : decode cX4_copyFrom 176 = .ok (.aload_n 1, 1) := by decide +kernel
theorem dX4_copyFrom_177 : decode cX4_copyFrom 177 = .ok (.getfield 208, 3) := by decide +kernel
theorem dX4_copyFrom_180 : decode cX4_copyFrom 180 = .ok (.putfield 208, 3) := by decide +kernel
theorem dX4_copyFrom_183 : decode cX4_copyFrom 183 = .ok (.aload_n 0, 1) := by decide +kernel
theorem dX4_copyFrom_184 : decode cX4_copyFrom 184 = .ok (.aload_n 1, 1) := by decide +kernel
theorem dX4_copyFrom_185 : decode cX4_copyFrom 185 = .ok (.getfield 174, 3) := by decide +kernel
theorem dX4_copyFrom_188 : decode cX4_copyFrom 188 = .ok (.putfield 174, 3) := by decide +kernel
theorem dX4_copyFrom_191 : decode cX4_copyFrom 191 = .ok (.aload_n 0, 1) := by decide +kernel
theorem dX4_copyFrom_192 : decode cX4_copyFrom 192 = .ok (.aload_n 1, 1) := by decide +kernel
theorem dX4_copyFrom_193 : decode cX4_copyFrom 193 = .ok (.getfield 56, 3) := by decide +kernel
theorem dX4_copyFrom_196 : decode cX4_copyFrom 196 = .ok (.putfield 56, 3) := by decide +kernel
theorem dX4_copyFrom_199 : decode cX4_copyFrom 199 = .ok (.aload_n 0, 1) := by decide +kernel
theorem dX4_copyFrom_200 : decode cX4_copyFrom 200 = .ok (.aload_n 1, 1) := by decide +kernel
theorem dX4_copyFrom_201 : decode cX4_copyFrom 201 = .ok (.getfield 123, 3) := by decide +kernel
theorem dX4_copyFrom_204 : decode cX4_copyFrom 204 = .ok (.putfield 123, 3) := by decide +kernel
theorem dX4_copyFrom_207 : decode cX4_copyFrom 207 = .ok (.return_, 1) := by decide +kernel
theorem dX5_init_0 : decode cX5_init 0 = .ok (.aload_n 0, 1) := by decide +kernel
theorem dX5_init_1 : decode cX5_init 1 = .ok (.invokespecial 1, 3) := by decide +kernel
theorem dX5_init_4 : decode cX5_init 4 = .ok (.aload_n 0, 1) := by decide +kernel
theorem dX5_init_5 : decode cX5_init 5 = .ok (.new 7, 3) := by decide +kernel
theorem dX5_init_8 : decode cX5_init 8 = .ok (.dup, 1) := by decide +kernel
theorem dX5_init_9 : decode cX5_init 9 = .ok (.invokespecial 9, 3) := by decide +kernel
theorem dX5_init_12 : decode cX5_init 12 = .ok (.putfield 10, 3) := by decide +kernel
theorem dX5_init_15 : decode cX5_init 15 = .ok (.aload_n 0, 1) := by decide +kernel
theorem dX5_init_16 : decode cX5_init 16 = .ok (.iconst 2, 1) := by decide +kernel
theorem dX5_init_17 : decode cX5_init 17 = .ok (.anewarray 7, 3) := by decide +kernel
theorem dX5_init_20 : decode cX5_init 20 = .ok (.putfield 16, 3) := by decide +kernel
theorem dX5_init_23 : decode cX5_init 23 = .ok (.aload_n 0, 1) := by decide +kernel
theorem dX5_init_24 : decode cX5_init 24 = .ok (.aconst_null, 1) := by decide +kernel
theorem dX5_init_25 : decode cX5_init 25 = .ok (.putfield 20, 3) := by decide +kernel
theorem dX5_init_28 : decode cX5_init 28 = .ok (.return_, 1) := by decide +kernel
theorem dX5_addFlow_0 : decode cX5_addFlow 0 = .ok (.iload_n 1, 1) := by decide +kernel
theorem dX5_addFlow_1 : decode cX5_addFlow 1 = .ok (.iconst 1, 1) := by decide +kernel
theorem dX5_addFlow_2 : decode cX5_addFlow 2 = .ok (.if_icmp .lt 9, 3) := by decide +kernel
theorem dX5_addFlow_5 : decode cX5_addFlow 5 = .ok (.iload_n 1, 1) := by decide +kernel
theorem dX5_addFlow_6 : decode cX5_addFlow 6 = .ok (.bipush 16, 2) := by decide +kernel
theorem dX5_addFlow_8 : decode cX5_addFlow 8 = .ok (.if_icmp .le 6, 3) := by decide +kernel
theorem dX5_addFlow_11 : decode cX5_addFlow 11 = .ok (.bipush (-2), 2) := by decide +kernel
theorem dX5_addFlow_13 : decode cX5_addFlow 13 = .ok (.ireturn, 1) := by decide +kernel
theorem dX5_addFlow_14 : decode cX5_addFlow 14 = .ok (.aload_n 0, 1) := by decide +kernel
theorem dX5_addFlow_15 : decode cX5_addFlow 15 = .ok (.getfield 10, 3) := by decide +kernel
theorem dX5_addFlow_18 : decode cX5_addFlow 18 = .ok (.getfield 23, 3) := by decide +kernel
theorem dX5_addFlow_21 : decode cX5_addFlow 21 = .ok (.bipush 6, 2) := by decide +kernel
theorem dX5_addFlow_23 : decode cX5_addFlow 23 = .ok (.if_icmp .lt 6, 3) := by decide +kernel
theorem dX5_addFlow_26 : decode cX5_addFlow 26 = .ok (.bipush (-4), 2) := by decide +kernel
theorem dX5_addFlow_28 : decode cX5_addFlow 28 = .ok (.ireturn, 1) := by decide +kernel
theorem dX5_addFlow_29 : decode cX5_addFlow 29 = .ok (.aload_n 0, 1) := by decide +kernel
theorem dX5_addFlow_30 : decode cX5_addFlow 30 = .ok (.getfield 10, 3) := by decide +kernel
theorem dX5_addFlow_33 : decode cX5_addFlow 33 = .ok (.iload_n 1, 1) := by decide +kernel
theorem dX5_addFlow_34 : decode cX5_addFlow 34 = .ok (.invokevirtual 27, 3) := by decide +kernel
theorem dX5_addFlow_37 : decode cX5_addFlow 37 = .ok (.ireturn, 1) := by decide +kernel
theorem dX5_set_0 : decode cX5_set 0 = .ok (.aload_n 0, 1) := by decide +kernel
theorem dX5_set_1 : decode cX5_set 1 = .ok (.getfield 10, 3) := by decide +kernel
theorem dX5_set_4 : decode cX5_set 4 = .ok (.iload_n 1, 1) := by decide +kernel
theorem dX5_set_5 : decode cX5_set 5 = .ok (.invokevirtual 31, 3) := by decide +kernel
theorem dX5_set_8 : decode cX5_set 8 = .ok (.ifCond .ne 5, 3) := by decide +kernel
theorem dX5_set_11 : decode cX5_set 11 = .ok (.iconst (-1), 1) := by decide +kernel
theorem dX5_set_12 : decode cX5_set 12 = .ok (.ireturn, 1) := by decide +kernel
theorem dX5_set_13 : decode cX5_set 13 = .ok (.iload_n 2, 1) := by decide +kernel
theorem dX5_set_14 : decode cX5_set 14 = .ok (.ifCond .lt 8, 3) := by decide +kernel
theorem dX5_set_17 : decode cX5_set 17 = .ok (.iload_n 2, 1) := by decide +kernel
theorem dX5_set_18 : decode cX5_set 18 = .ok (.iconst 4, 1) := by decide +kernel
theorem dX5_set_19 : decode cX5_set 19 = .ok (.if_icmp .le 6, 3) := by decide +kernel
theorem dX5_set_22 : decode cX5_set 22 = .ok (.bipush (-2), 2) := by decide +kernel
theorem dX5_set_24 : decode cX5_set 24 = .ok (.ireturn, 1) := by decide +kernel
theorem dX5_set_25 : decode cX5_set 25 = .ok (.iload_n 3, 1) := by decide +kernel
theorem dX5_set_26 : decode cX5_set 26 = .ok (.getstatic 35, 3) := by decide +kernel
theorem dX5_set_29 : decode cX5_set 29 = .ok (.iload_n 2, 1) := by decide +kernel
theorem dX5_set_30 : decode cX5_set 30 = .ok (.iaload, 1) := by decide +kernel
theorem dX5_set_31 : decode cX5_set 31 = .ok (.if_icmp .lt 12, 3) := by decide +kernel
theorem dX5_set_34 : decode cX5_set 34 = .ok (.iload_n 3, 1) := by decide +kernel
theorem dX5_set_35 : decode cX5_set 35 = .ok (.getstatic 39, 3) := by decide +kernel
theorem dX5_set_38 : decode cX5_set 38 = .ok (.iload_n 2, 1) := by decide +kernel
theorem dX5_set_39 : decode cX5_set 39 = .ok (.iaload, 1) := by decide +kernel
theorem dX5_set_40 : decode cX5_set 40 = .ok (.if_icmp .le 6, 3) := by decide +kernel
theorem dX5_set_43 : decode cX5_set 43 = .ok (.bipush (-2), 2) := by decide +kernel
theorem dX5_set_45 : decode cX5_set 45 = .ok (.ireturn, 1) := by decide +kernel
theorem dX5_set_46 : decode cX5_set 46 = .ok (.aload_n 0, 1) := by decide +kernel
theorem dX5_set_47 : decode cX5_set 47 = .ok (.getfield 10, 3) := by decide +kernel
theorem dX5_set_50 : decode cX5_set 50 = .ok (.getfield 42, 3) := by decide +kernel
theorem dX5_set_53 : decode cX5_set 53 = .ok (.iload_n 1, 1) := by decide +kernel
theorem dX5_set_54 : decode cX5_set 54 = .ok (.aaload, 1) := by decide +kernel
theorem dX5_set_55 : decode cX5_set 55 = .ok (.getfield 46, 3) := by decide +kernel
theorem dX5_set_58 : decode cX5_set 58 = .ok (.iload_n 2, 1) := by decide +kernel
theorem dX5_set_59 : decode cX5_set 59 = .ok (.iaload, 1) := by decide +kernel
theorem dX5_set_60 : decode cX5_set 60 = .ok (.istore 4, 2) := by decide +kernel
theorem dX5_set_62 : decode cX5_set 62 = .ok (.aload_n 0, 1) := by decide +kernel
theorem dX5_set_63 : decode cX5_set 63 = .ok (.getfield 10, 3) := by decide +kernel
theorem dX5_set_66 : decode cX5_set 66 = .ok (.getfield 42, 3) := by decide +kernel
theorem dX5_set_69 : decode cX5_set 69 = .ok (.iload_n 1, 1) := by decide +kernel
theorem dX5_set_70 : decode cX5_set 70 = .ok (.aaload, 1) := by decide +kernel
theorem dX5_set_71 : decode cX5_set 71 = .ok (.getfield 46, 3) := by decide +kernel
theorem dX5_set_74 : decode cX5_set 74 = .ok (.iload_n 2, 1) := by decide +kernel
theorem dX5_set_75 : decode cX5_set 75 = .ok (.iload_n 3, 1) := by decide +kernel
theorem dX5_set_76 : decode cX5_set 76 = .ok (.iastore, 1) := by decide +kernel
theorem dX5_set_77 : decode cX5_set 77 = .ok (.iload 4, 2) := by decide +kernel
theorem dX5_set_79 : decode cX5_set 79 = .ok (.ireturn, 1) := by decide +kernel
theorem dX5_rule_0 : decode cX5_rule 0 = .ok (.iload_n 1, 1) := by decide +kernel
theorem dX5_rule_1 : decode cX5_rule 1 = .ok (.ifCond .lt 8, 3) := by decide +kernel
theorem dX5_rule_4 : decode cX5_rule 4 = .ok (.iload_n 1, 1) := by decide +kernel
theorem dX5_rule_5 : decode cX5_rule 5 = .ok (.iconst 3, 1) := by decide +kernel
theorem dX5_rule_6 : decode cX5_rule 6 = .ok (.if_icmp .le 6, 3) := by decide +kernel
theorem dX5_rule_9 : decode cX5_rule 9 = .ok (.bipush (-2), 2) := by decide +kernel
theorem dX5_rule_11 : decode cX5_rule 11 = .ok (.ireturn, 1) := by decide +kernel
theorem dX5_rule_12 : decode cX5_rule 12 = .ok (.iload_n 2, 1) := by decide +kernel
theorem dX5_rule_13 : decode cX5_rule 13 = .ok (.ifCond .lt 12, 3) := by decide +kernel
theorem dX5_rule_16 : decode cX5_rule 16 = .ok (.iload_n 2, 1) := by decide +kernel
theorem dX5_rule_17 : decode cX5_rule 17 = .ok (.getstatic 51, 3) := by decide +kernel
theorem dX5_rule_20 : decode cX5_rule 20 = .ok (.iload_n 1, 1) := by decide +kernel
theorem dX5_rule_21 : decode cX5_rule 21 = .ok (.iaload, 1) := by decide +kernel
theorem dX5_rule_22 : decode cX5_rule 22 = .ok (.if_icmp .le 6, 3) := by decide +kernel
theorem dX5_rule_25 : decode cX5_rule 25 = .ok (.bipush (-2), 2) := by decide +kernel
theorem dX5_rule_27 : decode cX5_rule 27 = .ok (.ireturn, 1) := by decide +kernel
theorem dX5_rule_28 : decode cX5_rule 28 = .ok (.aload_n 0, 1) := by decide +kernel
theorem dX5_rule_29 : decode cX5_rule 29 = .ok (.getfield 10, 3) := by decide +kernel
theorem dX5_rule_32 : decode cX5_rule 32 = .ok (.getfield 54, 3) := by decide +kernel
theorem dX5_rule_35 : decode cX5_rule 35 = .ok (.iload_n 1, 1) := by decide +kernel
theorem dX5_rule_36 : decode cX5_rule 36 = .ok (.iaload, 1) := by decide +kernel
theorem dX5_rule_37 : decode cX5_rule 37 = .ok (.istore_n 3, 1) := by decide +kernel
theorem dX5_rule_38 : decode cX5_rule 38 = .ok (.aload_n 0, 1) := by decide +kernel
theorem dX5_rule_39 : decode cX5_rule 39 = .ok (.getfield 10, 3) := by decide +kernel
theorem dX5_rule_42 : decode cX5_rule 42 = .ok (.getfield 54, 3) := by decide +kernel
theorem dX5_rule_45 : decode cX5_rule 45 = .ok (.iload_n 1, 1) := by decide +kernel
theorem dX5_rule_46 : decode cX5_rule 46 = .ok (.iload_n 2, 1) := by decide +kernel
theorem dX5_rule_47 : decode cX5_rule 47 = .ok (.iastore, 1) := by decide +kernel
theorem dX5_rule_48 : decode cX5_rule 48 = .ok (.iload_n 3, 1) := by decide +kernel
theorem dX5_rule_49 : decode cX5_rule 49 = .ok (.ireturn, 1) := by decide +kernel
theorem dX5_offer_0 : decode cX5_offer 0 = .ok (.aload_n 0, 1) := by decide +kernel
theorem dX5_offer_1 : decode cX5_offer 1 = .ok (.getfield 10, 3) := by decide +kernel
theorem dX5_offer_4 : decode cX5_offer 4 = .ok (.iload_n 1, 1) := by decide +kernel
theorem dX5_offer_5 : decode cX5_offer 5 = .ok (.invokevirtual 31, 3) := by decide +kernel
theorem dX5_offer_8 : decode cX5_offer 8 = .ok (.ifCond .ne 5, 3) := by decide +kernel
theorem dX5_offer_11 : decode cX5_offer 11 = .ok (.iconst (-1), 1) := by decide +kernel
theorem dX5_offer_12 : decode cX5_offer 12 = .ok (.ireturn, 1) := by decide +kernel
theorem dX5_offer_13 : decode cX5_offer 13 = .ok (.iload_n 2, 1) := by decide +kernel
theorem dX5_offer_14 : decode cX5_offer 14 = .ok (.iconst 1, 1) := by decide +kernel
theorem dX5_offer_15 : decode cX5_offer 15 = .ok (.if_icmp .lt 21, 3) := by decide +kernel
theorem dX5_offer_18 : decode cX5_offer 18 = .ok (.iload_n 2, 1) := by decide +kernel
theorem dX5_offer_19 : decode cX5_offer 19 = .ok (.sipush 2000, 3) := by decide +kernel
theorem dX5_offer_22 : decode cX5_offer 22 = .ok (.if_icmp .gt 14, 3) := by decide +kernel
theorem dX5_offer_25 : decode cX5_offer 25 = .ok (.iload_n 3, 1) := by decide +kernel
theorem dX5_offer_26 : decode cX5_offer 26 = .ok (.ifCond .lt 10, 3) := by decide +kernel
theorem dX5_offer_29 : decode cX5_offer 29 = .ok (.iload_n 3, 1) := by decide +kernel
theorem dX5_offer_30 : decode cX5_offer 30 = .ok (.sipush 9999, 3) := by decide +kernel
theorem dX5_offer_33 : decode cX5_offer 33 = .ok (.if_icmp .le 6, 3) := by decide +kernel
theorem dX5_offer_36 : decode cX5_offer 36 = .ok (.bipush (-2), 2) := by decide +kernel
theorem dX5_offer_38 : decode cX5_offer 38 = .ok (.ireturn, 1) := by decide +kernel
theorem dX5_offer_39 : decode cX5_offer 39 = .ok (.aload_n 0, 1) := by decide +kernel
theorem dX5_offer_40 : decode cX5_offer 40 = .ok (.getfield 10, 3) := by decide +kernel
theorem dX5_offer_43 : decode cX5_offer 43 = .ok (.iload_n 1, 1) := by decide +kernel
theorem dX5_offer_44 : decode cX5_offer 44 = .ok (.invokevirtual 55, 3) := by decide +kernel
theorem dX5_offer_47 : decode cX5_offer 47 = .ok (.ifCond .ne 6, 3) := by decide +kernel
theorem dX5_offer_50 : decode cX5_offer 50 = .ok (.bipush (-4), 2) := by decide +kernel
theorem dX5_offer_52 : decode cX5_offer 52 = .ok (.ireturn, 1) := by decide +kernel
theorem dX5_offer_53 : decode cX5_offer 53 = .ok (.aload_n 0, 1) := by decide +kernel
theorem dX5_offer_54 : decode cX5_offer 54 = .ok (.getfield 10, 3) := by decide +kernel
theorem dX5_offer_57 : decode cX5_offer 57 = .ok (.iload_n 1, 1) := by decide +kernel
theorem dX5_offer_58 : decode cX5_offer 58 = .ok (.iload_n 2, 1) := by decide +kernel
theorem dX5_offer_59 : decode cX5_offer 59 = .ok (.iload_n 3, 1) := by decide +kernel
theorem dX5_offer_60 : decode cX5_offer 60 = .ok (.invokevirtual 58, 3) := by decide +kernel
theorem dX5_offer_63 : decode cX5_offer 63 = .ok (.ireturn, 1) := by decide +kernel
theorem dX5_cancel_0 : decode cX5_cancel 0 = .ok (.aload_n 0, 1) := by decide +kernel
theorem dX5_cancel_1 : decode cX5_cancel 1 = .ok (.getfield 10, 3) := by decide +kernel
theorem dX5_cancel_4 : decode cX5_cancel 4 = .ok (.iload_n 1, 1) := by decide +kernel
theorem dX5_cancel_5 : decode cX5_cancel 5 = .ok (.invokevirtual 62, 3) := by decide +kernel
theorem dX5_cancel_8 : decode cX5_cancel 8 = .ok (.ifCond .ne 5, 3) := by decide +kernel
theorem dX5_cancel_11 : decode cX5_cancel 11 = .ok (.iconst (-1), 1) := by decide +kernel
theorem dX5_cancel_12 : decode cX5_cancel 12 = .ok (.ireturn, 1) := by decide +kernel
theorem dX5_cancel_13 : decode cX5_cancel 13 = .ok (.aload_n 0, 1) := by decide +kernel
theorem dX5_cancel_14 : decode cX5_cancel 14 = .ok (.getfield 10, 3) := by decide +kernel
theorem dX5_cancel_17 : decode cX5_cancel 17 = .ok (.iload_n 1, 1) := by decide +kernel
theorem dX5_cancel_18 : decode cX5_cancel 18 = .ok (.invokevirtual 65, 3) := by decide +kernel
theorem dX5_cancel_21 : decode cX5_cancel 21 = .ok (.astore_n 2, 1) := by decide +kernel
theorem dX5_cancel_22 : decode cX5_cancel 22 = .ok (.aload_n 2, 1) := by decide +kernel
theorem dX5_cancel_23 : decode cX5_cancel 23 = .ok (.getfield 69, 3) := by decide +kernel
theorem dX5_cancel_26 : decode cX5_cancel 26 = .ok (.ifCond .ne 10, 3) := by decide +kernel
theorem dX5_cancel_29 : decode cX5_cancel 29 = .ok (.aload_n 2, 1) := by decide +kernel
theorem dX5_cancel_30 : decode cX5_cancel 30 = .ok (.getfield 74, 3) := by decide +kernel
theorem dX5_cancel_33 : decode cX5_cancel 33 = .ok (.ifCond .le 6, 3) := by decide +kernel
theorem dX5_cancel_36 : decode cX5_cancel 36 = .ok (.bipush (-5), 2) := by decide +kernel
theorem dX5_cancel_38 : decode cX5_cancel 38 = .ok (.ireturn, 1) := by decide +kernel
theorem dX5_cancel_39 : decode cX5_cancel 39 = .ok (.aload_n 0, 1) := by decide +kernel
theorem dX5_cancel_40 : decode cX5_cancel 40 = .ok (.getfield 10, 3) := by decide +kernel
theorem dX5_cancel_43 : decode cX5_cancel 43 = .ok (.getfield 42, 3) := by decide +kernel
theorem dX5_cancel_46 : decode cX5_cancel 46 = .ok (.aload_n 2, 1) := by decide +kernel
theorem dX5_cancel_47 : decode cX5_cancel 47 = .ok (.getfield 77, 3) := by decide +kernel
theorem dX5_cancel_50 : decode cX5_cancel 50 = .ok (.aaload, 1) := by decide +kernel
theorem dX5_cancel_51 : decode cX5_cancel 51 = .ok (.astore_n 3, 1) := by decide +kernel
theorem dX5_cancel_52 : decode cX5_cancel 52 = .ok (.aload_n 2, 1) := by decide +kernel
theorem dX5_cancel_53 : decode cX5_cancel 53 = .ok (.iconst 4, 1) := by decide +kernel
theorem dX5_cancel_54 : decode cX5_cancel 54 = .ok (.putfield 69, 3) := by decide +kernel
theorem dX5_cancel_57 : decode cX5_cancel 57 = .ok (.aload_n 3, 1) := by decide +kernel
theorem dX5_cancel_58 : decode cX5_cancel 58 = .ok (.iload_n 1, 1) := by decide +kernel
theorem dX5_cancel_59 : decode cX5_cancel 59 = .ok (.invokevirtual 80, 3) := by decide +kernel
theorem dX5_cancel_62 : decode cX5_cancel 62 = .ok (.aload_n 3, 1) := by decide +kernel
theorem dX5_cancel_63 : decode cX5_cancel 63 = .ok (.getfield 84, 3) := by decide +kernel
theorem dX5_cancel_66 : decode cX5_cancel 66 = .ok (.ireturn, 1) := by decide +kernel
theorem dX5_packet_0 : decode cX5_packet 0 = .ok (.aload_n 0, 1) := by decide +kernel
theorem dX5_packet_1 : decode cX5_packet 1 = .ok (.getfield 10, 3) := by decide +kernel
theorem dX5_packet_4 : decode cX5_packet 4 = .ok (.iload_n 1, 1) := by decide +kernel
theorem dX5_packet_5 : decode cX5_packet 5 = .ok (.invokevirtual 62, 3) := by decide +kernel
theorem dX5_packet_8 : decode cX5_packet 8 = .ok (.ifCond .ne 5, 3) := by decide +kernel
theorem dX5_packet_11 : decode cX5_packet 11 = .ok (.iconst (-1), 1) := by decide +kernel
theorem dX5_packet_12 : decode cX5_packet 12 = .ok (.ireturn, 1) := by decide +kernel
theorem dX5_packet_13 : decode cX5_packet 13 = .ok (.aload_n 0, 1) := by decide +kernel
theorem dX5_packet_14 : decode cX5_packet 14 = .ok (.getfield 10, 3) := by decide +kernel
theorem dX5_packet_17 : decode cX5_packet 17 = .ok (.iload_n 1, 1) := by decide +kernel
theorem dX5_packet_18 : decode cX5_packet 18 = .ok (.invokevirtual 65, 3) := by decide +kernel
theorem dX5_packet_21 : decode cX5_packet 21 = .ok (.astore_n 3, 1) := by decide +kernel
theorem dX5_packet_22 : decode cX5_packet 22 = .ok (.iload_n 2, 1) := by decide +kernel
theorem dX5_packet_23 : decode cX5_packet 23 = .ok (.tableswitch 122 0 9 #[53, 58, 63, 68, 73, 78, 83, 88, 93, 98], 53) := by decide +kernel
theorem dX5_packet_76 : decode cX5_packet 76 = .ok (.aload_n 3, 1) := by decide +kernel
theorem dX5_packet_77 : decode cX5_packet 77 = .ok (.getfield 77, 3) := by decide +kernel
theorem dX5_packet_80 : decode cX5_packet 80 = .ok (.ireturn, 1) := by decide +kernel
theorem dX5_packet_81 : decode cX5_packet 81 = .ok (.aload_n 3, 1) := by decide +kernel
theorem dX5_packet_82 : decode cX5_packet 82 = .ok (.getfield 87, 3) := by decide +kernel
theorem dX5_packet_85 : decode cX5_packet 85 = .ok (.ireturn, 1) := by decide +kernel
theorem dX5_packet_86 : decode cX5_packet 86 = .ok (.aload_n 3, 1) := by decide +kernel
theorem dX5_packet_87 : decode cX5_packet 87 = .ok (.getfield 90, 3) := by decide +kernel
theorem dX5_packet_90 : decode cX5_packet 90 = .ok (.ireturn, 1) := by decide +kernel
theorem dX5_packet_91 : decode cX5_packet 91 = .ok (.aload_n 3, 1) := by decide +kernel
theorem dX5_packet_92 : decode cX5_packet 92 = .ok (.getfield 93, 3) := by decide +kernel
theorem dX5_packet_95 : decode cX5_packet 95 = .ok (.ireturn, 1) := by decide +kernel
theorem dX5_packet_96 : decode cX5_packet 96 = .ok (.aload_n 3, 1) := by decide +kernel
theorem dX5_packet_97 : decode cX5_packet 97 = .ok (.getfield 69, 3) := by decide +kernel
theorem dX5_packet_100 : decode cX5_packet 100 = .ok (.ireturn, 1) := by decide +kernel
theorem dX5_packet_101 : decode cX5_packet 101 = .ok (.aload_n 3, 1) := by decide +kernel
theorem dX5_packet_102 : decode cX5_packet 102 = .ok (.getfield 74, 3) := by decide +kernel
theorem dX5_packet_105 : decode cX5_packet 105 = .ok (.ireturn, 1) := by decide +kernel
theorem dX5_packet_106 : decode cX5_packet 106 = .ok (.aload_n 3, 1) := by decide +kernel
theorem dX5_packet_107 : decode cX5_packet 107 = .ok (.getfield 96, 3) := by decide +kernel
theorem dX5_packet_110 : decode cX5_packet 110 = .ok (.ireturn, 1) := by decide +kernel
theorem dX5_packet_111 : decode cX5_packet 111 = .ok (.aload_n 3, 1) := by decide +kernel
theorem dX5_packet_112 : decode cX5_packet 112 = .ok (.getfield 99, 3) := by decide +kernel
theorem dX5_packet_115 : decode cX5_packet 115 = .ok (.ireturn, 1) := by decide +kernel
theorem dX5_packet_116 : decode cX5_packet 116 = .ok (.aload_n 3, 1) := by decide +kernel
theorem dX5_packet_117 : decode cX5_packet 117 = .ok (.getfield 102, 3) := by decide +kernel
theorem dX5_packet_120 : decode cX5_packet 120 = .ok (.ireturn, 1) := by decide +kernel
theorem dX5_packet_121 : decode cX5_packet 121 = .ok (.aload_n 3, 1) := by decide +kernel
theorem dX5_packet_122 : decode cX5_packet 122 = .ok (.invokevirtual 105, 3) := by decide +kernel
theorem dX5_packet_125 : decode cX5_packet 125 = .ok (.ifCond .eq 18, 3) := by decide +kernel
theorem dX5_packet_128 : decode cX5_packet 128 = .ok (.aload_n 0, 1) := by decide +kernel
theorem dX5_packet_129 : decode cX5_packet 129 = .ok (.getfield 10, 3) := by decide +kernel
theorem dX5_packet_132 : decode cX5_packet 132 = .ok (.aload_n 3, 1) := by decide +kernel
theorem dX5_packet_133 : decode cX5_packet 133 = .ok (.invokevirtual 109, 3) := by decide +kernel
theorem dX5_packet_136 : decode cX5_packet 136 = .ok (.ifCond .eq 7, 3) := by decide +kernel
theorem dX5_packet_139 : decode cX5_packet 139 = .ok (.iconst 1, 1) := by decide +kernel
theorem dX5_packet_140 : decode cX5_packet 140 = .ok (.goto 4, 3) := by decide +kernel
theorem dX5_packet_143 : decode cX5_packet 143 = .ok (.iconst 0, 1) := by decide +kernel
theorem dX5_packet_144 : decode cX5_packet 144 = .ok (.ireturn, 1) := by decide +kernel
theorem dX5_packet_145 : decode cX5_packet 145 = .ok (.bipush (-2), 2) := by decide +kernel
theorem dX5_packet_147 : decode cX5_packet 147 = .ok (.ireturn, 1) := by decide +kernel
theorem dX5_start_0 : decode cX5_start 0 = .ok (.aload_n 0, 1) := by decide +kernel
theorem dX5_start_1 : decode cX5_start 1 = .ok (.getfield 10, 3) := by decide +kernel
theorem dX5_start_4 : decode cX5_start 4 = .ok (.iload_n 1, 1) := by decide +kernel
theorem dX5_start_5 : decode cX5_start 5 = .ok (.invokevirtual 62, 3) := by decide +kernel
theorem dX5_start_8 : decode cX5_start 8 = .ok (.ifCond .ne 7, 3) := by decide +kernel
theorem dX5_start_11 : decode cX5_start 11 = .ok (.ldc2_w 113, 3) := by decide +kernel
theorem dX5_start_14 : decode cX5_start 14 = .ok (.lreturn, 1) := by decide +kernel
theorem dX5_start_15 : decode cX5_start 15 = .ok (.aload_n 0, 1) := by decide +kernel
theorem dX5_start_16 : decode cX5_start 16 = .ok (.getfield 10, 3) := by decide +kernel
theorem dX5_start_19 : decode cX5_start 19 = .ok (.iload_n 1, 1) := by decide +kernel
theorem dX5_start_20 : decode cX5_start 20 = .ok (.invokevirtual 65, 3) := by decide +kernel
theorem dX5_start_23 : decode cX5_start 23 = .ok (.getfield 115, 3) := by decide +kernel
theorem dX5_start_26 : decode cX5_start 26 = .ok (.lreturn, 1) := by decide +kernel
theorem dX5_put_0 : decode cX5_put 0 = .ok (.lload_n 1, 1) := by decide +kernel
theorem dX5_put_1 : decode cX5_put 1 = .ok (.invokestatic 119, 3) := by decide +kernel
theorem dX5_put_4 : decode cX5_put 4 = .ok (.istore_n 3, 1) := by decide +kernel
theorem dX5_put_5 : decode cX5_put 5 = .ok (.iload_n 3, 1) := by decide +kernel
theorem dX5_put_6 : decode cX5_put 6 = .ok (.iconst 1, 1) := by decide +kernel
theorem dX5_put_7 : decode cX5_put 7 = .ok (.if_icmp .ge 6, 3) := by decide +kernel
theorem dX5_put_10 : decode cX5_put 10 = .ok (.bipush (-2), 2) := by decide +kernel
theorem dX5_put_12 : decode cX5_put 12 = .ok (.ireturn, 1) := by decide +kernel
theorem dX5_put_13 : decode cX5_put 13 = .ok (.aload_n 0, 1) := by decide +kernel
theorem dX5_put_14 : decode cX5_put 14 = .ok (.getfield 10, 3) := by decide +kernel
theorem dX5_put_17 : decode cX5_put 17 = .ok (.getfield 123, 3) := by decide +kernel
theorem dX5_put_20 : decode cX5_put 20 = .ok (.getfield 127, 3) := by decide +kernel
theorem dX5_put_23 : decode cX5_put 23 = .ok (.iload_n 3, 1) := by decide +kernel
theorem dX5_put_24 : decode cX5_put 24 = .ok (.iadd, 1) := by decide +kernel
theorem dX5_put_25 : decode cX5_put 25 = .ok (.bipush 80, 2) := by decide +kernel
theorem dX5_put_27 : decode cX5_put 27 = .ok (.if_icmp .le 6, 3) := by decide +kernel
theorem dX5_put_30 : decode cX5_put 30 = .ok (.bipush (-4), 2) := by decide +kernel
theorem dX5_put_32 : decode cX5_put 32 = .ok (.ireturn, 1) := by decide +kernel
theorem dX5_put_33 : decode cX5_put 33 = .ok (.aload_n 0, 1) := by decide +kernel
theorem dX5_put_34 : decode cX5_put 34 = .ok (.getfield 10, 3) := by decide +kernel
theorem dX5_put_37 : decode cX5_put 37 = .ok (.getfield 123, 3) := by decide +kernel
theorem dX5_put_40 : decode cX5_put 40 = .ok (.lload_n 1, 1) := by decide +kernel
theorem dX5_put_41 : decode cX5_put 41 = .ok (.iload_n 3, 1) := by decide +kernel
theorem dX5_put_42 : decode cX5_put 42 = .ok (.invokevirtual 132, 3) := by decide +kernel
theorem dX5_put_45 : decode cX5_put 45 = .ok (.aload_n 0, 1) := by decide +kernel
theorem dX5_put_46 : decode cX5_put 46 = .ok (.getfield 10, 3) := by decide +kernel
theorem dX5_put_49 : decode cX5_put 49 = .ok (.getfield 123, 3) := by decide +kernel
theorem dX5_put_52 : decode cX5_put 52 = .ok (.getfield 127, 3) := by decide +kernel
theorem dX5_put_55 : decode cX5_put 55 = .ok (.ireturn, 1) := by decide +kernel
theorem dX5_wipe_0 : decode cX5_wipe 0 = .ok (.aload_n 0, 1) := by decide +kernel
theorem dX5_wipe_1 : decode cX5_wipe 1 = .ok (.getfield 10, 3) := by decide +kernel
theorem dX5_wipe_4 : decode cX5_wipe 4 = .ok (.getfield 123, 3) := by decide +kernel
theorem dX5_wipe_7 : decode cX5_wipe 7 = .ok (.getfield 127, 3) := by decide +kernel
theorem dX5_wipe_10 : decode cX5_wipe 10 = .ok (.istore_n 1, 1) := by decide +kernel
theorem dX5_wipe_11 : decode cX5_wipe 11 = .ok (.aload_n 0, 1) := by decide +kernel
theorem dX5_wipe_12 : decode cX5_wipe 12 = .ok (.getfield 10, 3) := by decide +kernel
theorem dX5_wipe_15 : decode cX5_wipe 15 = .ok (.getfield 123, 3) := by decide +kernel
theorem dX5_wipe_18 : decode cX5_wipe 18 = .ok (.iconst 0, 1) := by decide +kernel
theorem dX5_wipe_19 : decode cX5_wipe 19 = .ok (.putfield 127, 3) := by decide +kernel
theorem dX5_wipe_22 : decode cX5_wipe 22 = .ok (.iload_n 1, 1) := by decide +kernel
theorem dX5_wipe_23 : decode cX5_wipe 23 = .ok (.ireturn, 1) := by decide +kernel
theorem dX5_fault_0 : decode cX5_fault 0 = .ok (.aload_n 0, 1) := by decide +kernel
theorem dX5_fault_1 : decode cX5_fault 1 = .ok (.getfield 10, 3) := by decide +kernel
theorem dX5_fault_4 : decode cX5_fault 4 = .ok (.getfield 123, 3) := by decide +kernel
theorem dX5_fault_7 : decode cX5_fault 7 = .ok (.invokevirtual 136, 3) := by decide +kernel
theorem dX5_fault_10 : decode cX5_fault 10 = .ok (.ireturn, 1) := by decide +kernel
theorem dX5_load_0 : decode cX5_load 0 = .ok (.aload_n 0, 1) := by decide +kernel
theorem dX5_load_1 : decode cX5_load 1 = .ok (.getfield 10, 3) := by decide +kernel
theorem dX5_load_4 : decode cX5_load 4 = .ok (.getfield 123, 3) := by decide +kernel
theorem dX5_load_7 : decode cX5_load 7 = .ok (.invokevirtual 136, 3) := by decide +kernel
theorem dX5_load_10 : decode cX5_load 10 = .ok (.bipush (-6), 2) := by decide +kernel
theorem dX5_load_12 : decode cX5_load 12 = .ok (.if_icmp .eq 6, 3) := by decide +kernel
theorem dX5_load_15 : decode cX5_load 15 = .ok (.bipush (-3), 2) := by decide +kernel
theorem dX5_load_17 : decode cX5_load 17 = .ok (.ireturn, 1) := by decide +kernel
theorem dX5_load_18 : decode cX5_load 18 = .ok (.aload_n 0, 1) := by decide +kernel
theorem dX5_load_19 : decode cX5_load 19 = .ok (.invokevirtual 140, 3) := by decide +kernel
theorem dX5_load_22 : decode cX5_load 22 = .ok (.ifCond .ne 5, 3) := by decide +kernel
theorem dX5_load_25 : decode cX5_load 25 = .ok (.iconst (-1), 1) := by decide +kernel
theorem dX5_load_26 : decode cX5_load 26 = .ok (.ireturn, 1) := by decide +kernel
theorem dX5_load_27 : decode cX5_load 27 = .ok (.aload_n 0, 1) := by decide +kernel
theorem dX5_load_28 : decode cX5_load 28 = .ok (.invokevirtual 143, 3) := by decide +kernel
theorem dX5_load_31 : decode cX5_load 31 = .ok (.istore_n 1, 1) := by decide +kernel
theorem dX5_load_32 : decode cX5_load 32 = .ok (.aload_n 0, 1) := by decide +kernel
theorem dX5_load_33 : decode cX5_load 33 = .ok (.getfield 10, 3) := by decide +kernel
theorem dX5_load_36 : decode cX5_load 36 = .ok (.getfield 123, 3) := by decide +kernel
theorem dX5_load_39 : decode cX5_load 39 = .ok (.iconst 0, 1) := by decide +kernel
theorem dX5_load_40 : decode cX5_load 40 = .ok (.putfield 127, 3) := by decide +kernel
theorem dX5_load_43 : decode cX5_load 43 = .ok (.iload_n 1, 1) := by decide +kernel
theorem dX5_load_44 : decode cX5_load 44 = .ok (.ireturn, 1) := by decide +kernel
theorem dX5_advance_0 : decode cX5_advance 0 = .ok (.iload_n 1, 1) := by decide +kernel
theorem dX5_advance_1 : decode cX5_advance 1 = .ok (.iconst 1, 1) := by decide +kernel
theorem dX5_advance_2 : decode cX5_advance 2 = .ok (.if_icmp .lt 10, 3) := by decide +kernel
theorem dX5_advance_5 : decode cX5_advance 5 = .ok (.iload_n 1, 1) := by decide +kernel
theorem dX5_advance_6 : decode cX5_advance 6 = .ok (.sipush 2000, 3) := by decide +kernel
theorem dX5_advance_9 : decode cX5_advance 9 = .ok (.if_icmp .le 6, 3) := by decide +kernel
theorem dX5_advance_12 : decode cX5_advance 12 = .ok (.bipush (-2), 2) := by decide +kernel
theorem dX5_advance_14 : decode cX5_advance 14 = .ok (.ireturn, 1) := by decide +kernel
theorem dX5_advance_15 : decode cX5_advance 15 = .ok (.aload_n 0, 1) := by decide +kernel
theorem dX5_advance_16 : decode cX5_advance 16 = .ok (.getfield 10, 3) := by decide +kernel
theorem dX5_advance_19 : decode cX5_advance 19 = .ok (.getfield 146, 3) := by decide +kernel
theorem dX5_advance_22 : decode cX5_advance 22 = .ok (.iload_n 1, 1) := by decide +kernel
theorem dX5_advance_23 : decode cX5_advance 23 = .ok (.iadd, 1) := by decide +kernel
theorem dX5_advance_24 : decode cX5_advance 24 = .ok (.ldc 149, 2) := by decide +kernel
theorem dX5_advance_26 : decode cX5_advance 26 = .ok (.if_icmp .le 6, 3) := by decide +kernel
theorem dX5_advance_29 : decode cX5_advance 29 = .ok (.bipush (-5), 2) := by decide +kernel
theorem dX5_advance_31 : decode cX5_advance 31 = .ok (.ireturn, 1) := by decide +kernel
theorem dX5_advance_32 : decode cX5_advance 32 = .ok (.iconst 0, 1) := by decide +kernel
theorem dX5_advance_33 : decode cX5_advance 33 = .ok (.istore_n 2, 1) := by decide +kernel
theorem dX5_advance_34 : decode cX5_advance 34 = .ok (.iload_n 2, 1) := by decide +kernel
theorem dX5_advance_35 : decode cX5_advance 35 = .ok (.iload_n 1, 1) := by decide +kernel
theorem dX5_advance_36 : decode cX5_advance 36 = .ok (.if_icmp .ge 16, 3) := by decide +kernel
theorem dX5_advance_39 : decode cX5_advance 39 = .ok (.aload_n 0, 1) := by decide +kernel
theorem dX5_advance_40 : decode cX5_advance 40 = .ok (.getfield 10, 3) := by decide +kernel
theorem dX5_advance_43 : decode cX5_advance 43 = .ok (.invokevirtual 150, 3) := by decide +kernel
theorem dX5_advance_46 : decode cX5_advance 46 = .ok (.iinc 2 1, 3) := by decide +kernel
theorem dX5_advance_49 : decode cX5_advance 49 = .ok (.goto (-15), 3) := by decide +kernel
theorem dX5_advance_52 : decode cX5_advance 52 = .ok (.aload_n 0, 1) := by decide +kernel
theorem dX5_advance_53 : decode cX5_advance 53 = .ok (.getfield 10, 3) := by decide +kernel
theorem dX5_advance_56 : decode cX5_advance 56 = .ok (.getfield 146, 3) := by decide +kernel
theorem dX5_advance_59 : decode cX5_advance 59 = .ok (.ireturn, 1) := by decide +kernel
theorem dX5_awaitDelivery_0 : decode cX5_awaitDelivery 0 = .ok (.iload_n 1, 1) := by decide +kernel
theorem dX5_awaitDelivery_1 : decode cX5_awaitDelivery 1 = .ok (.iconst 1, 1) := by decide +kernel
theorem dX5_awaitDelivery_2 : decode cX5_awaitDelivery 2 = .ok (.if_icmp .lt 10, 3) := by decide +kernel
theorem dX5_awaitDelivery_5 : decode cX5_awaitDelivery 5 = .ok (.iload_n 1, 1) := by decide +kernel
theorem dX5_awaitDelivery_6 : decode cX5_awaitDelivery 6 = .ok (.sipush 2000, 3) := by decide +kernel
theorem dX5_awaitDelivery_9 : decode cX5_awaitDelivery 9 = .ok (.if_icmp .le 6, 3) := by decide +kernel
theorem dX5_awaitDelivery_12 : decode cX5_awaitDelivery 12 = .ok (.bipush (-2), 2) := by decide +kernel
theorem dX5_awaitDelivery_14 : decode cX5_awaitDelivery 14 = .ok (.ireturn, 1) := by decide +kernel
theorem dX5_awaitDelivery_15 : decode cX5_awaitDelivery 15 = .ok (.aload_n 0, 1) := by decide +kernel
theorem dX5_awaitDelivery_16 : decode cX5_awaitDelivery 16 = .ok (.getfield 10, 3) := by decide +kernel
theorem dX5_awaitDelivery_19 : decode cX5_awaitDelivery 19 = .ok (.getfield 146, 3) := by decide +kernel
theorem dX5_awaitDelivery_22 : decode cX5_awaitDelivery 22 = .ok (.iload_n 1, 1) := by decide +kernel
theorem dX5_awaitDelivery_23 : decode cX5_awaitDelivery 23 = .ok (.iadd, 1) := by decide +kernel
theorem dX5_awaitDelivery_24 : decode cX5_awaitDelivery 24 = .ok (.ldc 149, 2) := by decide +kernel
theorem dX5_awaitDelivery_26 : decode cX5_awaitDelivery 26 = .ok (.if_icmp .le 6, 3) := by decide +kernel
theorem dX5_awaitDelivery_29 : decode cX5_awaitDelivery 29 = .ok (.bipush (-5), 2) := by decide +kernel
theorem dX5_awaitDelivery_31 : decode cX5_awaitDelivery 31 = .ok (.ireturn, 1) := by decide +kernel
theorem dX5_awaitDelivery_32 : decode cX5_awaitDelivery 32 = .ok (.iconst 0, 1) := by decide +kernel
theorem dX5_awaitDelivery_33 : decode cX5_awaitDelivery 33 = .ok (.istore_n 2, 1) := by decide +kernel
theorem dX5_awaitDelivery_34 : decode cX5_awaitDelivery 34 = .ok (.iload_n 2, 1) := by decide +kernel
theorem dX5_awaitDelivery_35 : decode cX5_awaitDelivery 35 = .ok (.iload_n 1, 1) := by decide +kernel
theorem dX5_awaitDelivery_36 : decode cX5_awaitDelivery 36 = .ok (.if_icmp .ge 36, 3) := by decide +kernel
theorem dX5_awaitDelivery_39 : decode cX5_awaitDelivery 39 = .ok (.aload_n 0, 1) := by decide +kernel
theorem dX5_awaitDelivery_40 : decode cX5_awaitDelivery 40 = .ok (.getfield 10, 3) := by decide +kernel
theorem dX5_awaitDelivery_43 : decode cX5_awaitDelivery 43 = .ok (.invokevirtual 150, 3) := by decide +kernel
theorem dX5_awaitDelivery_46 : decode cX5_awaitDelivery 46 = .ok (.aload_n 0, 1) := by decide +kernel
theorem dX5_awaitDelivery_47 : decode cX5_awaitDelivery 47 = .ok (.getfield 10, 3) := by decide +kernel
theorem dX5_awaitDelivery_50 : decode cX5_awaitDelivery 50 = .ok (.getfield 153, 3) := by decide +kernel
theorem dX5_awaitDelivery_53 : decode cX5_awaitDelivery 53 = .ok (.bipush (-6), 2) := by decide +kernel
theorem dX5_awaitDelivery_55 : decode cX5_awaitDelivery 55 = .ok (.if_icmp .eq 11, 3) := by decide +kernel
theorem dX5_awaitDelivery_58 : decode cX5_awaitDelivery 58 = .ok (.aload_n 0, 1) := by decide +kernel
theorem dX5_awaitDelivery_59 : decode cX5_awaitDelivery 59 = .ok (.getfield 10, 3) := by decide +kernel
theorem dX5_awaitDelivery_62 : decode cX5_awaitDelivery 62 = .ok (.getfield 153, 3) := by decide +kernel
theorem dX5_awaitDelivery_65 : decode cX5_awaitDelivery 65 = .ok (.ireturn, 1) := by decide +kernel
theorem dX5_awaitDelivery_66 : decode cX5_awaitDelivery 66 = .ok (.iinc 2 1, 3) := by decide +kernel
theorem dX5_awaitDelivery_69 : decode cX5_awaitDelivery 69 = .ok (.goto (-35), 3) := by decide +kernel
theorem dX5_awaitDelivery_72 : decode cX5_awaitDelivery 72 = .ok (.bipush (-6), 2) := by decide +kernel
theorem dX5_awaitDelivery_74 : decode cX5_awaitDelivery 74 = .ok (.ireturn, 1) := by decide +kernel
theorem dX5_flow_0 : decode cX5_flow 0 = .ok (.aload_n 0, 1) := by decide +kernel
theorem dX5_flow_1 : decode cX5_flow 1 = .ok (.getfield 10, 3) := by decide +kernel
theorem dX5_flow_4 : decode cX5_flow 4 = .ok (.iload_n 1, 1) := by decide +kernel
theorem dX5_flow_5 : decode cX5_flow 5 = .ok (.invokevirtual 31, 3) := by decide +kernel
theorem dX5_flow_8 : decode cX5_flow 8 = .ok (.ifCond .ne 5, 3) := by decide +kernel
theorem dX5_flow_11 : decode cX5_flow 11 = .ok (.iconst (-1), 1) := by decide +kernel
theorem dX5_flow_12 : decode cX5_flow 12 = .ok (.ireturn, 1) := by decide +kernel
theorem dX5_flow_13 : decode cX5_flow 13 = .ok (.aload_n 0, 1) := by decide +kernel
theorem dX5_flow_14 : decode cX5_flow 14 = .ok (.getfield 10, 3) := by decide +kernel
theorem dX5_flow_17 : decode cX5_flow 17 = .ok (.getfield 42, 3) := by decide +kernel
theorem dX5_flow_20 : decode cX5_flow 20 = .ok (.iload_n 1, 1) := by decide +kernel
theorem dX5_flow_21 : decode cX5_flow 21 = .ok (.aaload, 1) := by decide +kernel
theorem dX5_flow_22 : decode cX5_flow 22 = .ok (.astore_n 3, 1) := by decide +kernel
theorem dX5_flow_23 : decode cX5_flow 23 = .ok (.iload_n 2, 1) := by decide +kernel
theorem dX5_flow_24 : decode cX5_flow 24 = .ok (.ifCond .lt 15, 3) := by decide +kernel
theorem dX5_flow_27 : decode cX5_flow 27 = .ok (.iload_n 2, 1) := by decide +kernel
theorem dX5_flow_28 : decode cX5_flow 28 = .ok (.iconst 4, 1) := by decide +kernel
theorem dX5_flow_29 : decode cX5_flow 29 = .ok (.if_icmp .gt 10, 3) := by decide +kernel
theorem dX5_flow_32 : decode cX5_flow 32 = .ok (.aload_n 3, 1) := by decide +kernel
theorem dX5_flow_33 : decode cX5_flow 33 = .ok (.getfield 46, 3) := by decide +kernel
theorem dX5_flow_36 : decode cX5_flow 36 = .ok (.iload_n 2, 1) := by decide +kernel
theorem dX5_flow_37 : decode cX5_flow 37 = .ok (.iaload, 1) := by decide +kernel
theorem dX5_flow_38 : decode cX5_flow 38 = .ok (.ireturn, 1) := by decide +kernel
theorem dX5_flow_39 : decode cX5_flow 39 = .ok (.iload_n 2, 1) := by decide +kernel
theorem dX5_flow_40 : decode cX5_flow 40 = .ok (.tableswitch 110 5 14 #[56, 61, 66, 75, 80, 85, 90, 95, 100, 105], 56) := by decide +kernel
theorem dX5_flow_96 : decode cX5_flow 96 = .ok (.aload_n 3, 1) := by decide +kernel
theorem dX5_flow_97 : decode cX5_flow 97 = .ok (.getfield 84, 3) := by decide +kernel
theorem dX5_flow_100 : decode cX5_flow 100 = .ok (.ireturn, 1) := by decide +kernel
theorem dX5_flow_101 : decode cX5_flow 101 = .ok (.aload_n 3, 1) := by decide +kernel
theorem dX5_flow_102 : decode cX5_flow 102 = .ok (.invokevirtual 156, 3) := by decide +kernel
theorem dX5_flow_105 : decode cX5_flow 105 = .ok (.ireturn, 1) := by decide +kernel
theorem dX5_flow_106 : decode cX5_flow 106 = .ok (.aload_n 0, 1) := by decide +kernel
theorem dX5_flow_107 : decode cX5_flow 107 = .ok (.getfield 10, 3) := by decide +kernel
theorem dX5_flow_110 : decode cX5_flow 110 = .ok (.aload_n 3, 1) := by decide +kernel
theorem dX5_flow_111 : decode cX5_flow 111 = .ok (.invokevirtual 159, 3) := by decide +kernel
theorem dX5_flow_114 : decode cX5_flow 114 = .ok (.ireturn, 1) := by decide +kernel
theorem dX5_flow_115 : decode cX5_flow 115 = .ok (.aload_n 3, 1) := by decide +kernel
theorem dX5_flow_116 : decode cX5_flow 116 = .ok (.getfield 163, 3) := by decide +kernel
theorem dX5_flow_119 : decode cX5_flow 119 = .ok (.ireturn, 1) := by decide +kernel
theorem dX5_flow_120 : decode cX5_flow 120 = .ok (.aload_n 3, 1) := by decide +kernel
theorem dX5_flow_121 : decode cX5_flow 121 = .ok (.getfield 164, 3) := by decide +kernel
theorem dX5_flow_124 : decode cX5_flow 124 = .ok (.ireturn, 1) := by decide +kernel
theorem dX5_flow_125 : decode cX5_flow 125 = .ok (.aload_n 3, 1) := by decide +kernel
theorem dX5_flow_126 : decode cX5_flow 126 = .ok (.getfield 167, 3) := by decide +kernel
theorem dX5_flow_129 : decode cX5_flow 129 = .ok (.ireturn, 1) := by decide +kernel
theorem dX5_flow_130 : decode cX5_flow 130 = .ok (.aload_n 3, 1) := by decide +kernel
theorem dX5_flow_131 : decode cX5_flow 131 = .ok (.getfield 170, 3) := by decide +kernel
theorem dX5_flow_134 : decode cX5_flow 134 = .ok (.ireturn, 1) := by decide +kernel
theorem dX5_flow_135 : decode cX5_flow 135 = .ok (.aload_n 3, 1) := by decide +kernel
theorem dX5_flow_136 : decode cX5_flow 136 = .ok (.getfield 173, 3) := by decide +kernel
theorem dX5_flow_139 : decode cX5_flow 139 = .ok (.ireturn, 1) := by decide +kernel
theorem dX5_flow_140 : decode cX5_flow 140 = .ok (.aload_n 3, 1) := by decide +kernel
theorem dX5_flow_141 : decode cX5_flow 141 = .ok (.getfield 176, 3) := by decide +kernel
theorem dX5_flow_144 : decode cX5_flow 144 = .ok (.ireturn, 1) := by decide +kernel
theorem dX5_flow_145 : decode cX5_flow 145 = .ok (.aload_n 3, 1) := by decide +kernel
theorem dX5_flow_146 : decode cX5_flow 146 = .ok (.getfield 179, 3) := by decide +kernel
theorem dX5_flow_149 : decode cX5_flow 149 = .ok (.ireturn, 1) := by decide +kernel
theorem dX5_flow_150 : decode cX5_flow 150 = .ok (.bipush (-2), 2) := by decide +kernel
theorem dX5_flow_152 : decode cX5_flow 152 = .ok (.ireturn, 1) := by decide +kernel
theorem dX5_amount_0 : decode cX5_amount 0 = .ok (.aload_n 0, 1) := by decide +kernel
theorem dX5_amount_1 : decode cX5_amount 1 = .ok (.getfield 10, 3) := by decide +kernel
theorem dX5_amount_4 : decode cX5_amount 4 = .ok (.iload_n 1, 1) := by decide +kernel
theorem dX5_amount_5 : decode cX5_amount 5 = .ok (.invokevirtual 31, 3) := by decide +kernel
theorem dX5_amount_8 : decode cX5_amount 8 = .ok (.ifCond .ne 7, 3) := by decide +kernel
theorem dX5_amount_11 : decode cX5_amount 11 = .ok (.ldc2_w 113, 3) := by decide +kernel
theorem dX5_amount_14 : decode cX5_amount 14 = .ok (.lreturn, 1) := by decide +kernel
theorem dX5_amount_15 : decode cX5_amount 15 = .ok (.aload_n 0, 1) := by decide +kernel
theorem dX5_amount_16 : decode cX5_amount 16 = .ok (.getfield 10, 3) := by decide +kernel
theorem dX5_amount_19 : decode cX5_amount 19 = .ok (.getfield 42, 3) := by decide +kernel
theorem dX5_amount_22 : decode cX5_amount 22 = .ok (.iload_n 1, 1) := by decide +kernel
theorem dX5_amount_23 : decode cX5_amount 23 = .ok (.aaload, 1) := by decide +kernel
theorem dX5_amount_24 : decode cX5_amount 24 = .ok (.astore_n 3, 1) := by decide +kernel
theorem dX5_amount_25 : decode cX5_amount 25 = .ok (.iload_n 2, 1) := by decide +kernel
theorem dX5_amount_26 : decode cX5_amount 26 = .ok (.tableswitch 106 0 7 #[46, 51, 60, 81, 86, 91, 96, 101], 46) := by decide +kernel
theorem dX5_amount_72 : decode cX5_amount 72 = .ok (.aload_n 3, 1) := by decide +kernel
theorem dX5_amount_73 : decode cX5_amount 73 = .ok (.getfield 182, 3) := by decide +kernel
theorem dX5_amount_76 : decode cX5_amount 76 = .ok (.lreturn, 1) := by decide +kernel
theorem dX5_amount_77 : decode cX5_amount 77 = .ok (.aload_n 0, 1) := by decide +kernel
theorem dX5_amount_78 : decode cX5_amount 78 = .ok (.getfield 10, 3) := by decide +kernel
theorem dX5_amount_81 : decode cX5_amount 81 = .ok (.aload_n 3, 1) := by decide +kernel
theorem dX5_amount_82 : decode cX5_amount 82 = .ok (.invokevirtual 185, 3) := by decide +kernel
theorem dX5_amount_85 : decode cX5_amount 85 = .ok (.lreturn, 1) := by decide +kernel
theorem dX5_amount_86 : decode cX5_amount 86 = .ok (.lconst 0, 1) := by decide +kernel
theorem dX5_amount_87 : decode cX5_amount 87 = .ok (.aload_n 0, 1) := by decide +kernel
theorem dX5_amount_88 : decode cX5_amount 88 = .ok (.getfield 10, 3) := by decide +kernel
theorem dX5_amount_91 : decode cX5_amount 91 = .ok (.aload_n 3, 1) := by decide +kernel
theorem dX5_amount_92 : decode cX5_amount 92 = .ok (.invokevirtual 185, 3) := by decide +kernel
theorem dX5_amount_95 : decode cX5_amount 95 = .ok (.aload_n 0, 1) := by decide +kernel
theorem dX5_amount_96 : decode cX5_amount 96 = .ok (.getfield 10, 3) := by decide +kernel
theorem dX5_amount_99 : decode cX5_amount 99 = .ok (.getfield 189, 3) := by decide +kernel
theorem dX5_amount_102 : decode cX5_amount 102 = .ok (.lsub, 1) := by decide +kernel
theorem dX5_amount_103 : decode cX5_amount 103 = .ok (.invokestatic 192, 3) := by decide +kernel
theorem dX5_amount_106 : decode cX5_amount 106 = .ok (.lreturn, 1) := by decide +kernel
theorem dX5_amount_107 : decode cX5_amount 107 = .ok (.aload_n 3, 1) := by decide +kernel
theorem dX5_amount_108 : decode cX5_amount 108 = .ok (.getfield 198, 3) := by decide +kernel
theorem dX5_amount_111 : decode cX5_amount 111 = .ok (.lreturn, 1) := by decide +kernel
theorem dX5_amount_112 : decode cX5_amount 112 = .ok (.aload_n 3, 1) := by decide +kernel
theorem dX5_amount_113 : decode cX5_amount 113 = .ok (.getfield 201, 3) := by decide +kernel
theorem dX5_amount_116 : decode cX5_amount 116 = .ok (.lreturn, 1) := by decide +kernel
theorem dX5_amount_117 : decode cX5_amount 117 = .ok (.aload_n 3, 1) := by decide +kernel
theorem dX5_amount_118 : decode cX5_amount 118 = .ok (.getfield 204, 3) := by decide +kernel
theorem dX5_amount_121 : decode cX5_amount 121 = .ok (.lreturn, 1) := by decide +kernel
theorem dX5_amount_122 : decode cX5_amount 122 = .ok (.aload_n 3, 1) := by decide +kernel
theorem dX5_amount_123 : decode cX5_amount 123 = .ok (.invokevirtual 207, 3) := by decide +kernel
theorem dX5_amount_126 : decode cX5_amount 126 = .ok (.lreturn, 1) := by decide +kernel
theorem dX5_amount_127 : decode cX5_amount 127 = .ok (.aload_n 3, 1) := by decide +kernel
theorem dX5_amount_128 : decode cX5_amount 128 = .ok (.getfield 211, 3) := by decide +kernel
theorem dX5_amount_131 : decode cX5_amount 131 = .ok (.lreturn, 1) := by decide +kernel
theorem dX5_amount_132 : decode cX5_amount 132 = .ok (.ldc2_w 214, 3) := by decide +kernel
theorem dX5_amount_135 : decode cX5_amount 135 = .ok (.lreturn, 1) := by decide +kernel
theorem dX5_virtualTime_0 : decode cX5_virtualTime 0 = .ok (.aload_n 0, 1) := by decide +kernel
theorem dX5_virtualTime_1 : decode cX5_virtualTime 1 = .ok (.getfield 10, 3) := by decide +kernel
theorem dX5_virtualTime_4 : decode cX5_virtualTime 4 = .ok (.getfield 189, 3) := by decide +kernel
theorem dX5_virtualTime_7 : decode cX5_virtualTime 7 = .ok (.lreturn, 1) := by decide +kernel
theorem dX5_link_0 : decode cX5_link 0 = .ok (.iload_n 1, 1) := by decide +kernel
theorem dX5_link_1 : decode cX5_link 1 = .ok (.iconst 1, 1) := by decide +kernel
theorem dX5_link_2 : decode cX5_link 2 = .ok (.if_icmp .lt 20, 3) := by decide +kernel
theorem dX5_link_5 : decode cX5_link 5 = .ok (.iload_n 1, 1) := by decide +kernel
theorem dX5_link_6 : decode cX5_link 6 = .ok (.iconst 4, 1) := by decide +kernel
theorem dX5_link_7 : decode cX5_link 7 = .ok (.if_icmp .gt 15, 3) := by decide +kernel
theorem dX5_link_10 : decode cX5_link 10 = .ok (.aload_n 0, 1) := by decide +kernel
theorem dX5_link_11 : decode cX5_link 11 = .ok (.getfield 10, 3) := by decide +kernel
theorem dX5_link_14 : decode cX5_link 14 = .ok (.getfield 54, 3) := by decide +kernel
theorem dX5_link_17 : decode cX5_link 17 = .ok (.iload_n 1, 1) := by decide +kernel
theorem dX5_link_18 : decode cX5_link 18 = .ok (.iconst 1, 1) := by decide +kernel
theorem dX5_link_19 : decode cX5_link 19 = .ok (.isub, 1) := by decide +kernel
theorem dX5_link_20 : decode cX5_link 20 = .ok (.iaload, 1) := by decide +kernel
theorem dX5_link_21 : decode cX5_link 21 = .ok (.ireturn, 1) := by decide +kernel
theorem dX5_link_22 : decode cX5_link 22 = .ok (.iload_n 1, 1) := by decide +kernel
theorem dX5_link_23 : decode cX5_link 23 = .ok (.tableswitch 223 0 16 #[81, 223, 223, 223, 223, 89, 97, 105, 116, 127, 138, 157, 168, 176, 184, 192, 200], 81) := by decide +kernel
theorem dX5_link_104 : decode cX5_link 104 = .ok (.aload_n 0, 1) := by decide +kernel
theorem dX5_link_105 : decode cX5_link 105 = .ok (.getfield 10, 3) := by decide +kernel
theorem dX5_link_108 : decode cX5_link 108 = .ok (.getfield 146, 3) := by decide +kernel
theorem dX5_link_111 : decode cX5_link 111 = .ok (.ireturn, 1) := by decide +kernel
theorem dX5_link_112 : decode cX5_link 112 = .ok (.aload_n 0, 1) := by decide +kernel
theorem dX5_link_113 : decode cX5_link 113 = .ok (.getfield 10, 3) := by decide +kernel
theorem dX5_link_116 : decode cX5_link 116 = .ok (.getfield 23, 3) := by decide +kernel
theorem dX5_link_119 : decode cX5_link 119 = .ok (.ireturn, 1) := by decide +kernel
theorem dX5_link_120 : decode cX5_link 120 = .ok (.aload_n 0, 1) := by decide +kernel
theorem dX5_link_121 : decode cX5_link 121 = .ok (.getfield 10, 3) := by decide +kernel
theorem dX5_link_124 : decode cX5_link 124 = .ok (.getfield 216, 3) := by decide +kernel
theorem dX5_link_127 : decode cX5_link 127 = .ok (.ireturn, 1) := by decide +kernel
theorem dX5_link_128 : decode cX5_link 128 = .ok (.aload_n 0, 1) := by decide +kernel
theorem dX5_link_129 : decode cX5_link 129 = .ok (.getfield 10, 3) := by decide +kernel
theorem dX5_link_132 : decode cX5_link 132 = .ok (.getfield 219, 3) := by decide +kernel
theorem dX5_link_135 : decode cX5_link 135 = .ok (.getfield 223, 3) := by decide +kernel
theorem dX5_link_138 : decode cX5_link 138 = .ok (.ireturn, 1) := by decide +kernel
theorem dX5_link_139 : decode cX5_link 139 = .ok (.aload_n 0, 1) := by decide +kernel
theorem dX5_link_140 : decode cX5_link 140 = .ok (.getfield 10, 3) := by decide +kernel
theorem dX5_link_143 : decode cX5_link 143 = .ok (.getfield 219, 3) := by decide +kernel
theorem dX5_link_146 : decode cX5_link 146 = .ok (.getfield 228, 3) := by decide +kernel
theorem dX5_link_149 : decode cX5_link 149 = .ok (.ireturn, 1) := by decide +kernel
theorem dX5_link_150 : decode cX5_link 150 = .ok (.aload_n 0, 1) := by decide +kernel
theorem dX5_link_151 : decode cX5_link 151 = .ok (.getfield 10, 3) := by decide +kernel
theorem dX5_link_154 : decode cX5_link 154 = .ok (.getfield 219, 3) := by decide +kernel
theorem dX5_link_157 : decode cX5_link 157 = .ok (.getfield 229, 3) := by decide +kernel
theorem dX5_link_160 : decode cX5_link 160 = .ok (.ireturn, 1) := by decide +kernel
theorem dX5_link_161 : decode cX5_link 161 = .ok (.aload_n 0, 1) := by decide +kernel
theorem dX5_link_162 : decode cX5_link 162 = .ok (.getfield 10, 3) := by decide +kernel
theorem dX5_link_165 : decode cX5_link 165 = .ok (.getfield 219, 3) := by decide +kernel
theorem dX5_link_168 : decode cX5_link 168 = .ok (.getfield 232, 3) := by decide +kernel
theorem dX5_link_171 : decode cX5_link 171 = .ok (.ifCond .eq 7, 3) := by decide +kernel
theorem dX5_link_174 : decode cX5_link 174 = .ok (.iconst 1, 1) := by decide +kernel
theorem dX5_link_175 : decode cX5_link 175 = .ok (.goto 4, 3) := by decide +kernel
theorem dX5_link_178 : decode cX5_link 178 = .ok (.iconst 0, 1) := by decide +kernel
theorem dX5_link_179 : decode cX5_link 179 = .ok (.ireturn, 1) := by decide +kernel
theorem dX5_link_180 : decode cX5_link 180 = .ok (.aload_n 0, 1) := by decide +kernel
theorem dX5_link_181 : decode cX5_link 181 = .ok (.getfield 10, 3) := by decide +kernel
theorem dX5_link_184 : decode cX5_link 184 = .ok (.getfield 123, 3) := by decide +kernel
theorem dX5_link_187 : decode cX5_link 187 = .ok (.getfield 127, 3) := by decide +kernel
theorem dX5_link_190 : decode cX5_link 190 = .ok (.ireturn, 1) := by decide +kernel
theorem dX5_link_191 : decode cX5_link 191 = .ok (.aload_n 0, 1) := by decide +kernel
theorem dX5_link_192 : decode cX5_link 192 = .ok (.getfield 10, 3) := by decide +kernel
theorem dX5_link_195 : decode cX5_link 195 = .ok (.getfield 236, 3) := by decide +kernel
theorem dX5_link_198 : decode cX5_link 198 = .ok (.ireturn, 1) := by decide +kernel
theorem dX5_link_199 : decode cX5_link 199 = .ok (.aload_n 0, 1) := by decide +kernel
theorem dX5_link_200 : decode cX5_link 200 = .ok (.getfield 10, 3) := by decide +kernel
theorem dX5_link_203 : decode cX5_link 203 = .ok (.getfield 239, 3) := by decide +kernel
theorem dX5_link_206 : decode cX5_link 206 = .ok (.ireturn, 1) := by decide +kernel
theorem dX5_link_207 : decode cX5_link 207 = .ok (.aload_n 0, 1) := by decide +kernel
theorem dX5_link_208 : decode cX5_link 208 = .ok (.getfield 10, 3) := by decide +kernel
theorem dX5_link_211 : decode cX5_link 211 = .ok (.invokevirtual 242, 3) := by decide +kernel
theorem dX5_link_214 : decode cX5_link 214 = .ok (.ireturn, 1) := by decide +kernel
theorem dX5_link_215 : decode cX5_link 215 = .ok (.aload_n 0, 1) := by decide +kernel
theorem dX5_link_216 : decode cX5_link 216 = .ok (.getfield 10, 3) := by decide +kernel
theorem dX5_link_219 : decode cX5_link 219 = .ok (.getfield 245, 3) := by decide +kernel
theorem dX5_link_222 : decode cX5_link 222 = .ok (.ireturn, 1) := by decide +kernel
theorem dX5_link_223 : decode cX5_link 223 = .ok (.aload_n 0, 1) := by decide +kernel
theorem dX5_link_224 : decode cX5_link 224 = .ok (.getfield 10, 3) := by decide +kernel
theorem dX5_link_227 : decode cX5_link 227 = .ok (.getfield 216, 3) := by decide +kernel
theorem dX5_link_230 : decode cX5_link 230 = .ok (.ifCond .ne 8, 3) := by decide +kernel
theorem dX5_link_233 : decode cX5_link 233 = .ok (.bipush (-6), 2) := by decide +kernel
theorem dX5_link_235 : decode cX5_link 235 = .ok (.goto 10, 3) := by decide +kernel
theorem dX5_link_238 : decode cX5_link 238 = .ok (.aload_n 0, 1) := by decide +kernel
theorem dX5_link_239 : decode cX5_link 239 = .ok (.getfield 10, 3) := by decide +kernel
theorem dX5_link_242 : decode cX5_link 242 = .ok (.invokevirtual 248, 3) := by decide +kernel
theorem dX5_link_245 : decode cX5_link 245 = .ok (.ireturn, 1) := by decide +kernel
theorem dX5_link_246 : decode cX5_link 246 = .ok (.bipush (-2), 2) := by decide +kernel
theorem dX5_link_248 : decode cX5_link 248 = .ok (.ireturn, 1) := by decide +kernel
theorem dX5_piece_0 : decode cX5_piece 0 = .ok (.iload_n 2, 1) := by decide +kernel
theorem dX5_piece_1 : decode cX5_piece 1 = .ok (.ifCond .lt 8, 3) := by decide +kernel
theorem dX5_piece_4 : decode cX5_piece 4 = .ok (.iload_n 2, 1) := by decide +kernel
theorem dX5_piece_5 : decode cX5_piece 5 = .ok (.iconst 4, 1) := by decide +kernel
theorem dX5_piece_6 : decode cX5_piece 6 = .ok (.if_icmp .le 6, 3) := by decide +kernel
theorem dX5_piece_9 : decode cX5_piece 9 = .ok (.bipush (-2), 2) := by decide +kernel
theorem dX5_piece_11 : decode cX5_piece 11 = .ok (.ireturn, 1) := by decide +kernel
theorem dX5_piece_12 : decode cX5_piece 12 = .ok (.aload_n 0, 1) := by decide +kernel
theorem dX5_piece_13 : decode cX5_piece 13 = .ok (.getfield 10, 3) := by decide +kernel
theorem dX5_piece_16 : decode cX5_piece 16 = .ok (.iload_n 1, 1) := by decide +kernel
theorem dX5_piece_17 : decode cX5_piece 17 = .ok (.invokevirtual 251, 3) := by decide +kernel
theorem dX5_piece_20 : decode cX5_piece 20 = .ok (.ifCond .ne 6, 3) := by decide +kernel
theorem dX5_piece_23 : decode cX5_piece 23 = .ok (.bipush (-6), 2) := by decide +kernel
theorem dX5_piece_25 : decode cX5_piece 25 = .ok (.ireturn, 1) := by decide +kernel
theorem dX5_piece_26 : decode cX5_piece 26 = .ok (.aload_n 0, 1) := by decide +kernel
theorem dX5_piece_27 : decode cX5_piece 27 = .ok (.getfield 10, 3) := by decide +kernel
theorem dX5_piece_30 : decode cX5_piece 30 = .ok (.iload_n 1, 1) := by decide +kernel
theorem dX5_piece_31 : decode cX5_piece 31 = .ok (.invokevirtual 254, 3) := by decide +kernel
theorem dX5_piece_34 : decode cX5_piece 34 = .ok (.astore_n 3, 1) := by decide +kernel
theorem dX5_piece_35 : decode cX5_piece 35 = .ok (.iload_n 2, 1) := by decide +kernel
theorem dX5_piece_36 : decode cX5_piece 36 = .ok (.tableswitch 52 0 3 #[32, 37, 42, 47], 32) := by decide +kernel
theorem dX5_piece_68 : decode cX5_piece 68 = .ok (.aload_n 3, 1) := by decide +kernel
theorem dX5_piece_69 : decode cX5_piece 69 = .ok (.getfield 223, 3) := by decide +kernel
theorem dX5_piece_72 : decode cX5_piece 72 = .ok (.ireturn, 1) := by decide +kernel
theorem dX5_piece_73 : decode cX5_piece 73 = .ok (.aload_n 3, 1) := by decide +kernel
theorem dX5_piece_74 : decode cX5_piece 74 = .ok (.getfield 258, 3) := by decide +kernel
theorem dX5_piece_77 : decode cX5_piece 77 = .ok (.ireturn, 1) := by decide +kernel
theorem dX5_piece_78 : decode cX5_piece 78 = .ok (.aload_n 3, 1) := by decide +kernel
theorem dX5_piece_79 : decode cX5_piece 79 = .ok (.getfield 228, 3) := by decide +kernel
theorem dX5_piece_82 : decode cX5_piece 82 = .ok (.ireturn, 1) := by decide +kernel
theorem dX5_piece_83 : decode cX5_piece 83 = .ok (.aload_n 3, 1) := by decide +kernel
theorem dX5_piece_84 : decode cX5_piece 84 = .ok (.getfield 259, 3) := by decide +kernel
theorem dX5_piece_87 : decode cX5_piece 87 = .ok (.ireturn, 1) := by decide +kernel
theorem dX5_piece_88 : decode cX5_piece 88 = .ok (.aload_n 3, 1) := by decide +kernel
theorem dX5_piece_89 : decode cX5_piece 89 = .ok (.getfield 232, 3) := by decide +kernel
theorem dX5_piece_92 : decode cX5_piece 92 = .ok (.ifCond .eq 7, 3) := by decide +kernel
theorem dX5_piece_95 : decode cX5_piece 95 = .ok (.iconst 1, 1) := by decide +kernel
theorem dX5_piece_96 : decode cX5_piece 96 = .ok (.goto 4, 3) := by decide +kernel
theorem dX5_piece_99 : decode cX5_piece 99 = .ok (.iconst 0, 1) := by decide +kernel
theorem dX5_piece_100 : decode cX5_piece 100 = .ok (.ireturn, 1) := by decide +kernel
theorem dX5_apart_0 : decode cX5_apart 0 = .ok (.aload_n 0, 1) := by decide +kernel
theorem dX5_apart_1 : decode cX5_apart 1 = .ok (.getfield 10, 3) := by decide +kernel
theorem dX5_apart_4 : decode cX5_apart 4 = .ok (.iload_n 1, 1) := by decide +kernel
theorem dX5_apart_5 : decode cX5_apart 5 = .ok (.invokevirtual 31, 3) := by decide +kernel
theorem dX5_apart_8 : decode cX5_apart 8 = .ok (.ifCond .eq 14, 3) := by decide +kernel
theorem dX5_apart_11 : decode cX5_apart 11 = .ok (.aload_n 0, 1) := by decide +kernel
theorem dX5_apart_12 : decode cX5_apart 12 = .ok (.getfield 10, 3) := by decide +kernel
theorem dX5_apart_15 : decode cX5_apart 15 = .ok (.iload_n 2, 1) := by decide +kernel
theorem dX5_apart_16 : decode cX5_apart 16 = .ok (.invokevirtual 31, 3) := by decide +kernel
theorem dX5_apart_19 : decode cX5_apart 19 = .ok (.ifCond .ne 7, 3) := by decide +kernel
theorem dX5_apart_22 : decode cX5_apart 22 = .ok (.ldc2_w 113, 3) := by decide +kernel
theorem dX5_apart_25 : decode cX5_apart 25 = .ok (.lreturn, 1) := by decide +kernel
theorem dX5_apart_26 : decode cX5_apart 26 = .ok (.aload_n 0, 1) := by decide +kernel
theorem dX5_apart_27 : decode cX5_apart 27 = .ok (.getfield 10, 3) := by decide +kernel
theorem dX5_apart_30 : decode cX5_apart 30 = .ok (.getfield 42, 3) := by decide +kernel
theorem dX5_apart_33 : decode cX5_apart 33 = .ok (.iload_n 1, 1) := by decide +kernel
theorem dX5_apart_34 : decode cX5_apart 34 = .ok (.aaload, 1) := by decide +kernel
theorem dX5_apart_35 : decode cX5_apart 35 = .ok (.astore_n 3, 1) := by decide +kernel
theorem dX5_apart_36 : decode cX5_apart 36 = .ok (.aload_n 0, 1) := by decide +kernel
theorem dX5_apart_37 : decode cX5_apart 37 = .ok (.getfield 10, 3) := by decide +kernel
theorem dX5_apart_40 : decode cX5_apart 40 = .ok (.getfield 42, 3) := by decide +kernel
theorem dX5_apart_43 : decode cX5_apart 43 = .ok (.iload_n 2, 1) := by decide +kernel
theorem dX5_apart_44 : decode cX5_apart 44 = .ok (.aaload, 1) := by decide +kernel
theorem dX5_apart_45 : decode cX5_apart 45 = .ok (.astore 4, 2) := by decide +kernel
theorem dX5_apart_47 : decode cX5_apart 47 = .ok (.aload_n 3, 1) := by decide +kernel
theorem dX5_apart_48 : decode cX5_apart 48 = .ok (.aload_n 3, 1) := by decide +kernel
theorem dX5_apart_49 : decode cX5_apart 49 = .ok (.getfield 163, 3) := by decide +kernel
theorem dX5_apart_52 : decode cX5_apart 52 = .ok (.invokevirtual 262, 3) := by decide +kernel
theorem dX5_apart_55 : decode cX5_apart 55 = .ok (.aload 4, 2) := by decide +kernel
theorem dX5_apart_57 : decode cX5_apart 57 = .ok (.aload 4, 2) := by decide +kernel
theorem dX5_apart_59 : decode cX5_apart 59 = .ok (.getfield 163, 3) := by decide +kernel
theorem dX5_apart_62 : decode cX5_apart 62 = .ok (.invokevirtual 262, 3) := by decide +kernel
theorem dX5_apart_65 : decode cX5_apart 65 = .ok (.lsub, 1) := by decide +kernel
theorem dX5_apart_66 : decode cX5_apart 66 = .ok (.invokestatic 266, 3) := by decide +kernel
theorem dX5_apart_69 : decode cX5_apart 69 = .ok (.lreturn, 1) := by decide +kernel
theorem dX5_forecast_0 : decode cX5_forecast 0 = .ok (.aload_n 0, 1) := by decide +kernel
theorem dX5_forecast_1 : decode cX5_forecast 1 = .ok (.getfield 10, 3) := by decide +kernel
theorem dX5_forecast_4 : decode cX5_forecast 4 = .ok (.iload_n 1, 1) := by decide +kernel
theorem dX5_forecast_5 : decode cX5_forecast 5 = .ok (.invokevirtual 62, 3) := by decide +kernel
theorem dX5_forecast_8 : decode cX5_forecast 8 = .ok (.ifCond .ne 5, 3) := by decide +kernel
theorem dX5_forecast_11 : decode cX5_forecast 11 = .ok (.iconst (-1), 1) := by decide +kernel
theorem dX5_forecast_12 : decode cX5_forecast 12 = .ok (.ireturn, 1) := by decide +kernel
theorem dX5_forecast_13 : decode cX5_forecast 13 = .ok (.iload_n 2, 1) := by decide +kernel
theorem dX5_forecast_14 : decode cX5_forecast 14 = .ok (.iconst 1, 1) := by decide +kernel
theorem dX5_forecast_15 : decode cX5_forecast 15 = .ok (.if_icmp .lt 10, 3) := by decide +kernel
theorem dX5_forecast_18 : decode cX5_forecast 18 = .ok (.iload_n 2, 1) := by decide +kernel
theorem dX5_forecast_19 : decode cX5_forecast 19 = .ok (.sipush 2000, 3) := by decide +kernel
theorem dX5_forecast_22 : decode cX5_forecast 22 = .ok (.if_icmp .le 6, 3) := by decide +kernel
theorem dX5_forecast_25 : decode cX5_forecast 25 = .ok (.bipush (-2), 2) := by decide +kernel
theorem dX5_forecast_27 : decode cX5_forecast 27 = .ok (.ireturn, 1) := by decide +kernel
theorem dX5_forecast_28 : decode cX5_forecast 28 = .ok (.aload_n 0, 1) := by decide +kernel
theorem dX5_forecast_29 : decode cX5_forecast 29 = .ok (.getfield 10, 3) := by decide +kernel
theorem dX5_forecast_32 : decode cX5_forecast 32 = .ok (.iload_n 1, 1) := by decide +kernel
theorem dX5_forecast_33 : decode cX5_forecast 33 = .ok (.invokevirtual 65, 3) := by decide +kernel
theorem dX5_forecast_36 : decode cX5_forecast 36 = .ok (.getfield 69, 3) := by decide +kernel
theorem dX5_forecast_39 : decode cX5_forecast 39 = .ok (.iconst 3, 1) := by decide +kernel
theorem dX5_forecast_40 : decode cX5_forecast 40 = .ok (.if_icmp .ne 5, 3) := by decide +kernel
theorem dX5_forecast_43 : decode cX5_forecast 43 = .ok (.iconst 0, 1) := by decide +kernel
theorem dX5_forecast_44 : decode cX5_forecast 44 = .ok (.ireturn, 1) := by decide +kernel
theorem dX5_forecast_45 : decode cX5_forecast 45 = .ok (.aload_n 0, 1) := by decide +kernel
theorem dX5_forecast_46 : decode cX5_forecast 46 = .ok (.invokevirtual 270, 3) := by decide +kernel
theorem dX5_forecast_49 : decode cX5_forecast 49 = .ok (.iload_n 1, 1) := by decide +kernel
theorem dX5_forecast_50 : decode cX5_forecast 50 = .ok (.iload_n 2, 1) := by decide +kernel
theorem dX5_forecast_51 : decode cX5_forecast 51 = .ok (.invokevirtual 274, 3) := by decide +kernel
theorem dX5_forecast_54 : decode cX5_forecast 54 = .ok (.ireturn, 1) := by decide +kernel
theorem dX5_leastWeight_0 : decode cX5_leastWeight 0 = .ok (.aload_n 0, 1) := by decide +kernel
theorem dX5_leastWeight_1 : decode cX5_leastWeight 1 = .ok (.getfield 10, 3) := by decide +kernel
theorem dX5_leastWeight_4 : decode cX5_leastWeight 4 = .ok (.iload_n 1, 1) := by decide +kernel
theorem dX5_leastWeight_5 : decode cX5_leastWeight 5 = .ok (.invokevirtual 62, 3) := by decide +kernel
theorem dX5_leastWeight_8 : decode cX5_leastWeight 8 = .ok (.ifCond .ne 5, 3) := by decide +kernel
theorem dX5_leastWeight_11 : decode cX5_leastWeight 11 = .ok (.iconst (-1), 1) := by decide +kernel
theorem dX5_leastWeight_12 : decode cX5_leastWeight 12 = .ok (.ireturn, 1) := by decide +kernel
theorem dX5_leastWeight_13 : decode cX5_leastWeight 13 = .ok (.iload_n 2, 1) := by decide +kernel
theorem dX5_leastWeight_14 : decode cX5_leastWeight 14 = .ok (.iconst 1, 1) := by decide +kernel
theorem dX5_leastWeight_15 : decode cX5_leastWeight 15 = .ok (.if_icmp .lt 10, 3) := by decide +kernel
theorem dX5_leastWeight_18 : decode cX5_leastWeight 18 = .ok (.iload_n 2, 1) := by decide +kernel
theorem dX5_leastWeight_19 : decode cX5_leastWeight 19 = .ok (.sipush 1000, 3) := by decide +kernel
theorem dX5_leastWeight_22 : decode cX5_leastWeight 22 = .ok (.if_icmp .le 6, 3) := by decide +kernel
theorem dX5_leastWeight_25 : decode cX5_leastWeight 25 = .ok (.bipush (-2), 2) := by decide +kernel
theorem dX5_leastWeight_27 : decode cX5_leastWeight 27 = .ok (.ireturn, 1) := by decide +kernel
theorem dX5_leastWeight_28 : decode cX5_leastWeight 28 = .ok (.aload_n 0, 1) := by decide +kernel
theorem dX5_leastWeight_29 : decode cX5_leastWeight 29 = .ok (.getfield 10, 3) := by decide +kernel
theorem dX5_leastWeight_32 : decode cX5_leastWeight 32 = .ok (.iload_n 1, 1) := by decide +kernel
theorem dX5_leastWeight_33 : decode cX5_leastWeight 33 = .ok (.invokevirtual 65, 3) := by decide +kernel
theorem dX5_leastWeight_36 : decode cX5_leastWeight 36 = .ok (.astore_n 3, 1) := by decide +kernel
theorem dX5_leastWeight_37 : decode cX5_leastWeight 37 = .ok (.aload_n 3, 1) := by decide +kernel
theorem dX5_leastWeight_38 : decode cX5_leastWeight 38 = .ok (.invokevirtual 105, 3) := by decide +kernel
theorem dX5_leastWeight_41 : decode cX5_leastWeight 41 = .ok (.ifCond .ne 6, 3) := by decide +kernel
theorem dX5_leastWeight_44 : decode cX5_leastWeight 44 = .ok (.bipush (-5), 2) := by decide +kernel
theorem dX5_leastWeight_46 : decode cX5_leastWeight 46 = .ok (.ireturn, 1) := by decide +kernel
theorem dX5_leastWeight_47 : decode cX5_leastWeight 47 = .ok (.iconst 1, 1) := by decide +kernel
theorem dX5_leastWeight_48 : decode cX5_leastWeight 48 = .ok (.istore 4, 2) := by decide +kernel
theorem dX5_leastWeight_50 : decode cX5_leastWeight 50 = .ok (.iload 4, 2) := by decide +kernel
theorem dX5_leastWeight_52 : decode cX5_leastWeight 52 = .ok (.bipush 16, 2) := by decide +kernel
theorem dX5_leastWeight_54 : decode cX5_leastWeight 54 = .ok (.if_icmp .gt 47, 3) := by decide +kernel
theorem dX5_leastWeight_57 : decode cX5_leastWeight 57 = .ok (.aload_n 0, 1) := by decide +kernel
theorem dX5_leastWeight_58 : decode cX5_leastWeight 58 = .ok (.invokevirtual 270, 3) := by decide +kernel
theorem dX5_leastWeight_61 : decode cX5_leastWeight 61 = .ok (.astore 5, 2) := by decide +kernel
theorem dX5_leastWeight_63 : decode cX5_leastWeight 63 = .ok (.aload 5, 2) := by decide +kernel
theorem dX5_leastWeight_65 : decode cX5_leastWeight 65 = .ok (.getfield 42, 3) := by decide +kernel
theorem dX5_leastWeight_68 : decode cX5_leastWeight 68 = .ok (.aload_n 3, 1) := by decide +kernel
theorem dX5_leastWeight_69 : decode cX5_leastWeight 69 = .ok (.getfield 77, 3) := by decide +kernel
theorem dX5_leastWeight_72 : decode cX5_leastWeight 72 = .ok (.aaload, 1) := by decide +kernel
theorem dX5_leastWeight_73 : decode cX5_leastWeight 73 = .ok (.getfield 46, 3) := by decide +kernel
theorem dX5_leastWeight_76 : decode cX5_leastWeight 76 = .ok (.iconst 0, 1) := by decide +kernel
theorem dX5_leastWeight_77 : decode cX5_leastWeight 77 = .ok (.iload 4, 2) := by decide +kernel
theorem dX5_leastWeight_79 : decode cX5_leastWeight 79 = .ok (.iastore, 1) := by decide +kernel
theorem dX5_leastWeight_80 : decode cX5_leastWeight 80 = .ok (.aload 5, 2) := by decide +kernel
theorem dX5_leastWeight_82 : decode cX5_leastWeight 82 = .ok (.iload_n 1, 1) := by decide +kernel
theorem dX5_leastWeight_83 : decode cX5_leastWeight 83 = .ok (.iload_n 2, 1) := by decide +kernel
theorem dX5_leastWeight_84 : decode cX5_leastWeight 84 = .ok (.invokevirtual 274, 3) := by decide +kernel
theorem dX5_leastWeight_87 : decode cX5_leastWeight 87 = .ok (.bipush (-6), 2) := by decide +kernel
theorem dX5_leastWeight_89 : decode cX5_leastWeight 89 = .ok (.if_icmp .eq 6, 3) := by decide +kernel
theorem dX5_leastWeight_92 : decode cX5_leastWeight 92 = .ok (.iload 4, 2) := by decide +kernel
theorem dX5_leastWeight_94 : decode cX5_leastWeight 94 = .ok (.ireturn, 1) := by decide +kernel
theorem dX5_leastWeight_95 : decode cX5_leastWeight 95 = .ok (.iinc 4 1, 3) := by decide +kernel
theorem dX5_leastWeight_98 : decode cX5_leastWeight 98 = .ok (.goto (-48), 3) := by decide +kernel
theorem dX5_leastWeight_101 : decode cX5_leastWeight 101 = .ok (.bipush (-6), 2) := by decide +kernel
theorem dX5_leastWeight_103 : decode cX5_leastWeight 103 = .ok (.ireturn, 1) := by decide +kernel
theorem dX5_bestSplit_0 : decode cX5_bestSplit 0 = .ok (.aload_n 0, 1) := by decide +kernel
theorem dX5_bestSplit_1 : decode cX5_bestSplit 1 = .ok (.getfield 10, 3) := by decide +kernel
theorem dX5_bestSplit_4 : decode cX5_bestSplit 4 = .ok (.iload_n 1, 1) := by decide +kernel
theorem dX5_bestSplit_5 : decode cX5_bestSplit 5 = .ok (.invokevirtual 31, 3) := by decide +kernel
theorem dX5_bestSplit_8 : decode cX5_bestSplit 8 = .ok (.ifCond .ne 5, 3) := by decide +kernel
theorem dX5_bestSplit_11 : decode cX5_bestSplit 11 = .ok (.iconst (-1), 1) := by decide +kernel
theorem dX5_bestSplit_12 : decode cX5_bestSplit 12 = .ok (.ireturn, 1) := by decide +kernel
theorem dX5_bestSplit_13 : decode cX5_bestSplit 13 = .ok (.iload_n 2, 1) := by decide +kernel
theorem dX5_bestSplit_14 : decode cX5_bestSplit 14 = .ok (.iload_n 3, 1) := by decide +kernel
theorem dX5_bestSplit_15 : decode cX5_bestSplit 15 = .ok (.iload 4, 2) := by decide +kernel
theorem dX5_bestSplit_17 : decode cX5_bestSplit 17 = .ok (.invokestatic 278, 3) := by decide +kernel
theorem dX5_bestSplit_20 : decode cX5_bestSplit 20 = .ok (.ifCond .eq 17, 3) := by decide +kernel
theorem dX5_bestSplit_23 : decode cX5_bestSplit 23 = .ok (.iload 5, 2) := by decide +kernel
theorem dX5_bestSplit_25 : decode cX5_bestSplit 25 = .ok (.iconst 1, 1) := by decide +kernel
theorem dX5_bestSplit_26 : decode cX5_bestSplit 26 = .ok (.if_icmp .lt 11, 3) := by decide +kernel
theorem dX5_bestSplit_29 : decode cX5_bestSplit 29 = .ok (.iload 5, 2) := by decide +kernel
theorem dX5_bestSplit_31 : decode cX5_bestSplit 31 = .ok (.sipush 1000, 3) := by decide +kernel
theorem dX5_bestSplit_34 : decode cX5_bestSplit 34 = .ok (.if_icmp .le 6, 3) := by decide +kernel
theorem dX5_bestSplit_37 : decode cX5_bestSplit 37 = .ok (.bipush (-2), 2) := by decide +kernel
theorem dX5_bestSplit_39 : decode cX5_bestSplit 39 = .ok (.ireturn, 1) := by decide +kernel
theorem dX5_bestSplit_40 : decode cX5_bestSplit 40 = .ok (.aload_n 0, 1) := by decide +kernel
theorem dX5_bestSplit_41 : decode cX5_bestSplit 41 = .ok (.getfield 10, 3) := by decide +kernel
theorem dX5_bestSplit_44 : decode cX5_bestSplit 44 = .ok (.invokevirtual 282, 3) := by decide +kernel
theorem dX5_bestSplit_47 : decode cX5_bestSplit 47 = .ok (.ifCond .eq 6, 3) := by decide +kernel
theorem dX5_bestSplit_50 : decode cX5_bestSplit 50 = .ok (.bipush (-5), 2) := by decide +kernel
theorem dX5_bestSplit_52 : decode cX5_bestSplit 52 = .ok (.ireturn, 1) := by decide +kernel
theorem dX5_bestSplit_53 : decode cX5_bestSplit 53 = .ok (.iload_n 2, 1) := by decide +kernel
theorem dX5_bestSplit_54 : decode cX5_bestSplit 54 = .ok (.istore 6, 2) := by decide +kernel
theorem dX5_bestSplit_56 : decode cX5_bestSplit 56 = .ok (.ldc_w 287, 3) := by decide +kernel
theorem dX5_bestSplit_59 : decode cX5_bestSplit 59 = .ok (.istore 7, 2) := by decide +kernel
theorem dX5_bestSplit_61 : decode cX5_bestSplit 61 = .ok (.iconst 0, 1) := by decide +kernel
theorem dX5_bestSplit_62 : decode cX5_bestSplit 62 = .ok (.istore 8, 2) := by decide +kernel
theorem dX5_bestSplit_64 : decode cX5_bestSplit 64 = .ok (.iload 8, 2) := by decide +kernel
theorem dX5_bestSplit_66 : decode cX5_bestSplit 66 = .ok (.iload 4, 2) := by decide +kernel
theorem dX5_bestSplit_68 : decode cX5_bestSplit 68 = .ok (.if_icmp .ge 43, 3) := by decide +kernel
theorem dX5_bestSplit_71 : decode cX5_bestSplit 71 = .ok (.iload_n 2, 1) := by decide +kernel
theorem dX5_bestSplit_72 : decode cX5_bestSplit 72 = .ok (.iload 8, 2) := by decide +kernel
theorem dX5_bestSplit_74 : decode cX5_bestSplit 74 = .ok (.iload_n 3, 1) := by decide +kernel
theorem dX5_bestSplit_75 : decode cX5_bestSplit 75 = .ok (.imul, 1) := by decide +kernel
theorem dX5_bestSplit_76 : decode cX5_bestSplit 76 = .ok (.iadd, 1) := by decide +kernel
theorem dX5_bestSplit_77 : decode cX5_bestSplit 77 = .ok (.istore 9, 2) := by decide +kernel
theorem dX5_bestSplit_79 : decode cX5_bestSplit 79 = .ok (.aload_n 0, 1) := by decide +kernel
theorem dX5_bestSplit_80 : decode cX5_bestSplit 80 = .ok (.iload_n 1, 1) := by decide +kernel
theorem dX5_bestSplit_81 : decode cX5_bestSplit 81 = .ok (.iload 9, 2) := by decide +kernel
theorem dX5_bestSplit_83 : decode cX5_bestSplit 83 = .ok (.iload 5, 2) := by decide +kernel
theorem dX5_bestSplit_85 : decode cX5_bestSplit 85 = .ok (.invokevirtual 288, 3) := by decide +kernel
theorem dX5_bestSplit_88 : decode cX5_bestSplit 88 = .ok (.istore 10, 2) := by decide +kernel
theorem dX5_bestSplit_90 : decode cX5_bestSplit 90 = .ok (.iload 10, 2) := by decide +kernel
theorem dX5_bestSplit_92 : decode cX5_bestSplit 92 = .ok (.iload 7, 2) := by decide +kernel
theorem dX5_bestSplit_94 : decode cX5_bestSplit 94 = .ok (.if_icmp .ge 11, 3) := by decide +kernel
theorem dX5_bestSplit_97 : decode cX5_bestSplit 97 = .ok (.iload 10, 2) := by decide +kernel
theorem dX5_bestSplit_99 : decode cX5_bestSplit 99 = .ok (.istore 7, 2) := by decide +kernel
theorem dX5_bestSplit_101 : decode cX5_bestSplit 101 = .ok (.iload 9, 2) := by decide +kernel
theorem dX5_bestSplit_103 : decode cX5_bestSplit 103 = .ok (.istore 6, 2) := by decide +kernel
theorem dX5_bestSplit_105 : decode cX5_bestSplit 105 = .ok (.iinc 8 1, 3) := by decide +kernel
theorem dX5_bestSplit_108 : decode cX5_bestSplit 108 = .ok (.goto (-44), 3) := by decide +kernel
theorem dX5_bestSplit_111 : decode cX5_bestSplit 111 = .ok (.iload 6, 2) := by decide +kernel
theorem dX5_bestSplit_113 : decode cX5_bestSplit 113 = .ok (.ireturn, 1) := by decide +kernel
theorem dX5_save_0 : decode cX5_save 0 = .ok (.iload_n 1, 1) := by decide +kernel
theorem dX5_save_1 : decode cX5_save 1 = .ok (.ifCond .lt 8, 3) := by decide +kernel
theorem dX5_save_4 : decode cX5_save 4 = .ok (.iload_n 1, 1) := by decide +kernel
theorem dX5_save_5 : decode cX5_save 5 = .ok (.iconst 2, 1) := by decide +kernel
theorem dX5_save_6 : decode cX5_save 6 = .ok (.if_icmp .lt 6, 3) := by decide +kernel
theorem dX5_save_9 : decode cX5_save 9 = .ok (.bipush (-2), 2) := by decide +kernel
theorem dX5_save_11 : decode cX5_save 11 = .ok (.ireturn, 1) := by decide +kernel
theorem dX5_save_12 : decode cX5_save 12 = .ok (.aload_n 0, 1) := by decide +kernel
theorem dX5_save_13 : decode cX5_save 13 = .ok (.getfield 16, 3) := by decide +kernel
theorem dX5_save_16 : decode cX5_save 16 = .ok (.iload_n 1, 1) := by decide +kernel
theorem dX5_save_17 : decode cX5_save 17 = .ok (.aaload, 1) := by decide +kernel
theorem dX5_save_18 : decode cX5_save 18 = .ok (.ifnonnull 16, 3) := by decide +kernel
theorem dX5_save_21 : decode cX5_save 21 = .ok (.aload_n 0, 1) := by decide +kernel
theorem dX5_save_22 : decode cX5_save 22 = .ok (.getfield 16, 3) := by decide +kernel
theorem dX5_save_25 : decode cX5_save 25 = .ok (.iload_n 1, 1) := by decide +kernel
theorem dX5_save_26 : decode cX5_save 26 = .ok (.new 7, 3) := by decide +kernel
theorem dX5_save_29 : decode cX5_save 29 = .ok (.dup, 1) := by decide +kernel
theorem dX5_save_30 : decode cX5_save 30 = .ok (.invokespecial 9, 3) := by decide +kernel
theorem dX5_save_33 : decode cX5_save 33 = .ok (.aastore, 1) := by decide +kernel
theorem dX5_save_34 : decode cX5_save 34 = .ok (.aload_n 0, 1) := by decide +kernel
theorem dX5_save_35 : decode cX5_save 35 = .ok (.getfield 16, 3) := by decide +kernel
theorem dX5_save_38 : decode cX5_save 38 = .ok (.iload_n 1, 1) := by decide +kernel
theorem dX5_save_39 : decode cX5_save 39 = .ok (.aaload, 1) := by decide +kernel
theorem dX5_save_40 : decode cX5_save 40 = .ok (.aload_n 0, 1) := by decide +kernel
theorem dX5_save_41 : decode cX5_save 41 = .ok (.getfield 10, 3) := by decide +kernel
theorem dX5_save_44 : decode cX5_save 44 = .ok (.invokevirtual 291, 3) := by decide +kernel
theorem dX5_save_47 : decode cX5_save 47 = .ok (.aload_n 0, 1) := by decide +kernel
theorem dX5_save_48 : decode cX5_save 48 = .ok (.getfield 10, 3) := by decide +kernel
theorem dX5_save_51 : decode cX5_save 51 = .ok (.getfield 146, 3) := by decide +kernel
theorem dX5_save_54 : decode cX5_save 54 = .ok (.ireturn, 1) := by decide +kernel
theorem dX5_restore_0 : decode cX5_restore 0 = .ok (.iload_n 1, 1) := by decide +kernel
theorem dX5_restore_1 : decode cX5_restore 1 = .ok (.ifCond .lt 8, 3) := by decide +kernel
theorem dX5_restore_4 : decode cX5_restore 4 = .ok (.iload_n 1, 1) := by decide +kernel
theorem dX5_restore_5 : decode cX5_restore 5 = .ok (.iconst 2, 1) := by decide +kernel
theorem dX5_restore_6 : decode cX5_restore 6 = .ok (.if_icmp .lt 6, 3) := by decide +kernel
theorem dX5_restore_9 : decode cX5_restore 9 = .ok (.bipush (-2), 2) := by decide +kernel
theorem dX5_restore_11 : decode cX5_restore 11 = .ok (.ireturn, 1) := by decide +kernel
theorem dX5_restore_12 : decode cX5_restore 12 = .ok (.aload_n 0, 1) := by decide +kernel
theorem dX5_restore_13 : decode cX5_restore 13 = .ok (.getfield 16, 3) := by decide +kernel
theorem dX5_restore_16 : decode cX5_restore 16 = .ok (.iload_n 1, 1) := by decide +kernel
theorem dX5_restore_17 : decode cX5_restore 17 = .ok (.aaload, 1) := by decide +kernel
theorem dX5_restore_18 : decode cX5_restore 18 = .ok (.ifnonnull 6, 3) := by decide +kernel
theorem dX5_restore_21 : decode cX5_restore 21 = .ok (.bipush (-5), 2) := by decide +kernel
theorem dX5_restore_23 : decode cX5_restore 23 = .ok (.ireturn, 1) := by decide +kernel
theorem dX5_restore_24 : decode cX5_restore 24 = .ok (.aload_n 0, 1) := by decide +kernel
theorem dX5_restore_25 : decode cX5_restore 25 = .ok (.getfield 10, 3) := by decide +kernel
theorem dX5_restore_28 : decode cX5_restore 28 = .ok (.aload_n 0, 1) := by decide +kernel
theorem dX5_restore_29 : decode cX5_restore 29 = .ok (.getfield 16, 3) := by decide +kernel
theorem dX5_restore_32 : decode cX5_restore 32 = .ok (.iload_n 1, 1) := by decide +kernel
theorem dX5_restore_33 : decode cX5_restore 33 = .ok (.aaload, 1) := by decide +kernel
theorem dX5_restore_34 : decode cX5_restore 34 = .ok (.invokevirtual 291, 3) := by decide +kernel
theorem dX5_restore_37 : decode cX5_restore 37 = .ok (.aload_n 0, 1) := by decide +kernel
theorem dX5_restore_38 : decode cX5_restore 38 = .ok (.getfield 10, 3) := by decide +kernel
theorem dX5_restore_41 : decode cX5_restore 41 = .ok (.getfield 146, 3) := by decide +kernel
theorem dX5_restore_44 : decode cX5_restore 44 = .ok (.ireturn, 1) := by decide +kernel
theorem dX5_countCharacters_0 : decode cX5_countCharacters 0 = .ok (.iconst 0, 1) := by decide +kernel
theorem dX5_countCharacters_1 : decode cX5_countCharacters 1 = .ok (.istore_n 2, 1) := by decide +kernel
theorem dX5_countCharacters_2 : decode cX5_countCharacters 2 = .ok (.iload_n 2, 1) := by decide +kernel
theorem dX5_countCharacters_3 : decode cX5_countCharacters 3 = .ok (.bipush 8, 2) := by decide +kernel
theorem dX5_countCharacters_5 : decode cX5_countCharacters 5 = .ok (.if_icmp .ge 51, 3) := by decide +kernel
theorem dX5_countCharacters_8 : decode cX5_countCharacters 8 = .ok (.lload_n 0, 1) := by decide +kernel
theorem dX5_countCharacters_9 : decode cX5_countCharacters 9 = .ok (.bipush 8, 2) := by decide +kernel
theorem dX5_countCharacters_11 : decode cX5_countCharacters 11 = .ok (.iload_n 2, 1) := by decide +kernel
theorem dX5_countCharacters_12 : decode cX5_countCharacters 12 = .ok (.imul, 1) := by decide +kernel
theorem dX5_countCharacters_13 : decode cX5_countCharacters 13 = .ok (.lushr, 1) := by decide +kernel
theorem dX5_countCharacters_14 : decode cX5_countCharacters 14 = .ok (.lstore_n 3, 1) := by decide +kernel
theorem dX5_countCharacters_15 : decode cX5_countCharacters 15 = .ok (.lload_n 3, 1) := by decide +kernel
theorem dX5_countCharacters_16 : decode cX5_countCharacters 16 = .ok (.lconst 0, 1) := by decide +kernel
theorem dX5_countCharacters_17 : decode cX5_countCharacters 17 = .ok (.lcmp, 1) := by decide +kernel
theorem dX5_countCharacters_18 : decode cX5_countCharacters 18 = .ok (.ifCond .ne 5, 3) := by decide +kernel
theorem dX5_countCharacters_21 : decode cX5_countCharacters 21 = .ok (.iload_n 2, 1) := by decide +kernel
theorem dX5_countCharacters_22 : decode cX5_countCharacters 22 = .ok (.ireturn, 1) := by decide +kernel
theorem dX5_countCharacters_23 : decode cX5_countCharacters 23 = .ok (.lload_n 3, 1) := by decide +kernel
theorem dX5_countCharacters_24 : decode cX5_countCharacters 24 = .ok (.ldc2_w 295, 3) := by decide +kernel
theorem dX5_countCharacters_27 : decode cX5_countCharacters 27 = .ok (.land, 1) := by decide +kernel
theorem dX5_countCharacters_28 : decode cX5_countCharacters 28 = .ok (.lstore 5, 2) := by decide +kernel
theorem dX5_countCharacters_30 : decode cX5_countCharacters 30 = .ok (.lload 5, 2) := by decide +kernel
theorem dX5_countCharacters_32 : decode cX5_countCharacters 32 = .ok (.ldc2_w 297, 3) := by decide +kernel
theorem dX5_countCharacters_35 : decode cX5_countCharacters 35 = .ok (.lcmp, 1) := by decide +kernel
theorem dX5_countCharacters_36 : decode cX5_countCharacters 36 = .ok (.ifCond .lt 12, 3) := by decide +kernel
theorem dX5_countCharacters_39 : decode cX5_countCharacters 39 = .ok (.lload 5, 2) := by decide +kernel
theorem dX5_countCharacters_41 : decode cX5_countCharacters 41 = .ok (.ldc2_w 299, 3) := by decide +kernel
theorem dX5_countCharacters_44 : decode cX5_countCharacters 44 = .ok (.lcmp, 1) := by decide +kernel
theorem dX5_countCharacters_45 : decode cX5_countCharacters 45 = .ok (.ifCond .le 5, 3) := by decide +kernel
theorem dX5_countCharacters_48 : decode cX5_countCharacters 48 = .ok (.iconst 0, 1) := by decide +kernel
theorem dX5_countCharacters_49 : decode cX5_countCharacters 49 = .ok (.ireturn, 1) := by decide +kernel
theorem dX5_countCharacters_50 : decode cX5_countCharacters 50 = .ok (.iinc 2 1, 3) := by decide +kernel
theorem dX5_countCharacters_53 : decode cX5_countCharacters 53 = .ok (.goto (-51), 3) := by decide +kernel
theorem dX5_countCharacters_56 : decode cX5_countCharacters 56 = .ok (.bipush 8, 2) := by decide +kernel
theorem dX5_countCharacters_58 : decode cX5_countCharacters 58 = .ok (.ireturn, 1) := by decide +kernel
theorem dX5_hasFlowsOfPad_0 : decode cX5_hasFlowsOfPad 0 = .ok (.aload_n 0, 1) := by decide +kernel
theorem dX5_hasFlowsOfPad_1 : decode cX5_hasFlowsOfPad 1 = .ok (.getfield 10, 3) := by decide +kernel
theorem dX5_hasFlowsOfPad_4 : decode cX5_hasFlowsOfPad 4 = .ok (.getfield 123, 3) := by decide +kernel
theorem dX5_hasFlowsOfPad_7 : decode cX5_hasFlowsOfPad 7 = .ok (.astore_n 1, 1) := by decide +kernel
theorem dX5_hasFlowsOfPad_8 : decode cX5_hasFlowsOfPad 8 = .ok (.aload_n 1, 1) := by decide +kernel
theorem dX5_hasFlowsOfPad_9 : decode cX5_hasFlowsOfPad 9 = .ok (.invokevirtual 301, 3) := by decide +kernel
theorem dX5_hasFlowsOfPad_12 : decode cX5_hasFlowsOfPad 12 = .ok (.iconst 0, 1) := by decide +kernel
theorem dX5_hasFlowsOfPad_13 : decode cX5_hasFlowsOfPad 13 = .ok (.istore_n 2, 1) := by decide +kernel
theorem dX5_hasFlowsOfPad_14 : decode cX5_hasFlowsOfPad 14 = .ok (.iload_n 2, 1) := by decide +kernel
theorem dX5_hasFlowsOfPad_15 : decode cX5_hasFlowsOfPad 15 = .ok (.bipush 80, 2) := by decide +kernel
theorem dX5_hasFlowsOfPad_17 : decode cX5_hasFlowsOfPad 17 = .ok (.if_icmp .ge 32, 3) := by decide +kernel
theorem dX5_hasFlowsOfPad_20 : decode cX5_hasFlowsOfPad 20 = .ok (.aload_n 1, 1) := by decide +kernel
theorem dX5_hasFlowsOfPad_21 : decode cX5_hasFlowsOfPad 21 = .ok (.invokevirtual 304, 3) := by decide +kernel
theorem dX5_hasFlowsOfPad_24 : decode cX5_hasFlowsOfPad 24 = .ok (.ifCond .eq 25, 3) := by decide +kernel
theorem dX5_hasFlowsOfPad_27 : decode cX5_hasFlowsOfPad 27 = .ok (.aload_n 0, 1) := by decide +kernel
theorem dX5_hasFlowsOfPad_28 : decode cX5_hasFlowsOfPad 28 = .ok (.getfield 10, 3) := by decide +kernel
theorem dX5_hasFlowsOfPad_31 : decode cX5_hasFlowsOfPad 31 = .ok (.aload_n 1, 1) := by decide +kernel
theorem dX5_hasFlowsOfPad_32 : decode cX5_hasFlowsOfPad 32 = .ok (.getfield 307, 3) := by decide +kernel
theorem dX5_hasFlowsOfPad_35 : decode cX5_hasFlowsOfPad 35 = .ok (.invokevirtual 31, 3) := by decide +kernel
theorem dX5_hasFlowsOfPad_38 : decode cX5_hasFlowsOfPad 38 = .ok (.ifCond .ne 5, 3) := by decide +kernel
theorem dX5_hasFlowsOfPad_41 : decode cX5_hasFlowsOfPad 41 = .ok (.iconst 0, 1) := by decide +kernel
theorem dX5_hasFlowsOfPad_42 : decode cX5_hasFlowsOfPad 42 = .ok (.ireturn, 1) := by decide +kernel
theorem dX5_hasFlowsOfPad_43 : decode cX5_hasFlowsOfPad 43 = .ok (.iinc 2 1, 3) := by decide +kernel
theorem dX5_hasFlowsOfPad_46 : decode cX5_hasFlowsOfPad 46 = .ok (.goto (-32), 3) := by decide +kernel
theorem dX5_hasFlowsOfPad_49 : decode cX5_hasFlowsOfPad 49 = .ok (.iconst 1, 1) := by decide +kernel
theorem dX5_hasFlowsOfPad_50 : decode cX5_hasFlowsOfPad 50 = .ok (.ireturn, 1) := by decide +kernel
theorem dX5_acceptArrivals_0 : decode cX5_acceptArrivals 0 = .ok (.aload_n 0, 1) := by decide +kernel
theorem dX5_acceptArrivals_1 : decode cX5_acceptArrivals 1 = .ok (.getfield 10, 3) := by decide +kernel
theorem dX5_acceptArrivals_4 : decode cX5_acceptArrivals 4 = .ok (.getfield 123, 3) := by decide +kernel
theorem dX5_acceptArrivals_7 : decode cX5_acceptArrivals 7 = .ok (.astore_n 1, 1) := by decide +kernel
theorem dX5_acceptArrivals_8 : decode cX5_acceptArrivals 8 = .ok (.iconst 0, 1) := by decide +kernel
theorem dX5_acceptArrivals_9 : decode cX5_acceptArrivals 9 = .ok (.istore_n 2, 1) := by decide +kernel
theorem dX5_acceptArrivals_10 : decode cX5_acceptArrivals 10 = .ok (.aload_n 1, 1) := by decide +kernel
theorem dX5_acceptArrivals_11 : decode cX5_acceptArrivals 11 = .ok (.invokevirtual 301, 3) := by decide +kernel
theorem dX5_acceptArrivals_14 : decode cX5_acceptArrivals 14 = .ok (.iconst 0, 1) := by decide +kernel
theorem dX5_acceptArrivals_15 : decode cX5_acceptArrivals 15 = .ok (.istore_n 3, 1) := by decide +kernel
theorem dX5_acceptArrivals_16 : decode cX5_acceptArrivals 16 = .ok (.iload_n 3, 1) := by decide +kernel
theorem dX5_acceptArrivals_17 : decode cX5_acceptArrivals 17 = .ok (.bipush 80, 2) := by decide +kernel
theorem dX5_acceptArrivals_19 : decode cX5_acceptArrivals 19 = .ok (.if_icmp .ge 71, 3) := by decide +kernel
theorem dX5_acceptArrivals_22 : decode cX5_acceptArrivals 22 = .ok (.aload_n 1, 1) := by decide +kernel
theorem dX5_acceptArrivals_23 : decode cX5_acceptArrivals 23 = .ok (.invokevirtual 304, 3) := by decide +kernel
theorem dX5_acceptArrivals_26 : decode cX5_acceptArrivals 26 = .ok (.ifCond .eq 64, 3) := by decide +kernel
theorem dX5_acceptArrivals_29 : decode cX5_acceptArrivals 29 = .ok (.iconst 0, 1) := by decide +kernel
theorem dX5_acceptArrivals_30 : decode cX5_acceptArrivals 30 = .ok (.istore 4, 2) := by decide +kernel
theorem dX5_acceptArrivals_32 : decode cX5_acceptArrivals 32 = .ok (.iload 4, 2) := by decide +kernel
theorem dX5_acceptArrivals_34 : decode cX5_acceptArrivals 34 = .ok (.aload_n 1, 1) := by decide +kernel
theorem dX5_acceptArrivals_35 : decode cX5_acceptArrivals 35 = .ok (.getfield 308, 3) := by decide +kernel
theorem dX5_acceptArrivals_38 : decode cX5_acceptArrivals 38 = .ok (.if_icmp .ge 46, 3) := by decide +kernel
theorem dX5_acceptArrivals_41 : decode cX5_acceptArrivals 41 = .ok (.aload_n 0, 1) := by decide +kernel
theorem dX5_acceptArrivals_42 : decode cX5_acceptArrivals 42 = .ok (.getfield 10, 3) := by decide +kernel
theorem dX5_acceptArrivals_45 : decode cX5_acceptArrivals 45 = .ok (.aload_n 1, 1) := by decide +kernel
theorem dX5_acceptArrivals_46 : decode cX5_acceptArrivals 46 = .ok (.getfield 307, 3) := by decide +kernel
theorem dX5_acceptArrivals_49 : decode cX5_acceptArrivals 49 = .ok (.invokevirtual 55, 3) := by decide +kernel
theorem dX5_acceptArrivals_52 : decode cX5_acceptArrivals 52 = .ok (.ifCond .eq 26, 3) := by decide +kernel
theorem dX5_acceptArrivals_55 : decode cX5_acceptArrivals 55 = .ok (.aload_n 0, 1) := by decide +kernel
theorem dX5_acceptArrivals_56 : decode cX5_acceptArrivals 56 = .ok (.getfield 10, 3) := by decide +kernel
theorem dX5_acceptArrivals_59 : decode cX5_acceptArrivals 59 = .ok (.aload_n 1, 1) := by decide +kernel
theorem dX5_acceptArrivals_60 : decode cX5_acceptArrivals 60 = .ok (.getfield 307, 3) := by decide +kernel
theorem dX5_acceptArrivals_63 : decode cX5_acceptArrivals 63 = .ok (.aload_n 1, 1) := by decide +kernel
theorem dX5_acceptArrivals_64 : decode cX5_acceptArrivals 64 = .ok (.getfield 311, 3) := by decide +kernel
theorem dX5_acceptArrivals_67 : decode cX5_acceptArrivals 67 = .ok (.aload_n 1, 1) := by decide +kernel
theorem dX5_acceptArrivals_68 : decode cX5_acceptArrivals 68 = .ok (.getfield 312, 3) := by decide +kernel
theorem dX5_acceptArrivals_71 : decode cX5_acceptArrivals 71 = .ok (.invokevirtual 58, 3) := by decide +kernel
theorem dX5_acceptArrivals_74 : decode cX5_acceptArrivals 74 = .ok (.pop, 1) := by decide +kernel
theorem dX5_acceptArrivals_75 : decode cX5_acceptArrivals 75 = .ok (.iinc 2 1, 3) := by decide +kernel
theorem dX5_acceptArrivals_78 : decode cX5_acceptArrivals 78 = .ok (.iinc 4 1, 3) := by decide +kernel
theorem dX5_acceptArrivals_81 : decode cX5_acceptArrivals 81 = .ok (.goto (-49), 3) := by decide +kernel
theorem dX5_acceptArrivals_84 : decode cX5_acceptArrivals 84 = .ok (.iinc 3 1, 3) := by decide +kernel
theorem dX5_acceptArrivals_87 : decode cX5_acceptArrivals 87 = .ok (.goto (-71), 3) := by decide +kernel
theorem dX5_acceptArrivals_90 : decode cX5_acceptArrivals 90 = .ok (.iload_n 2, 1) := by decide +kernel
theorem dX5_acceptArrivals_91 : decode cX5_acceptArrivals 91 = .ok (.ireturn, 1) := by decide +kernel
theorem dX5_areSplits_0 : decode cX5_areSplits 0 = .ok (.iload_n 0, 1) := by decide +kernel
theorem dX5_areSplits_1 : decode cX5_areSplits 1 = .ok (.ifCond .lt 22, 3) := by decide +kernel
theorem dX5_areSplits_4 : decode cX5_areSplits 4 = .ok (.iload_n 0, 1) := by decide +kernel
theorem dX5_areSplits_5 : decode cX5_areSplits 5 = .ok (.sipush 1000, 3) := by decide +kernel
theorem dX5_areSplits_8 : decode cX5_areSplits 8 = .ok (.if_icmp .gt 15, 3) := by decide +kernel
theorem dX5_areSplits_11 : decode cX5_areSplits 11 = .ok (.iload_n 1, 1) := by decide +kernel
theorem dX5_areSplits_12 : decode cX5_areSplits 12 = .ok (.iconst 1, 1) := by decide +kernel
theorem dX5_areSplits_13 : decode cX5_areSplits 13 = .ok (.if_icmp .lt 10, 3) := by decide +kernel
theorem dX5_areSplits_16 : decode cX5_areSplits 16 = .ok (.iload_n 1, 1) := by decide +kernel
theorem dX5_areSplits_17 : decode cX5_areSplits 17 = .ok (.sipush 500, 3) := by decide +kernel
theorem dX5_areSplits_20 : decode cX5_areSplits 20 = .ok (.if_icmp .le 5, 3) := by decide +kernel
theorem dX5_areSplits_23 : decode cX5_areSplits 23 = .ok (.iconst 0, 1) := by decide +kernel
theorem dX5_areSplits_24 : decode cX5_areSplits 24 = .ok (.ireturn, 1) := by decide +kernel
theorem dX5_areSplits_25 : decode cX5_areSplits 25 = .ok (.iload_n 2, 1) := by decide +kernel
theorem dX5_areSplits_26 : decode cX5_areSplits 26 = .ok (.iconst 1, 1) := by decide +kernel
theorem dX5_areSplits_27 : decode cX5_areSplits 27 = .ok (.if_icmp .lt 9, 3) := by decide +kernel
theorem dX5_areSplits_30 : decode cX5_areSplits 30 = .ok (.iload_n 2, 1) := by decide +kernel
theorem dX5_areSplits_31 : decode cX5_areSplits 31 = .ok (.bipush 6, 2) := by decide +kernel
theorem dX5_areSplits_33 : decode cX5_areSplits 33 = .ok (.if_icmp .le 5, 3) := by decide +kernel
theorem dX5_areSplits_36 : decode cX5_areSplits 36 = .ok (.iconst 0, 1) := by decide +kernel
theorem dX5_areSplits_37 : decode cX5_areSplits 37 = .ok (.ireturn, 1) := by decide +kernel
theorem dX5_areSplits_38 : decode cX5_areSplits 38 = .ok (.iload_n 0, 1) := by decide +kernel
theorem dX5_areSplits_39 : decode cX5_areSplits 39 = .ok (.iload_n 1, 1) := by decide +kernel
theorem dX5_areSplits_40 : decode cX5_areSplits 40 = .ok (.iload_n 2, 1) := by decide +kernel
theorem dX5_areSplits_41 : decode cX5_areSplits 41 = .ok (.iconst 1, 1) := by decide +kernel
theorem dX5_areSplits_42 : decode cX5_areSplits 42 = .ok (.isub, 1) := by decide +kernel
theorem dX5_areSplits_43 : decode cX5_areSplits 43 = .ok (.imul, 1) := by decide +kernel
theorem dX5_areSplits_44 : decode cX5_areSplits 44 = .ok (.iadd, 1) := by decide +kernel
theorem dX5_areSplits_45 : decode cX5_areSplits 45 = .ok (.sipush 1000, 3) := by decide +kernel
theorem dX5_areSplits_48 : decode cX5_areSplits 48 = .ok (.if_icmp .gt 7, 3) := by decide +kernel
theorem dX5_areSplits_51 : decode cX5_areSplits 51 = .ok (.iconst 1, 1) := by decide +kernel
theorem dX5_areSplits_52 : decode cX5_areSplits 52 = .ok (.goto 4, 3) := by decide +kernel
theorem dX5_areSplits_55 : decode cX5_areSplits 55 = .ok (.iconst 0, 1) := by decide +kernel
theorem dX5_areSplits_56 : decode cX5_areSplits 56 = .ok (.ireturn, 1) := by decide +kernel
theorem dX5_freshCopy_0 : decode cX5_freshCopy 0 = .ok (.aload_n 0, 1) := by decide +kernel
theorem dX5_freshCopy_1 : decode cX5_freshCopy 1 = .ok (.getfield 20, 3) := by decide +kernel
theorem dX5_freshCopy_4 : decode cX5_freshCopy 4 = .ok (.ifnonnull 14, 3) := by decide +kernel
theorem dX5_freshCopy_7 : decode cX5_freshCopy 7 = .ok (.aload_n 0, 1) := by decide +kernel
theorem dX5_freshCopy_8 : decode cX5_freshCopy 8 = .ok (.new 7, 3) := by decide +kernel
theorem dX5_freshCopy_11 : decode cX5_freshCopy 11 = .ok (.dup, 1) := by decide +kernel
theorem dX5_freshCopy_12 : decode cX5_freshCopy 12 = .ok (.invokespecial 9, 3) := by decide +kernel
theorem dX5_freshCopy_15 : decode cX5_freshCopy 15 = .ok (.putfield 20, 3) := by decide +kernel
theorem dX5_freshCopy_18 : decode cX5_freshCopy 18 = .ok (.aload_n 0, 1) := by decide +kernel
theorem dX5_freshCopy_19 : decode cX5_freshCopy 19 = .ok (.getfield 20, 3) := by decide +kernel
theorem dX5_freshCopy_22 : decode cX5_freshCopy 22 = .ok (.aload_n 0, 1) := by decide +kernel
theorem dX5_freshCopy_23 : decode cX5_freshCopy 23 = .ok (.getfield 10, 3) := by decide +kernel
theorem dX5_freshCopy_26 : decode cX5_freshCopy 26 = .ok (.invokevirtual 291, 3) := by decide +kernel
theorem dX5_freshCopy_29 : decode cX5_freshCopy 29 = .ok (.aload_n 0, 1) := by decide +kernel
theorem dX5_freshCopy_30 : decode cX5_freshCopy 30 = .ok (.getfield 20, 3) := by decide +kernel
theorem dX5_freshCopy_33 : decode cX5_freshCopy 33 = .ok (.areturn, 1) := by decide +kernel
theorem dX5_greatestDelayWith_0 : decode cX5_greatestDelayWith 0 = .ok (.aload_n 0, 1) := by decide +kernel
theorem dX5_greatestDelayWith_1 : decode cX5_greatestDelayWith 1 = .ok (.invokevirtual 270, 3) := by decide +kernel
theorem dX5_greatestDelayWith_4 : decode cX5_greatestDelayWith 4 = .ok (.astore 4, 2) := by decide +kernel
theorem dX5_greatestDelayWith_6 : decode cX5_greatestDelayWith 6 = .ok (.aload 4, 2) := by decide +kernel
theorem dX5_greatestDelayWith_8 : decode cX5_greatestDelayWith 8 = .ok (.getfield 42, 3) := by decide +kernel
theorem dX5_greatestDelayWith_11 : decode cX5_greatestDelayWith 11 = .ok (.iload_n 1, 1) := by decide +kernel
theorem dX5_greatestDelayWith_12 : decode cX5_greatestDelayWith 12 = .ok (.aaload, 1) := by decide +kernel
theorem dX5_greatestDelayWith_13 : decode cX5_greatestDelayWith 13 = .ok (.getfield 46, 3) := by decide +kernel
theorem dX5_greatestDelayWith_16 : decode cX5_greatestDelayWith 16 = .ok (.iconst 2, 1) := by decide +kernel
theorem dX5_greatestDelayWith_17 : decode cX5_greatestDelayWith 17 = .ok (.iload_n 2, 1) := by decide +kernel
theorem dX5_greatestDelayWith_18 : decode cX5_greatestDelayWith 18 = .ok (.iastore, 1) := by decide +kernel
theorem dX5_greatestDelayWith_19 : decode cX5_greatestDelayWith 19 = .ok (.iconst 0, 1) := by decide +kernel
theorem dX5_greatestDelayWith_20 : decode cX5_greatestDelayWith 20 = .ok (.istore 5, 2) := by decide +kernel
theorem dX5_greatestDelayWith_22 : decode cX5_greatestDelayWith 22 = .ok (.iload 5, 2) := by decide +kernel
theorem dX5_greatestDelayWith_24 : decode cX5_greatestDelayWith 24 = .ok (.iload_n 3, 1) := by decide +kernel
theorem dX5_greatestDelayWith_25 : decode cX5_greatestDelayWith 25 = .ok (.if_icmp .ge 14, 3) := by decide +kernel
theorem dX5_greatestDelayWith_28 : decode cX5_greatestDelayWith 28 = .ok (.aload 4, 2) := by decide +kernel
theorem dX5_greatestDelayWith_30 : decode cX5_greatestDelayWith 30 = .ok (.invokevirtual 313, 3) := by decide +kernel
theorem dX5_greatestDelayWith_33 : decode cX5_greatestDelayWith 33 = .ok (.iinc 5 1, 3) := by decide +kernel
theorem dX5_greatestDelayWith_36 : decode cX5_greatestDelayWith 36 = .ok (.goto (-14), 3) := by decide +kernel
theorem dX5_greatestDelayWith_39 : decode cX5_greatestDelayWith 39 = .ok (.iconst 0, 1) := by decide +kernel
theorem dX5_greatestDelayWith_40 : decode cX5_greatestDelayWith 40 = .ok (.istore 5, 2) := by decide +kernel
theorem dX5_greatestDelayWith_42 : decode cX5_greatestDelayWith 42 = .ok (.aload_n 0, 1) := by decide +kernel
theorem dX5_greatestDelayWith_43 : decode cX5_greatestDelayWith 43 = .ok (.getfield 10, 3) := by decide +kernel
theorem dX5_greatestDelayWith_46 : decode cX5_greatestDelayWith 46 = .ok (.invokevirtual 248, 3) := by decide +kernel
theorem dX5_greatestDelayWith_49 : decode cX5_greatestDelayWith 49 = .ok (.istore 6, 2) := by decide +kernel
theorem dX5_greatestDelayWith_51 : decode cX5_greatestDelayWith 51 = .ok (.iload 6, 2) := by decide +kernel
theorem dX5_greatestDelayWith_53 : decode cX5_greatestDelayWith 53 = .ok (.aload_n 0, 1) := by decide +kernel
theorem dX5_greatestDelayWith_54 : decode cX5_greatestDelayWith 54 = .ok (.getfield 10, 3) := by decide +kernel
theorem dX5_greatestDelayWith_57 : decode cX5_greatestDelayWith 57 = .ok (.getfield 216, 3) := by decide +kernel
theorem dX5_greatestDelayWith_60 : decode cX5_greatestDelayWith 60 = .ok (.if_icmp .ge 58, 3) := by decide +kernel
theorem dX5_greatestDelayWith_63 : decode cX5_greatestDelayWith 63 = .ok (.aload_n 0, 1) := by decide +kernel
theorem dX5_greatestDelayWith_64 : decode cX5_greatestDelayWith 64 = .ok (.getfield 10, 3) := by decide +kernel
theorem dX5_greatestDelayWith_67 : decode cX5_greatestDelayWith 67 = .ok (.iload 6, 2) := by decide +kernel
theorem dX5_greatestDelayWith_69 : decode cX5_greatestDelayWith 69 = .ok (.invokevirtual 65, 3) := by decide +kernel
theorem dX5_greatestDelayWith_72 : decode cX5_greatestDelayWith 72 = .ok (.invokevirtual 105, 3) := by decide +kernel
theorem dX5_greatestDelayWith_75 : decode cX5_greatestDelayWith 75 = .ok (.ifCond .eq 37, 3) := by decide +kernel
theorem dX5_greatestDelayWith_78 : decode cX5_greatestDelayWith 78 = .ok (.aload 4, 2) := by decide +kernel
theorem dX5_greatestDelayWith_80 : decode cX5_greatestDelayWith 80 = .ok (.iload 6, 2) := by decide +kernel
theorem dX5_greatestDelayWith_82 : decode cX5_greatestDelayWith 82 = .ok (.invokevirtual 65, 3) := by decide +kernel
theorem dX5_greatestDelayWith_85 : decode cX5_greatestDelayWith 85 = .ok (.astore 7, 2) := by decide +kernel
theorem dX5_greatestDelayWith_87 : decode cX5_greatestDelayWith 87 = .ok (.aload 7, 2) := by decide +kernel
theorem dX5_greatestDelayWith_89 : decode cX5_greatestDelayWith 89 = .ok (.getfield 69, 3) := by decide +kernel
theorem dX5_greatestDelayWith_92 : decode cX5_greatestDelayWith 92 = .ok (.iconst 3, 1) := by decide +kernel
theorem dX5_greatestDelayWith_93 : decode cX5_greatestDelayWith 93 = .ok (.if_icmp .eq 7, 3) := by decide +kernel
theorem dX5_greatestDelayWith_96 : decode cX5_greatestDelayWith 96 = .ok (.ldc_w 287, 3) := by decide +kernel
theorem dX5_greatestDelayWith_99 : decode cX5_greatestDelayWith 99 = .ok (.ireturn, 1) := by decide +kernel
theorem dX5_greatestDelayWith_100 : decode cX5_greatestDelayWith 100 = .ok (.iload 5, 2) := by decide +kernel
theorem dX5_greatestDelayWith_102 : decode cX5_greatestDelayWith 102 = .ok (.aload 7, 2) := by decide +kernel
theorem dX5_greatestDelayWith_104 : decode cX5_greatestDelayWith 104 = .ok (.invokevirtual 316, 3) := by decide +kernel
theorem dX5_greatestDelayWith_107 : decode cX5_greatestDelayWith 107 = .ok (.invokestatic 319, 3) := by decide +kernel
theorem dX5_greatestDelayWith_110 : decode cX5_greatestDelayWith 110 = .ok (.istore 5, 2) := by decide +kernel
theorem dX5_greatestDelayWith_112 : decode cX5_greatestDelayWith 112 = .ok (.iinc 6 1, 3) := by decide +kernel
theorem dX5_greatestDelayWith_115 : decode cX5_greatestDelayWith 115 = .ok (.goto (-64), 3) := by decide +kernel
theorem dX5_greatestDelayWith_118 : decode cX5_greatestDelayWith 118 = .ok (.iload 5, 2) := by decide +kernel
theorem dX5_greatestDelayWith_120 : decode cX5_greatestDelayWith 120 = .ok (.ireturn, 1) := by decide +kernel
theorem dX6_init_0 : decode cX6_init 0 = .ok (.aload_n 0, 1) := by decide +kernel
theorem dX6_init_1 : decode cX6_init 1 = .ok (.invokespecial 1, 3) := by decide +kernel
theorem dX6_init_4 : decode cX6_init 4 = .ok (.aload_n 0, 1) := by decide +kernel
theorem dX6_init_5 : decode cX6_init 5 = .ok (.sipush 1826, 3) := by decide +kernel
theorem dX6_init_8 : decode cX6_init 8 = .ok (.newarray .long, 2) := by decide +kernel
theorem dX6_init_10 : decode cX6_init 10 = .ok (.putfield 7, 3) := by decide +kernel
theorem dX6_init_13 : decode cX6_init 13 = .ok (.aload_n 0, 1) := by decide +kernel
theorem dX6_init_14 : decode cX6_init 14 = .ok (.sipush 1826, 3) := by decide +kernel
theorem dX6_init_17 : decode cX6_init 17 = .ok (.newarray .long, 2) := by decide +kernel
theorem dX6_init_19 : decode cX6_init 19 = .ok (.putfield 13, 3) := by decide +kernel
theorem dX6_init_22 : decode cX6_init 22 = .ok (.aload_n 0, 1) := by decide +kernel
theorem dX6_init_23 : decode cX6_init 23 = .ok (.sipush 3652, 3) := by decide +kernel
theorem dX6_init_26 : decode cX6_init 26 = .ok (.newarray .long, 2) := by decide +kernel
theorem dX6_init_28 : decode cX6_init 28 = .ok (.putfield 16, 3) := by decide +kernel
theorem dX6_init_31 : decode cX6_init 31 = .ok (.aload_n 0, 1) := by decide +kernel
theorem dX6_init_32 : decode cX6_init 32 = .ok (.iconst 2, 1) := by decide +kernel
theorem dX6_init_33 : decode cX6_init 33 = .ok (.newarray .boolean, 2) := by decide +kernel
theorem dX6_init_35 : decode cX6_init 35 = .ok (.putfield 19, 3) := by decide +kernel
theorem dX6_init_38 : decode cX6_init 38 = .ok (.aload_n 0, 1) := by decide +kernel
theorem dX6_init_39 : decode cX6_init 39 = .ok (.sipush 160, 3) := by decide +kernel
theorem dX6_init_42 : decode cX6_init 42 = .ok (.newarray .int, 2) := by decide +kernel
theorem dX6_init_44 : decode cX6_init 44 = .ok (.putfield 23, 3) := by decide +kernel
theorem dX6_init_47 : decode cX6_init 47 = .ok (.aload_n 0, 1) := by decide +kernel
theorem dX6_init_48 : decode cX6_init 48 = .ok (.bipush 120, 2) := by decide +kernel
theorem dX6_init_50 : decode cX6_init 50 = .ok (.newarray .boolean, 2) := by decide +kernel
theorem dX6_init_52 : decode cX6_init 52 = .ok (.putfield 27, 3) := by decide +kernel
theorem dX6_init_55 : decode cX6_init 55 = .ok (.aload_n 0, 1) := by decide +kernel
theorem dX6_init_56 : decode cX6_init 56 = .ok (.getfield 7, 3) := by decide +kernel
theorem dX6_init_59 : decode cX6_init 59 = .ok (.iconst 3, 1) := by decide +kernel
theorem dX6_init_60 : decode cX6_init 60 = .ok (.ldc2_w 30, 3) := by decide +kernel
theorem dX6_init_63 : decode cX6_init 63 = .ok (.lastore, 1) := by decide +kernel
theorem dX6_init_64 : decode cX6_init 64 = .ok (.aload_n 0, 1) := by decide +kernel
theorem dX6_init_65 : decode cX6_init 65 = .ok (.getfield 7, 3) := by decide +kernel
theorem dX6_init_68 : decode cX6_init 68 = .ok (.iconst 4, 1) := by decide +kernel
theorem dX6_init_69 : decode cX6_init 69 = .ok (.lconst 1, 1) := by decide +kernel
theorem dX6_init_70 : decode cX6_init 70 = .ok (.lastore, 1) := by decide +kernel
theorem dX6_init_71 : decode cX6_init 71 = .ok (.aload_n 0, 1) := by decide +kernel
theorem dX6_init_72 : decode cX6_init 72 = .ok (.getfield 7, 3) := by decide +kernel
theorem dX6_init_75 : decode cX6_init 75 = .ok (.iconst 5, 1) := by decide +kernel
theorem dX6_init_76 : decode cX6_init 76 = .ok (.ldc2_w 32, 3) := by decide +kernel
theorem dX6_init_79 : decode cX6_init 79 = .ok (.lastore, 1) := by decide +kernel
theorem dX6_init_80 : decode cX6_init 80 = .ok (.aload_n 0, 1) := by decide +kernel
theorem dX6_init_81 : decode cX6_init 81 = .ok (.getfield 7, 3) := by decide +kernel
theorem dX6_init_84 : decode cX6_init 84 = .ok (.bipush 6, 2) := by decide +kernel
theorem dX6_init_86 : decode cX6_init 86 = .ok (.lconst 1, 1) := by decide +kernel
theorem dX6_init_87 : decode cX6_init 87 = .ok (.lastore, 1) := by decide +kernel
theorem dX6_init_88 : decode cX6_init 88 = .ok (.aload_n 0, 1) := by decide +kernel
theorem dX6_init_89 : decode cX6_init 89 = .ok (.getfield 7, 3) := by decide +kernel
theorem dX6_init_92 : decode cX6_init 92 = .ok (.bipush 8, 2) := by decide +kernel
theorem dX6_init_94 : decode cX6_init 94 = .ok (.ldc2_w 34, 3) := by decide +kernel
theorem dX6_init_97 : decode cX6_init 97 = .ok (.lastore, 1) := by decide +kernel
theorem dX6_init_98 : decode cX6_init 98 = .ok (.return_, 1) := by decide +kernel
theorem dX6_in_0 : decode cX6_in 0 = .ok (.lload_n 0, 1) := by decide +kernel
theorem dX6_in_1 : decode cX6_in 1 = .ok (.lload_n 2, 1) := by decide +kernel
theorem dX6_in_2 : decode cX6_in 2 = .ok (.lcmp, 1) := by decide +kernel
theorem dX6_in_3 : decode cX6_in 3 = .ok (.ifCond .lt 14, 3) := by decide +kernel
theorem dX6_in_6 : decode cX6_in 6 = .ok (.lload_n 0, 1) := by decide +kernel
theorem dX6_in_7 : decode cX6_in 7 = .ok (.lload 4, 2) := by decide +kernel
theorem dX6_in_9 : decode cX6_in 9 = .ok (.lcmp, 1) := by decide +kernel
theorem dX6_in_10 : decode cX6_in 10 = .ok (.ifCond .gt 7, 3) := by decide +kernel
theorem dX6_in_13 : decode cX6_in 13 = .ok (.iconst 1, 1) := by decide +kernel
theorem dX6_in_14 : decode cX6_in 14 = .ok (.goto 4, 3) := by decide +kernel
theorem dX6_in_17 : decode cX6_in 17 = .ok (.iconst 0, 1) := by decide +kernel
theorem dX6_in_18 : decode cX6_in 18 = .ok (.ireturn, 1) := by decide +kernel
theorem dX6_isFlow_0 : decode cX6_isFlow 0 = .ok (.iload_n 1, 1) := by decide +kernel
theorem dX6_isFlow_1 : decode cX6_isFlow 1 = .ok (.i2l, 1) := by decide +kernel
theorem dX6_isFlow_2 : decode cX6_isFlow 2 = .ok (.lconst 0, 1) := by decide +kernel
theorem dX6_isFlow_3 : decode cX6_isFlow 3 = .ok (.aload_n 0, 1) := by decide +kernel
theorem dX6_isFlow_4 : decode cX6_isFlow 4 = .ok (.getfield 7, 3) := by decide +kernel
theorem dX6_isFlow_7 : decode cX6_isFlow 7 = .ok (.iconst 2, 1) := by decide +kernel
theorem dX6_isFlow_8 : decode cX6_isFlow 8 = .ok (.laload, 1) := by decide +kernel
theorem dX6_isFlow_9 : decode cX6_isFlow 9 = .ok (.lconst 1, 1) := by decide +kernel
theorem dX6_isFlow_10 : decode cX6_isFlow 10 = .ok (.lsub, 1) := by decide +kernel
theorem dX6_isFlow_11 : decode cX6_isFlow 11 = .ok (.invokestatic 36, 3) := by decide +kernel
theorem dX6_isFlow_14 : decode cX6_isFlow 14 = .ok (.ireturn, 1) := by decide +kernel
theorem dX6_flowAt_0 : decode cX6_flowAt 0 = .ok (.bipush 17, 2) := by decide +kernel
theorem dX6_flowAt_2 : decode cX6_flowAt 2 = .ok (.bipush 18, 2) := by decide +kernel
theorem dX6_flowAt_4 : decode cX6_flowAt 4 = .ok (.iload_n 0, 1) := by decide +kernel
theorem dX6_flowAt_5 : decode cX6_flowAt 5 = .ok (.imul, 1) := by decide +kernel
theorem dX6_flowAt_6 : decode cX6_flowAt 6 = .ok (.iadd, 1) := by decide +kernel
theorem dX6_flowAt_7 : decode cX6_flowAt 7 = .ok (.iload_n 1, 1) := by decide +kernel
theorem dX6_flowAt_8 : decode cX6_flowAt 8 = .ok (.iadd, 1) := by decide +kernel
theorem dX6_flowAt_9 : decode cX6_flowAt 9 = .ok (.ireturn, 1) := by decide +kernel
theorem dX6_ofFlow_0 : decode cX6_ofFlow 0 = .ok (.aload_n 0, 1) := by decide +kernel
theorem dX6_ofFlow_1 : decode cX6_ofFlow 1 = .ok (.getfield 7, 3) := by decide +kernel
theorem dX6_ofFlow_4 : decode cX6_ofFlow 4 = .ok (.iload_n 1, 1) := by decide +kernel
theorem dX6_ofFlow_5 : decode cX6_ofFlow 5 = .ok (.iload_n 2, 1) := by decide +kernel
theorem dX6_ofFlow_6 : decode cX6_ofFlow 6 = .ok (.invokestatic 40, 3) := by decide +kernel
theorem dX6_ofFlow_9 : decode cX6_ofFlow 9 = .ok (.laload, 1) := by decide +kernel
theorem dX6_ofFlow_10 : decode cX6_ofFlow 10 = .ok (.lreturn, 1) := by decide +kernel
theorem dX6_isKnown_0 : decode cX6_isKnown 0 = .ok (.iload_n 1, 1) := by decide +kernel
theorem dX6_isKnown_1 : decode cX6_isKnown 1 = .ok (.i2l, 1) := by decide +kernel
theorem dX6_isKnown_2 : decode cX6_isKnown 2 = .ok (.lconst 0, 1) := by decide +kernel
theorem dX6_isKnown_3 : decode cX6_isKnown 3 = .ok (.aload_n 0, 1) := by decide +kernel
theorem dX6_isKnown_4 : decode cX6_isKnown 4 = .ok (.getfield 7, 3) := by decide +kernel
theorem dX6_isKnown_7 : decode cX6_isKnown 7 = .ok (.bipush 7, 2) := by decide +kernel
theorem dX6_isKnown_9 : decode cX6_isKnown 9 = .ok (.laload, 1) := by decide +kernel
theorem dX6_isKnown_10 : decode cX6_isKnown 10 = .ok (.lconst 1, 1) := by decide +kernel
theorem dX6_isKnown_11 : decode cX6_isKnown 11 = .ok (.lsub, 1) := by decide +kernel
theorem dX6_isKnown_12 : decode cX6_isKnown 12 = .ok (.invokestatic 36, 3) := by decide +kernel
theorem dX6_isKnown_15 : decode cX6_isKnown 15 = .ok (.ifCond .eq 24, 3) := by decide +kernel
theorem dX6_isKnown_18 : decode cX6_isKnown 18 = .ok (.iload_n 1, 1) := by decide +kernel
theorem dX6_isKnown_19 : decode cX6_isKnown 19 = .ok (.i2l, 1) := by decide +kernel
theorem dX6_isKnown_20 : decode cX6_isKnown 20 = .ok (.aload_n 0, 1) := by decide +kernel
theorem dX6_isKnown_21 : decode cX6_isKnown 21 = .ok (.getfield 7, 3) := by decide +kernel
theorem dX6_isKnown_24 : decode cX6_isKnown 24 = .ok (.bipush 7, 2) := by decide +kernel
theorem dX6_isKnown_26 : decode cX6_isKnown 26 = .ok (.laload, 1) := by decide +kernel
theorem dX6_isKnown_27 : decode cX6_isKnown 27 = .ok (.ldc2_w 44, 3) := by decide +kernel
theorem dX6_isKnown_30 : decode cX6_isKnown 30 = .ok (.lsub, 1) := by decide +kernel
theorem dX6_isKnown_31 : decode cX6_isKnown 31 = .ok (.lcmp, 1) := by decide +kernel
theorem dX6_isKnown_32 : decode cX6_isKnown 32 = .ok (.ifCond .lt 7, 3) := by decide +kernel
theorem dX6_isKnown_35 : decode cX6_isKnown 35 = .ok (.iconst 1, 1) := by decide +kernel
theorem dX6_isKnown_36 : decode cX6_isKnown 36 = .ok (.goto 4, 3) := by decide +kernel
theorem dX6_isKnown_39 : decode cX6_isKnown 39 = .ok (.iconst 0, 1) := by decide +kernel
theorem dX6_isKnown_40 : decode cX6_isKnown 40 = .ok (.ireturn, 1) := by decide +kernel
theorem dX6_packetAt_0 : decode cX6_packetAt 0 = .ok (.bipush 125, 2) := by decide +kernel
theorem dX6_packetAt_2 : decode cX6_packetAt 2 = .ok (.bipush 11, 2) := by decide +kernel
theorem dX6_packetAt_4 : decode cX6_packetAt 4 = .ok (.iload_n 0, 1) := by decide +kernel
theorem dX6_packetAt_5 : decode cX6_packetAt 5 = .ok (.bipush 120, 2) := by decide +kernel
theorem dX6_packetAt_7 : decode cX6_packetAt 7 = .ok (.irem, 1) := by decide +kernel
theorem dX6_packetAt_8 : decode cX6_packetAt 8 = .ok (.imul, 1) := by decide +kernel
theorem dX6_packetAt_9 : decode cX6_packetAt 9 = .ok (.iadd, 1) := by decide +kernel
theorem dX6_packetAt_10 : decode cX6_packetAt 10 = .ok (.iload_n 1, 1) := by decide +kernel
theorem dX6_packetAt_11 : decode cX6_packetAt 11 = .ok (.iadd, 1) := by decide +kernel
theorem dX6_packetAt_12 : decode cX6_packetAt 12 = .ok (.ireturn, 1) := by decide +kernel
theorem dX6_of_0 : decode cX6_of 0 = .ok (.aload_n 0, 1) := by decide +kernel
theorem dX6_of_1 : decode cX6_of 1 = .ok (.getfield 7, 3) := by decide +kernel
theorem dX6_of_4 : decode cX6_of 4 = .ok (.iload_n 1, 1) := by decide +kernel
theorem dX6_of_5 : decode cX6_of 5 = .ok (.iload_n 2, 1) := by decide +kernel
theorem dX6_of_6 : decode cX6_of 6 = .ok (.invokestatic 46, 3) := by decide +kernel
theorem dX6_of_9 : decode cX6_of 9 = .ok (.laload, 1) := by decide +kernel
theorem dX6_of_10 : decode cX6_of 10 = .ok (.lreturn, 1) := by decide +kernel
theorem dX6_oldest_0 : decode cX6_oldest 0 = .ok (.aload_n 0, 1) := by decide +kernel
theorem dX6_oldest_1 : decode cX6_oldest 1 = .ok (.getfield 7, 3) := by decide +kernel
theorem dX6_oldest_4 : decode cX6_oldest 4 = .ok (.bipush 7, 2) := by decide +kernel
theorem dX6_oldest_6 : decode cX6_oldest 6 = .ok (.laload, 1) := by decide +kernel
theorem dX6_oldest_7 : decode cX6_oldest 7 = .ok (.ldc2_w 44, 3) := by decide +kernel
theorem dX6_oldest_10 : decode cX6_oldest 10 = .ok (.lcmp, 1) := by decide +kernel
theorem dX6_oldest_11 : decode cX6_oldest 11 = .ok (.ifCond .le 17, 3) := by decide +kernel
theorem dX6_oldest_14 : decode cX6_oldest 14 = .ok (.aload_n 0, 1) := by decide +kernel
theorem dX6_oldest_15 : decode cX6_oldest 15 = .ok (.getfield 7, 3) := by decide +kernel
theorem dX6_oldest_18 : decode cX6_oldest 18 = .ok (.bipush 7, 2) := by decide +kernel
theorem dX6_oldest_20 : decode cX6_oldest 20 = .ok (.laload, 1) := by decide +kernel
theorem dX6_oldest_21 : decode cX6_oldest 21 = .ok (.ldc2_w 44, 3) := by decide +kernel
theorem dX6_oldest_24 : decode cX6_oldest 24 = .ok (.lsub, 1) := by decide +kernel
theorem dX6_oldest_25 : decode cX6_oldest 25 = .ok (.goto 4, 3) := by decide +kernel
theorem dX6_oldest_28 : decode cX6_oldest 28 = .ok (.lconst 0, 1) := by decide +kernel
theorem dX6_oldest_29 : decode cX6_oldest 29 = .ok (.l2i, 1) := by decide +kernel
theorem dX6_oldest_30 : decode cX6_oldest 30 = .ok (.ireturn, 1) := by decide +kernel
theorem dX6_isQueued_0 : decode cX6_isQueued 0 = .ok (.aload_n 0, 1) := by decide +kernel
theorem dX6_isQueued_1 : decode cX6_isQueued 1 = .ok (.iload_n 1, 1) := by decide +kernel
theorem dX6_isQueued_2 : decode cX6_isQueued 2 = .ok (.iconst 4, 1) := by decide +kernel
theorem dX6_isQueued_3 : decode cX6_isQueued 3 = .ok (.invokevirtual 49, 3) := by decide +kernel
theorem dX6_isQueued_6 : decode cX6_isQueued 6 = .ok (.lconst 1, 1) := by decide +kernel
theorem dX6_isQueued_7 : decode cX6_isQueued 7 = .ok (.lcmp, 1) := by decide +kernel
theorem dX6_isQueued_8 : decode cX6_isQueued 8 = .ok (.ifCond .gt 7, 3) := by decide +kernel
theorem dX6_isQueued_11 : decode cX6_isQueued 11 = .ok (.iconst 1, 1) := by decide +kernel
theorem dX6_isQueued_12 : decode cX6_isQueued 12 = .ok (.goto 4, 3) := by decide +kernel
theorem dX6_isQueued_15 : decode cX6_isQueued 15 = .ok (.iconst 0, 1) := by decide +kernel
theorem dX6_isQueued_16 : decode cX6_isQueued 16 = .ok (.ireturn, 1) := by decide +kernel
theorem dX6_headOf_0 : decode cX6_headOf 0 = .ok (.aload_n 0, 1) := by decide +kernel
theorem dX6_headOf_1 : decode cX6_headOf 1 = .ok (.iload_n 1, 1) := by decide +kernel
theorem dX6_headOf_2 : decode cX6_headOf 2 = .ok (.bipush 17, 2) := by decide +kernel
theorem dX6_headOf_4 : decode cX6_headOf 4 = .ok (.invokevirtual 53, 3) := by decide +kernel
theorem dX6_headOf_7 : decode cX6_headOf 7 = .ok (.lconst 0, 1) := by decide +kernel
theorem dX6_headOf_8 : decode cX6_headOf 8 = .ok (.lcmp, 1) := by decide +kernel
theorem dX6_headOf_9 : decode cX6_headOf 9 = .ok (.ifCond .ne 6, 3) := by decide +kernel
theorem dX6_headOf_12 : decode cX6_headOf 12 = .ok (.bipush (-6), 2) := by decide +kernel
theorem dX6_headOf_14 : decode cX6_headOf 14 = .ok (.ireturn, 1) := by decide +kernel
theorem dX6_headOf_15 : decode cX6_headOf 15 = .ok (.aload_n 0, 1) := by decide +kernel
theorem dX6_headOf_16 : decode cX6_headOf 16 = .ok (.invokevirtual 56, 3) := by decide +kernel
theorem dX6_headOf_19 : decode cX6_headOf 19 = .ok (.istore_n 2, 1) := by decide +kernel
theorem dX6_headOf_20 : decode cX6_headOf 20 = .ok (.aload_n 0, 1) := by decide +kernel
theorem dX6_headOf_21 : decode cX6_headOf 21 = .ok (.iload_n 2, 1) := by decide +kernel
theorem dX6_headOf_22 : decode cX6_headOf 22 = .ok (.iconst 0, 1) := by decide +kernel
theorem dX6_headOf_23 : decode cX6_headOf 23 = .ok (.invokevirtual 49, 3) := by decide +kernel
theorem dX6_headOf_26 : decode cX6_headOf 26 = .ok (.iload_n 1, 1) := by decide +kernel
theorem dX6_headOf_27 : decode cX6_headOf 27 = .ok (.i2l, 1) := by decide +kernel
theorem dX6_headOf_28 : decode cX6_headOf 28 = .ok (.lcmp, 1) := by decide +kernel
theorem dX6_headOf_29 : decode cX6_headOf 29 = .ok (.ifCond .ne 11, 3) := by decide +kernel
theorem dX6_headOf_32 : decode cX6_headOf 32 = .ok (.aload_n 0, 1) := by decide +kernel
theorem dX6_headOf_33 : decode cX6_headOf 33 = .ok (.iload_n 2, 1) := by decide +kernel
theorem dX6_headOf_34 : decode cX6_headOf 34 = .ok (.invokevirtual 60, 3) := by decide +kernel
theorem dX6_headOf_37 : decode cX6_headOf 37 = .ok (.ifCond .ne 9, 3) := by decide +kernel
theorem dX6_headOf_40 : decode cX6_headOf 40 = .ok (.iinc 2 1, 3) := by decide +kernel
theorem dX6_headOf_43 : decode cX6_headOf 43 = .ok (.goto (-23), 3) := by decide +kernel
theorem dX6_headOf_46 : decode cX6_headOf 46 = .ok (.iload_n 2, 1) := by decide +kernel
theorem dX6_headOf_47 : decode cX6_headOf 47 = .ok (.ireturn, 1) := by decide +kernel
theorem dX6_addFlow_0 : decode cX6_addFlow 0 = .ok (.iload_n 1, 1) := by decide +kernel
theorem dX6_addFlow_1 : decode cX6_addFlow 1 = .ok (.i2l, 1) := by decide +kernel
theorem dX6_addFlow_2 : decode cX6_addFlow 2 = .ok (.lconst 1, 1) := by decide +kernel
theorem dX6_addFlow_3 : decode cX6_addFlow 3 = .ok (.ldc2_w 64, 3) := by decide +kernel
theorem dX6_addFlow_6 : decode cX6_addFlow 6 = .ok (.invokestatic 36, 3) := by decide +kernel
theorem dX6_addFlow_9 : decode cX6_addFlow 9 = .ok (.ifCond .ne 6, 3) := by decide +kernel
theorem dX6_addFlow_12 : decode cX6_addFlow 12 = .ok (.bipush (-2), 2) := by decide +kernel
theorem dX6_addFlow_14 : decode cX6_addFlow 14 = .ok (.ireturn, 1) := by decide +kernel
theorem dX6_addFlow_15 : decode cX6_addFlow 15 = .ok (.aload_n 0, 1) := by decide +kernel
theorem dX6_addFlow_16 : decode cX6_addFlow 16 = .ok (.getfield 7, 3) := by decide +kernel
theorem dX6_addFlow_19 : decode cX6_addFlow 19 = .ok (.iconst 2, 1) := by decide +kernel
theorem dX6_addFlow_20 : decode cX6_addFlow 20 = .ok (.laload, 1) := by decide +kernel
theorem dX6_addFlow_21 : decode cX6_addFlow 21 = .ok (.ldc2_w 66, 3) := by decide +kernel
theorem dX6_addFlow_24 : decode cX6_addFlow 24 = .ok (.lcmp, 1) := by decide +kernel
theorem dX6_addFlow_25 : decode cX6_addFlow 25 = .ok (.ifCond .ne 6, 3) := by decide +kernel
theorem dX6_addFlow_28 : decode cX6_addFlow 28 = .ok (.bipush (-4), 2) := by decide +kernel
theorem dX6_addFlow_30 : decode cX6_addFlow 30 = .ok (.ireturn, 1) := by decide +kernel
theorem dX6_addFlow_31 : decode cX6_addFlow 31 = .ok (.aload_n 0, 1) := by decide +kernel
theorem dX6_addFlow_32 : decode cX6_addFlow 32 = .ok (.getfield 7, 3) := by decide +kernel
theorem dX6_addFlow_35 : decode cX6_addFlow 35 = .ok (.iconst 2, 1) := by decide +kernel
theorem dX6_addFlow_36 : decode cX6_addFlow 36 = .ok (.laload, 1) := by decide +kernel
theorem dX6_addFlow_37 : decode cX6_addFlow 37 = .ok (.l2i, 1) := by decide +kernel
theorem dX6_addFlow_38 : decode cX6_addFlow 38 = .ok (.istore_n 2, 1) := by decide +kernel
theorem dX6_addFlow_39 : decode cX6_addFlow 39 = .ok (.iconst 0, 1) := by decide +kernel
theorem dX6_addFlow_40 : decode cX6_addFlow 40 = .ok (.istore_n 3, 1) := by decide +kernel
theorem dX6_addFlow_41 : decode cX6_addFlow 41 = .ok (.iload_n 3, 1) := by decide +kernel
theorem dX6_addFlow_42 : decode cX6_addFlow 42 = .ok (.bipush 18, 2) := by decide +kernel
theorem dX6_addFlow_44 : decode cX6_addFlow 44 = .ok (.if_icmp .ge 20, 3) := by decide +kernel
theorem dX6_addFlow_47 : decode cX6_addFlow 47 = .ok (.aload_n 0, 1) := by decide +kernel
theorem dX6_addFlow_48 : decode cX6_addFlow 48 = .ok (.getfield 7, 3) := by decide +kernel
theorem dX6_addFlow_51 : decode cX6_addFlow 51 = .ok (.iload_n 2, 1) := by decide +kernel
theorem dX6_addFlow_52 : decode cX6_addFlow 52 = .ok (.iload_n 3, 1) := by decide +kernel
theorem dX6_addFlow_53 : decode cX6_addFlow 53 = .ok (.invokestatic 40, 3) := by decide +kernel
theorem dX6_addFlow_56 : decode cX6_addFlow 56 = .ok (.lconst 0, 1) := by decide +kernel
theorem dX6_addFlow_57 : decode cX6_addFlow 57 = .ok (.lastore, 1) := by decide +kernel
theorem dX6_addFlow_58 : decode cX6_addFlow 58 = .ok (.iinc 3 1, 3) := by decide +kernel
theorem dX6_addFlow_61 : decode cX6_addFlow 61 = .ok (.goto (-20), 3) := by decide +kernel
theorem dX6_addFlow_64 : decode cX6_addFlow 64 = .ok (.aload_n 0, 1) := by decide +kernel
theorem dX6_addFlow_65 : decode cX6_addFlow 65 = .ok (.getfield 7, 3) := by decide +kernel
theorem dX6_addFlow_68 : decode cX6_addFlow 68 = .ok (.iload_n 2, 1) := by decide +kernel
theorem dX6_addFlow_69 : decode cX6_addFlow 69 = .ok (.iconst 0, 1) := by decide +kernel
theorem dX6_addFlow_70 : decode cX6_addFlow 70 = .ok (.invokestatic 40, 3) := by decide +kernel
theorem dX6_addFlow_73 : decode cX6_addFlow 73 = .ok (.iload_n 1, 1) := by decide +kernel
theorem dX6_addFlow_74 : decode cX6_addFlow 74 = .ok (.i2l, 1) := by decide +kernel
theorem dX6_addFlow_75 : decode cX6_addFlow 75 = .ok (.lastore, 1) := by decide +kernel
theorem dX6_addFlow_76 : decode cX6_addFlow 76 = .ok (.aload_n 0, 1) := by decide +kernel
theorem dX6_addFlow_77 : decode cX6_addFlow 77 = .ok (.getfield 7, 3) := by decide +kernel
theorem dX6_addFlow_80 : decode cX6_addFlow 80 = .ok (.iload_n 2, 1) := by decide +kernel
theorem dX6_addFlow_81 : decode cX6_addFlow 81 = .ok (.iconst 1, 1) := by decide +kernel
theorem dX6_addFlow_82 : decode cX6_addFlow 82 = .ok (.invokestatic 40, 3) := by decide +kernel
theorem dX6_addFlow_85 : decode cX6_addFlow 85 = .ok (.ldc2_w 68, 3) := by decide +kernel
theorem dX6_addFlow_88 : decode cX6_addFlow 88 = .ok (.lastore, 1) := by decide +kernel
theorem dX6_addFlow_89 : decode cX6_addFlow 89 = .ok (.aload_n 0, 1) := by decide +kernel
theorem dX6_addFlow_90 : decode cX6_addFlow 90 = .ok (.getfield 7, 3) := by decide +kernel
theorem dX6_addFlow_93 : decode cX6_addFlow 93 = .ok (.iload_n 2, 1) := by decide +kernel
theorem dX6_addFlow_94 : decode cX6_addFlow 94 = .ok (.iconst 4, 1) := by decide +kernel
theorem dX6_addFlow_95 : decode cX6_addFlow 95 = .ok (.invokestatic 40, 3) := by decide +kernel
theorem dX6_addFlow_98 : decode cX6_addFlow 98 = .ok (.ldc2_w 30, 3) := by decide +kernel
theorem dX6_addFlow_101 : decode cX6_addFlow 101 = .ok (.lastore, 1) := by decide +kernel
theorem dX6_addFlow_102 : decode cX6_addFlow 102 = .ok (.aload_n 0, 1) := by decide +kernel
theorem dX6_addFlow_103 : decode cX6_addFlow 103 = .ok (.getfield 7, 3) := by decide +kernel
theorem dX6_addFlow_106 : decode cX6_addFlow 106 = .ok (.iconst 2, 1) := by decide +kernel
theorem dX6_addFlow_107 : decode cX6_addFlow 107 = .ok (.dup2, 1) := by decide +kernel
theorem dX6_addFlow_108 : decode cX6_addFlow 108 = .ok (.laload, 1) := by decide +kernel
theorem dX6_addFlow_109 : decode cX6_addFlow 109 = .ok (.lconst 1, 1) := by decide +kernel
theorem dX6_addFlow_110 : decode cX6_addFlow 110 = .ok (.ladd, 1) := by decide +kernel
theorem dX6_addFlow_111 : decode cX6_addFlow 111 = .ok (.lastore, 1) := by decide +kernel
theorem dX6_addFlow_112 : decode cX6_addFlow 112 = .ok (.iload_n 2, 1) := by decide +kernel
theorem dX6_addFlow_113 : decode cX6_addFlow 113 = .ok (.ireturn, 1) := by decide +kernel
theorem dX6_isSetting_0 : decode cX6_isSetting 0 = .ok (.iload_n 0, 1) := by decide +kernel
theorem dX6_isSetting_1 : decode cX6_isSetting 1 = .ok (.tableswitch 61 0 3 #[31, 41, 51, 51], 31) := by decide +kernel
theorem dX6_isSetting_32 : decode cX6_isSetting 32 = .ok (.iload_n 1, 1) := by decide +kernel
theorem dX6_isSetting_33 : decode cX6_isSetting 33 = .ok (.i2l, 1) := by decide +kernel
theorem dX6_isSetting_34 : decode cX6_isSetting 34 = .ok (.lconst 1, 1) := by decide +kernel
theorem dX6_isSetting_35 : decode cX6_isSetting 35 = .ok (.ldc2_w 64, 3) := by decide +kernel
theorem dX6_isSetting_38 : decode cX6_isSetting 38 = .ok (.invokestatic 36, 3) := by decide +kernel
theorem dX6_isSetting_41 : decode cX6_isSetting 41 = .ok (.ireturn, 1) := by decide +kernel
theorem dX6_isSetting_42 : decode cX6_isSetting 42 = .ok (.iload_n 1, 1) := by decide +kernel
theorem dX6_isSetting_43 : decode cX6_isSetting 43 = .ok (.i2l, 1) := by decide +kernel
theorem dX6_isSetting_44 : decode cX6_isSetting 44 = .ok (.lconst 1, 1) := by decide +kernel
theorem dX6_isSetting_45 : decode cX6_isSetting 45 = .ok (.ldc2_w 68, 3) := by decide +kernel
theorem dX6_isSetting_48 : decode cX6_isSetting 48 = .ok (.invokestatic 36, 3) := by decide +kernel
theorem dX6_isSetting_51 : decode cX6_isSetting 51 = .ok (.ireturn, 1) := by decide +kernel
theorem dX6_isSetting_52 : decode cX6_isSetting 52 = .ok (.iload_n 1, 1) := by decide +kernel
theorem dX6_isSetting_53 : decode cX6_isSetting 53 = .ok (.i2l, 1) := by decide +kernel
theorem dX6_isSetting_54 : decode cX6_isSetting 54 = .ok (.lconst 0, 1) := by decide +kernel
theorem dX6_isSetting_55 : decode cX6_isSetting 55 = .ok (.ldc2_w 70, 3) := by decide +kernel
theorem dX6_isSetting_58 : decode cX6_isSetting 58 = .ok (.invokestatic 36, 3) := by decide +kernel
theorem dX6_isSetting_61 : decode cX6_isSetting 61 = .ok (.ireturn, 1) := by decide +kernel
theorem dX6_isSetting_62 : decode cX6_isSetting 62 = .ok (.iload_n 0, 1) := by decide +kernel
theorem dX6_isSetting_63 : decode cX6_isSetting 63 = .ok (.iconst 4, 1) := by decide +kernel
theorem dX6_isSetting_64 : decode cX6_isSetting 64 = .ok (.if_icmp .ne 19, 3) := by decide +kernel
theorem dX6_isSetting_67 : decode cX6_isSetting 67 = .ok (.iload_n 1, 1) := by decide +kernel
theorem dX6_isSetting_68 : decode cX6_isSetting 68 = .ok (.i2l, 1) := by decide +kernel
theorem dX6_isSetting_69 : decode cX6_isSetting 69 = .ok (.lconst 0, 1) := by decide +kernel
theorem dX6_isSetting_70 : decode cX6_isSetting 70 = .ok (.ldc2_w 30, 3) := by decide +kernel
theorem dX6_isSetting_73 : decode cX6_isSetting 73 = .ok (.invokestatic 36, 3) := by decide +kernel
theorem dX6_isSetting_76 : decode cX6_isSetting 76 = .ok (.ifCond .eq 7, 3) := by decide +kernel
theorem dX6_isSetting_79 : decode cX6_isSetting 79 = .ok (.iconst 1, 1) := by decide +kernel
theorem dX6_isSetting_80 : decode cX6_isSetting 80 = .ok (.goto 4, 3) := by decide +kernel
theorem dX6_isSetting_83 : decode cX6_isSetting 83 = .ok (.iconst 0, 1) := by decide +kernel
theorem dX6_isSetting_84 : decode cX6_isSetting 84 = .ok (.ireturn, 1) := by decide +kernel
theorem dX6_set_0 : decode cX6_set 0 = .ok (.aload_n 0, 1) := by decide +kernel
theorem dX6_set_1 : decode cX6_set 1 = .ok (.iload_n 1, 1) := by decide +kernel
theorem dX6_set_2 : decode cX6_set 2 = .ok (.invokevirtual 72, 3) := by decide +kernel
theorem dX6_set_5 : decode cX6_set 5 = .ok (.ifCond .ne 5, 3) := by decide +kernel
theorem dX6_set_8 : decode cX6_set 8 = .ok (.iconst (-1), 1) := by decide +kernel
theorem dX6_set_9 : decode cX6_set 9 = .ok (.ireturn, 1) := by decide +kernel
theorem dX6_set_10 : decode cX6_set 10 = .ok (.iload_n 2, 1) := by decide +kernel
theorem dX6_set_11 : decode cX6_set 11 = .ok (.iload_n 3, 1) := by decide +kernel
theorem dX6_set_12 : decode cX6_set 12 = .ok (.invokestatic 75, 3) := by decide +kernel
theorem dX6_set_15 : decode cX6_set 15 = .ok (.ifCond .ne 6, 3) := by decide +kernel
theorem dX6_set_18 : decode cX6_set 18 = .ok (.bipush (-2), 2) := by decide +kernel
theorem dX6_set_20 : decode cX6_set 20 = .ok (.ireturn, 1) := by decide +kernel
theorem dX6_set_21 : decode cX6_set 21 = .ok (.aload_n 0, 1) := by decide +kernel
theorem dX6_set_22 : decode cX6_set 22 = .ok (.iload_n 1, 1) := by decide +kernel
theorem dX6_set_23 : decode cX6_set 23 = .ok (.iload_n 2, 1) := by decide +kernel
theorem dX6_set_24 : decode cX6_set 24 = .ok (.invokevirtual 53, 3) := by decide +kernel
theorem dX6_set_27 : decode cX6_set 27 = .ok (.l2i, 1) := by decide +kernel
theorem dX6_set_28 : decode cX6_set 28 = .ok (.istore 4, 2) := by decide +kernel
theorem dX6_set_30 : decode cX6_set 30 = .ok (.aload_n 0, 1) := by decide +kernel
theorem dX6_set_31 : decode cX6_set 31 = .ok (.getfield 7, 3) := by decide +kernel
theorem dX6_set_34 : decode cX6_set 34 = .ok (.iload_n 1, 1) := by decide +kernel
theorem dX6_set_35 : decode cX6_set 35 = .ok (.iload_n 2, 1) := by decide +kernel
theorem dX6_set_36 : decode cX6_set 36 = .ok (.invokestatic 40, 3) := by decide +kernel
theorem dX6_set_39 : decode cX6_set 39 = .ok (.iload_n 3, 1) := by decide +kernel
theorem dX6_set_40 : decode cX6_set 40 = .ok (.i2l, 1) := by decide +kernel
theorem dX6_set_41 : decode cX6_set 41 = .ok (.lastore, 1) := by decide +kernel
theorem dX6_set_42 : decode cX6_set 42 = .ok (.iload 4, 2) := by decide +kernel
theorem dX6_set_44 : decode cX6_set 44 = .ok (.ireturn, 1) := by decide +kernel
theorem dX6_rule_0 : decode cX6_rule 0 = .ok (.iload_n 1, 1) := by decide +kernel
theorem dX6_rule_1 : decode cX6_rule 1 = .ok (.iconst 3, 1) := by decide +kernel
theorem dX6_rule_2 : decode cX6_rule 2 = .ok (.if_icmp .ne 13, 3) := by decide +kernel
theorem dX6_rule_5 : decode cX6_rule 5 = .ok (.iload_n 2, 1) := by decide +kernel
theorem dX6_rule_6 : decode cX6_rule 6 = .ok (.i2l, 1) := by decide +kernel
theorem dX6_rule_7 : decode cX6_rule 7 = .ok (.lconst 0, 1) := by decide +kernel
theorem dX6_rule_8 : decode cX6_rule 8 = .ok (.lconst 1, 1) := by decide +kernel
theorem dX6_rule_9 : decode cX6_rule 9 = .ok (.invokestatic 36, 3) := by decide +kernel
theorem dX6_rule_12 : decode cX6_rule 12 = .ok (.goto 47, 3) := by decide +kernel
theorem dX6_rule_15 : decode cX6_rule 15 = .ok (.iload_n 1, 1) := by decide +kernel
theorem dX6_rule_16 : decode cX6_rule 16 = .ok (.iconst 2, 1) := by decide +kernel
theorem dX6_rule_17 : decode cX6_rule 17 = .ok (.if_icmp .ne 15, 3) := by decide +kernel
theorem dX6_rule_20 : decode cX6_rule 20 = .ok (.iload_n 2, 1) := by decide +kernel
theorem dX6_rule_21 : decode cX6_rule 21 = .ok (.i2l, 1) := by decide +kernel
theorem dX6_rule_22 : decode cX6_rule 22 = .ok (.lconst 0, 1) := by decide +kernel
theorem dX6_rule_23 : decode cX6_rule 23 = .ok (.ldc2_w 70, 3) := by decide +kernel
theorem dX6_rule_26 : decode cX6_rule 26 = .ok (.invokestatic 36, 3) := by decide +kernel
theorem dX6_rule_29 : decode cX6_rule 29 = .ok (.goto 30, 3) := by decide +kernel
theorem dX6_rule_32 : decode cX6_rule 32 = .ok (.iload_n 1, 1) := by decide +kernel
theorem dX6_rule_33 : decode cX6_rule 33 = .ok (.i2l, 1) := by decide +kernel
theorem dX6_rule_34 : decode cX6_rule 34 = .ok (.lconst 0, 1) := by decide +kernel
theorem dX6_rule_35 : decode cX6_rule 35 = .ok (.lconst 1, 1) := by decide +kernel
theorem dX6_rule_36 : decode cX6_rule 36 = .ok (.invokestatic 36, 3) := by decide +kernel
theorem dX6_rule_39 : decode cX6_rule 39 = .ok (.ifCond .eq 19, 3) := by decide +kernel
theorem dX6_rule_42 : decode cX6_rule 42 = .ok (.iload_n 2, 1) := by decide +kernel
theorem dX6_rule_43 : decode cX6_rule 43 = .ok (.i2l, 1) := by decide +kernel
theorem dX6_rule_44 : decode cX6_rule 44 = .ok (.lconst 0, 1) := by decide +kernel
theorem dX6_rule_45 : decode cX6_rule 45 = .ok (.ldc2_w 79, 3) := by decide +kernel
theorem dX6_rule_48 : decode cX6_rule 48 = .ok (.invokestatic 36, 3) := by decide +kernel
theorem dX6_rule_51 : decode cX6_rule 51 = .ok (.ifCond .eq 7, 3) := by decide +kernel
theorem dX6_rule_54 : decode cX6_rule 54 = .ok (.iconst 1, 1) := by decide +kernel
theorem dX6_rule_55 : decode cX6_rule 55 = .ok (.goto 4, 3) := by decide +kernel
theorem dX6_rule_58 : decode cX6_rule 58 = .ok (.iconst 0, 1) := by decide +kernel
theorem dX6_rule_59 : decode cX6_rule 59 = .ok (.istore_n 3, 1) := by decide +kernel
theorem dX6_rule_60 : decode cX6_rule 60 = .ok (.iload_n 3, 1) := by decide +kernel
theorem dX6_rule_61 : decode cX6_rule 61 = .ok (.ifCond .ne 6, 3) := by decide +kernel
theorem dX6_rule_64 : decode cX6_rule 64 = .ok (.bipush (-2), 2) := by decide +kernel
theorem dX6_rule_66 : decode cX6_rule 66 = .ok (.ireturn, 1) := by decide +kernel
theorem dX6_rule_67 : decode cX6_rule 67 = .ok (.aload_n 0, 1) := by decide +kernel
theorem dX6_rule_68 : decode cX6_rule 68 = .ok (.getfield 7, 3) := by decide +kernel
theorem dX6_rule_71 : decode cX6_rule 71 = .ok (.iconst 3, 1) := by decide +kernel
theorem dX6_rule_72 : decode cX6_rule 72 = .ok (.iload_n 1, 1) := by decide +kernel
theorem dX6_rule_73 : decode cX6_rule 73 = .ok (.iadd, 1) := by decide +kernel
theorem dX6_rule_74 : decode cX6_rule 74 = .ok (.laload, 1) := by decide +kernel
theorem dX6_rule_75 : decode cX6_rule 75 = .ok (.l2i, 1) := by decide +kernel
theorem dX6_rule_76 : decode cX6_rule 76 = .ok (.istore 4, 2) := by decide +kernel
theorem dX6_rule_78 : decode cX6_rule 78 = .ok (.aload_n 0, 1) := by decide +kernel
theorem dX6_rule_79 : decode cX6_rule 79 = .ok (.getfield 7, 3) := by decide +kernel
theorem dX6_rule_82 : decode cX6_rule 82 = .ok (.iconst 3, 1) := by decide +kernel
theorem dX6_rule_83 : decode cX6_rule 83 = .ok (.iload_n 1, 1) := by decide +kernel
theorem dX6_rule_84 : decode cX6_rule 84 = .ok (.iadd, 1) := by decide +kernel
theorem dX6_rule_85 : decode cX6_rule 85 = .ok (.iload_n 2, 1) := by decide +kernel
theorem dX6_rule_86 : decode cX6_rule 86 = .ok (.i2l, 1) := by decide +kernel
theorem dX6_rule_87 : decode cX6_rule 87 = .ok (.lastore, 1) := by decide +kernel
theorem dX6_rule_88 : decode cX6_rule 88 = .ok (.iload 4, 2) := by decide +kernel
theorem dX6_rule_90 : decode cX6_rule 90 = .ok (.ireturn, 1) := by decide +kernel
theorem dX6_hasRoom_0 : decode cX6_hasRoom 0 = .ok (.aload_n 0, 1) := by decide +kernel
theorem dX6_hasRoom_1 : decode cX6_hasRoom 1 = .ok (.getfield 7, 3) := by decide +kernel
theorem dX6_hasRoom_4 : decode cX6_hasRoom 4 = .ok (.bipush 7, 2) := by decide +kernel
theorem dX6_hasRoom_6 : decode cX6_hasRoom 6 = .ok (.laload, 1) := by decide +kernel
theorem dX6_hasRoom_7 : decode cX6_hasRoom 7 = .ok (.l2i, 1) := by decide +kernel
theorem dX6_hasRoom_8 : decode cX6_hasRoom 8 = .ok (.bipush 120, 2) := by decide +kernel
theorem dX6_hasRoom_10 : decode cX6_hasRoom 10 = .ok (.isub, 1) := by decide +kernel
theorem dX6_hasRoom_11 : decode cX6_hasRoom 11 = .ok (.istore_n 2, 1) := by decide +kernel
theorem dX6_hasRoom_12 : decode cX6_hasRoom 12 = .ok (.iload_n 2, 1) := by decide +kernel
theorem dX6_hasRoom_13 : decode cX6_hasRoom 13 = .ok (.ifCond .lt 20, 3) := by decide +kernel
theorem dX6_hasRoom_16 : decode cX6_hasRoom 16 = .ok (.aload_n 0, 1) := by decide +kernel
theorem dX6_hasRoom_17 : decode cX6_hasRoom 17 = .ok (.iload_n 2, 1) := by decide +kernel
theorem dX6_hasRoom_18 : decode cX6_hasRoom 18 = .ok (.iconst 4, 1) := by decide +kernel
theorem dX6_hasRoom_19 : decode cX6_hasRoom 19 = .ok (.invokevirtual 49, 3) := by decide +kernel
theorem dX6_hasRoom_22 : decode cX6_hasRoom 22 = .ok (.ldc2_w 30, 3) := by decide +kernel
theorem dX6_hasRoom_25 : decode cX6_hasRoom 25 = .ok (.lcmp, 1) := by decide +kernel
theorem dX6_hasRoom_26 : decode cX6_hasRoom 26 = .ok (.ifCond .gt 7, 3) := by decide +kernel
theorem dX6_hasRoom_29 : decode cX6_hasRoom 29 = .ok (.iconst 1, 1) := by decide +kernel
theorem dX6_hasRoom_30 : decode cX6_hasRoom 30 = .ok (.goto 4, 3) := by decide +kernel
theorem dX6_hasRoom_33 : decode cX6_hasRoom 33 = .ok (.iconst 0, 1) := by decide +kernel
theorem dX6_hasRoom_34 : decode cX6_hasRoom 34 = .ok (.istore_n 3, 1) := by decide +kernel
end
section
theorem dX6_hasRoom_35 : decode cX6_hasRoom 35 = .ok (.aload_n 0, 1) := by decide +kernel
theorem dX6_hasRoom_36 : decode cX6_hasRoom 36 = .ok (.iload_n 1, 1) := by decide +kernel
theorem dX6_hasRoom_37 : decode cX6_hasRoom 37 = .ok (.bipush 17, 2) := by decide +kernel
theorem dX6_hasRoom_39 : decode cX6_hasRoom 39 = .ok (.invokevirtual 53, 3) := by decide +kernel
theorem dX6_hasRoom_42 : decode cX6_hasRoom 42 = .ok (.aload_n 0, 1) := by decide +kernel
theorem dX6_hasRoom_43 : decode cX6_hasRoom 43 = .ok (.iload_n 1, 1) := by decide +kernel
theorem dX6_hasRoom_44 : decode cX6_hasRoom 44 = .ok (.iconst 1, 1) := by decide +kernel
theorem dX6_hasRoom_45 : decode cX6_hasRoom 45 = .ok (.invokevirtual 53, 3) := by decide +kernel
theorem dX6_hasRoom_48 : decode cX6_hasRoom 48 = .ok (.lcmp, 1) := by decide +kernel
theorem dX6_hasRoom_49 : decode cX6_hasRoom 49 = .ok (.ifCond .ge 11, 3) := by decide +kernel
theorem dX6_hasRoom_52 : decode cX6_hasRoom 52 = .ok (.iload_n 3, 1) := by decide +kernel
theorem dX6_hasRoom_53 : decode cX6_hasRoom 53 = .ok (.ifCond .ne 7, 3) := by decide +kernel
theorem dX6_hasRoom_56 : decode cX6_hasRoom 56 = .ok (.iconst 1, 1) := by decide +kernel
theorem dX6_hasRoom_57 : decode cX6_hasRoom 57 = .ok (.goto 4, 3) := by decide +kernel
theorem dX6_hasRoom_60 : decode cX6_hasRoom 60 = .ok (.iconst 0, 1) := by decide +kernel
theorem dX6_hasRoom_61 : decode cX6_hasRoom 61 = .ok (.ireturn, 1) := by decide +kernel
theorem dX6_take_0 : decode cX6_take 0 = .ok (.aload_n 0, 1) := by decide +kernel
theorem dX6_take_1 : decode cX6_take 1 = .ok (.getfield 7, 3) := by decide +kernel
theorem dX6_take_4 : decode cX6_take 4 = .ok (.bipush 7, 2) := by decide +kernel
theorem dX6_take_6 : decode cX6_take 6 = .ok (.laload, 1) := by decide +kernel
theorem dX6_take_7 : decode cX6_take 7 = .ok (.l2i, 1) := by decide +kernel
theorem dX6_take_8 : decode cX6_take 8 = .ok (.istore 4, 2) := by decide +kernel
theorem dX6_take_10 : decode cX6_take 10 = .ok (.aload_n 0, 1) := by decide +kernel
theorem dX6_take_11 : decode cX6_take 11 = .ok (.getfield 7, 3) := by decide +kernel
theorem dX6_take_14 : decode cX6_take 14 = .ok (.iconst 1, 1) := by decide +kernel
theorem dX6_take_15 : decode cX6_take 15 = .ok (.laload, 1) := by decide +kernel
theorem dX6_take_16 : decode cX6_take 16 = .ok (.aload_n 0, 1) := by decide +kernel
theorem dX6_take_17 : decode cX6_take 17 = .ok (.iload_n 1, 1) := by decide +kernel
theorem dX6_take_18 : decode cX6_take 18 = .ok (.bipush 12, 2) := by decide +kernel
theorem dX6_take_20 : decode cX6_take 20 = .ok (.invokevirtual 53, 3) := by decide +kernel
theorem dX6_take_23 : decode cX6_take 23 = .ok (.lcmp, 1) := by decide +kernel
theorem dX6_take_24 : decode cX6_take 24 = .ok (.ifCond .le 12, 3) := by decide +kernel
theorem dX6_take_27 : decode cX6_take 27 = .ok (.aload_n 0, 1) := by decide +kernel
theorem dX6_take_28 : decode cX6_take 28 = .ok (.getfield 7, 3) := by decide +kernel
theorem dX6_take_31 : decode cX6_take 31 = .ok (.iconst 1, 1) := by decide +kernel
theorem dX6_take_32 : decode cX6_take 32 = .ok (.laload, 1) := by decide +kernel
theorem dX6_take_33 : decode cX6_take 33 = .ok (.goto 10, 3) := by decide +kernel
theorem dX6_take_36 : decode cX6_take 36 = .ok (.aload_n 0, 1) := by decide +kernel
theorem dX6_take_37 : decode cX6_take 37 = .ok (.iload_n 1, 1) := by decide +kernel
theorem dX6_take_38 : decode cX6_take 38 = .ok (.bipush 12, 2) := by decide +kernel
theorem dX6_take_40 : decode cX6_take 40 = .ok (.invokevirtual 53, 3) := by decide +kernel
theorem dX6_take_43 : decode cX6_take 43 = .ok (.lstore 5, 2) := by decide +kernel
theorem dX6_take_45 : decode cX6_take 45 = .ok (.aload_n 0, 1) := by decide +kernel
theorem dX6_take_46 : decode cX6_take 46 = .ok (.getfield 7, 3) := by decide +kernel
theorem dX6_take_49 : decode cX6_take 49 = .ok (.iload 4, 2) := by decide +kernel
theorem dX6_take_51 : decode cX6_take 51 = .ok (.iconst 0, 1) := by decide +kernel
theorem dX6_take_52 : decode cX6_take 52 = .ok (.invokestatic 46, 3) := by decide +kernel
theorem dX6_take_55 : decode cX6_take 55 = .ok (.iload_n 1, 1) := by decide +kernel
theorem dX6_take_56 : decode cX6_take 56 = .ok (.i2l, 1) := by decide +kernel
theorem dX6_take_57 : decode cX6_take 57 = .ok (.lastore, 1) := by decide +kernel
theorem dX6_take_58 : decode cX6_take 58 = .ok (.aload_n 0, 1) := by decide +kernel
theorem dX6_take_59 : decode cX6_take 59 = .ok (.getfield 7, 3) := by decide +kernel
theorem dX6_take_62 : decode cX6_take 62 = .ok (.iload 4, 2) := by decide +kernel
theorem dX6_take_64 : decode cX6_take 64 = .ok (.iconst 1, 1) := by decide +kernel
theorem dX6_take_65 : decode cX6_take 65 = .ok (.invokestatic 46, 3) := by decide +kernel
theorem dX6_take_68 : decode cX6_take 68 = .ok (.iload_n 2, 1) := by decide +kernel
theorem dX6_take_69 : decode cX6_take 69 = .ok (.i2l, 1) := by decide +kernel
theorem dX6_take_70 : decode cX6_take 70 = .ok (.lastore, 1) := by decide +kernel
theorem dX6_take_71 : decode cX6_take 71 = .ok (.aload_n 0, 1) := by decide +kernel
theorem dX6_take_72 : decode cX6_take 72 = .ok (.getfield 7, 3) := by decide +kernel
theorem dX6_take_75 : decode cX6_take 75 = .ok (.iload 4, 2) := by decide +kernel
theorem dX6_take_77 : decode cX6_take 77 = .ok (.iconst 2, 1) := by decide +kernel
theorem dX6_take_78 : decode cX6_take 78 = .ok (.invokestatic 46, 3) := by decide +kernel
theorem dX6_take_81 : decode cX6_take 81 = .ok (.aload_n 0, 1) := by decide +kernel
theorem dX6_take_82 : decode cX6_take 82 = .ok (.getfield 7, 3) := by decide +kernel
theorem dX6_take_85 : decode cX6_take 85 = .ok (.iconst 0, 1) := by decide +kernel
theorem dX6_take_86 : decode cX6_take 86 = .ok (.laload, 1) := by decide +kernel
theorem dX6_take_87 : decode cX6_take 87 = .ok (.lastore, 1) := by decide +kernel
theorem dX6_take_88 : decode cX6_take 88 = .ok (.aload_n 0, 1) := by decide +kernel
theorem dX6_take_89 : decode cX6_take 89 = .ok (.getfield 7, 3) := by decide +kernel
theorem dX6_take_92 : decode cX6_take 92 = .ok (.iload 4, 2) := by decide +kernel
theorem dX6_take_94 : decode cX6_take 94 = .ok (.iconst 3, 1) := by decide +kernel
theorem dX6_take_95 : decode cX6_take 95 = .ok (.invokestatic 46, 3) := by decide +kernel
theorem dX6_take_98 : decode cX6_take 98 = .ok (.iload_n 3, 1) := by decide +kernel
theorem dX6_take_99 : decode cX6_take 99 = .ok (.ifCond .ne 9, 3) := by decide +kernel
theorem dX6_take_102 : decode cX6_take 102 = .ok (.ldc2_w 34, 3) := by decide +kernel
theorem dX6_take_105 : decode cX6_take 105 = .ok (.goto 12, 3) := by decide +kernel
theorem dX6_take_108 : decode cX6_take 108 = .ok (.aload_n 0, 1) := by decide +kernel
theorem dX6_take_109 : decode cX6_take 109 = .ok (.getfield 7, 3) := by decide +kernel
theorem dX6_take_112 : decode cX6_take 112 = .ok (.iconst 0, 1) := by decide +kernel
theorem dX6_take_113 : decode cX6_take 113 = .ok (.laload, 1) := by decide +kernel
theorem dX6_take_114 : decode cX6_take 114 = .ok (.iload_n 3, 1) := by decide +kernel
theorem dX6_take_115 : decode cX6_take 115 = .ok (.i2l, 1) := by decide +kernel
theorem dX6_take_116 : decode cX6_take 116 = .ok (.ladd, 1) := by decide +kernel
theorem dX6_take_117 : decode cX6_take 117 = .ok (.lastore, 1) := by decide +kernel
theorem dX6_take_118 : decode cX6_take 118 = .ok (.aload_n 0, 1) := by decide +kernel
theorem dX6_take_119 : decode cX6_take 119 = .ok (.getfield 7, 3) := by decide +kernel
theorem dX6_take_122 : decode cX6_take 122 = .ok (.iload 4, 2) := by decide +kernel
theorem dX6_take_124 : decode cX6_take 124 = .ok (.iconst 4, 1) := by decide +kernel
theorem dX6_take_125 : decode cX6_take 125 = .ok (.invokestatic 46, 3) := by decide +kernel
theorem dX6_take_128 : decode cX6_take 128 = .ok (.lconst 0, 1) := by decide +kernel
theorem dX6_take_129 : decode cX6_take 129 = .ok (.lastore, 1) := by decide +kernel
theorem dX6_take_130 : decode cX6_take 130 = .ok (.aload_n 0, 1) := by decide +kernel
theorem dX6_take_131 : decode cX6_take 131 = .ok (.getfield 7, 3) := by decide +kernel
theorem dX6_take_134 : decode cX6_take 134 = .ok (.iload 4, 2) := by decide +kernel
theorem dX6_take_136 : decode cX6_take 136 = .ok (.iconst 5, 1) := by decide +kernel
theorem dX6_take_137 : decode cX6_take 137 = .ok (.invokestatic 46, 3) := by decide +kernel
theorem dX6_take_140 : decode cX6_take 140 = .ok (.lconst 0, 1) := by decide +kernel
theorem dX6_take_141 : decode cX6_take 141 = .ok (.lastore, 1) := by decide +kernel
theorem dX6_take_142 : decode cX6_take 142 = .ok (.aload_n 0, 1) := by decide +kernel
theorem dX6_take_143 : decode cX6_take 143 = .ok (.getfield 7, 3) := by decide +kernel
theorem dX6_take_146 : decode cX6_take 146 = .ok (.iload 4, 2) := by decide +kernel
theorem dX6_take_148 : decode cX6_take 148 = .ok (.bipush 6, 2) := by decide +kernel
theorem dX6_take_150 : decode cX6_take 150 = .ok (.invokestatic 46, 3) := by decide +kernel
theorem dX6_take_153 : decode cX6_take 153 = .ok (.lconst 0, 1) := by decide +kernel
theorem dX6_take_154 : decode cX6_take 154 = .ok (.lastore, 1) := by decide +kernel
theorem dX6_take_155 : decode cX6_take 155 = .ok (.aload_n 0, 1) := by decide +kernel
theorem dX6_take_156 : decode cX6_take 156 = .ok (.getfield 7, 3) := by decide +kernel
theorem dX6_take_159 : decode cX6_take 159 = .ok (.iload 4, 2) := by decide +kernel
theorem dX6_take_161 : decode cX6_take 161 = .ok (.bipush 7, 2) := by decide +kernel
theorem dX6_take_163 : decode cX6_take 163 = .ok (.invokestatic 46, 3) := by decide +kernel
theorem dX6_take_166 : decode cX6_take 166 = .ok (.lconst 0, 1) := by decide +kernel
theorem dX6_take_167 : decode cX6_take 167 = .ok (.lastore, 1) := by decide +kernel
theorem dX6_take_168 : decode cX6_take 168 = .ok (.aload_n 0, 1) := by decide +kernel
theorem dX6_take_169 : decode cX6_take 169 = .ok (.getfield 7, 3) := by decide +kernel
theorem dX6_take_172 : decode cX6_take 172 = .ok (.iload 4, 2) := by decide +kernel
theorem dX6_take_174 : decode cX6_take 174 = .ok (.bipush 8, 2) := by decide +kernel
theorem dX6_take_176 : decode cX6_take 176 = .ok (.invokestatic 46, 3) := by decide +kernel
theorem dX6_take_179 : decode cX6_take 179 = .ok (.ldc2_w 34, 3) := by decide +kernel
theorem dX6_take_182 : decode cX6_take 182 = .ok (.lastore, 1) := by decide +kernel
theorem dX6_take_183 : decode cX6_take 183 = .ok (.aload_n 0, 1) := by decide +kernel
theorem dX6_take_184 : decode cX6_take 184 = .ok (.getfield 7, 3) := by decide +kernel
theorem dX6_take_187 : decode cX6_take 187 = .ok (.iload 4, 2) := by decide +kernel
theorem dX6_take_189 : decode cX6_take 189 = .ok (.bipush 9, 2) := by decide +kernel
theorem dX6_take_191 : decode cX6_take 191 = .ok (.invokestatic 46, 3) := by decide +kernel
theorem dX6_take_194 : decode cX6_take 194 = .ok (.lload 5, 2) := by decide +kernel
theorem dX6_take_196 : decode cX6_take 196 = .ok (.lastore, 1) := by decide +kernel
theorem dX6_take_197 : decode cX6_take 197 = .ok (.aload_n 0, 1) := by decide +kernel
theorem dX6_take_198 : decode cX6_take 198 = .ok (.getfield 7, 3) := by decide +kernel
theorem dX6_take_201 : decode cX6_take 201 = .ok (.iload 4, 2) := by decide +kernel
theorem dX6_take_203 : decode cX6_take 203 = .ok (.bipush 10, 2) := by decide +kernel
theorem dX6_take_205 : decode cX6_take 205 = .ok (.invokestatic 46, 3) := by decide +kernel
theorem dX6_take_208 : decode cX6_take 208 = .ok (.lconst 0, 1) := by decide +kernel
theorem dX6_take_209 : decode cX6_take 209 = .ok (.lastore, 1) := by decide +kernel
theorem dX6_take_210 : decode cX6_take 210 = .ok (.aload_n 0, 1) := by decide +kernel
theorem dX6_take_211 : decode cX6_take 211 = .ok (.getfield 7, 3) := by decide +kernel
theorem dX6_take_214 : decode cX6_take 214 = .ok (.iload_n 1, 1) := by decide +kernel
theorem dX6_take_215 : decode cX6_take 215 = .ok (.bipush 12, 2) := by decide +kernel
theorem dX6_take_217 : decode cX6_take 217 = .ok (.invokestatic 40, 3) := by decide +kernel
theorem dX6_take_220 : decode cX6_take 220 = .ok (.lload 5, 2) := by decide +kernel
theorem dX6_take_222 : decode cX6_take 222 = .ok (.iload_n 2, 1) := by decide +kernel
theorem dX6_take_223 : decode cX6_take 223 = .ok (.i2l, 1) := by decide +kernel
theorem dX6_take_224 : decode cX6_take 224 = .ok (.ldc2_w 81, 3) := by decide +kernel
theorem dX6_take_227 : decode cX6_take 227 = .ok (.lmul, 1) := by decide +kernel
theorem dX6_take_228 : decode cX6_take 228 = .ok (.aload_n 0, 1) := by decide +kernel
theorem dX6_take_229 : decode cX6_take 229 = .ok (.iload_n 1, 1) := by decide +kernel
theorem dX6_take_230 : decode cX6_take 230 = .ok (.iconst 0, 1) := by decide +kernel
theorem dX6_take_231 : decode cX6_take 231 = .ok (.invokevirtual 53, 3) := by decide +kernel
theorem dX6_take_234 : decode cX6_take 234 = .ok (.ldiv, 1) := by decide +kernel
theorem dX6_take_235 : decode cX6_take 235 = .ok (.ladd, 1) := by decide +kernel
theorem dX6_take_236 : decode cX6_take 236 = .ok (.lastore, 1) := by decide +kernel
theorem dX6_take_237 : decode cX6_take 237 = .ok (.aload_n 0, 1) := by decide +kernel
theorem dX6_take_238 : decode cX6_take 238 = .ok (.getfield 7, 3) := by decide +kernel
theorem dX6_take_241 : decode cX6_take 241 = .ok (.iload_n 1, 1) := by decide +kernel
theorem dX6_take_242 : decode cX6_take 242 = .ok (.bipush 14, 2) := by decide +kernel
theorem dX6_take_244 : decode cX6_take 244 = .ok (.invokestatic 40, 3) := by decide +kernel
theorem dX6_take_247 : decode cX6_take 247 = .ok (.dup2, 1) := by decide +kernel
theorem dX6_take_248 : decode cX6_take 248 = .ok (.laload, 1) := by decide +kernel
theorem dX6_take_249 : decode cX6_take 249 = .ok (.iload_n 2, 1) := by decide +kernel
theorem dX6_take_250 : decode cX6_take 250 = .ok (.i2l, 1) := by decide +kernel
theorem dX6_take_251 : decode cX6_take 251 = .ok (.ldc2_w 81, 3) := by decide +kernel
theorem dX6_take_254 : decode cX6_take 254 = .ok (.lmul, 1) := by decide +kernel
theorem dX6_take_255 : decode cX6_take 255 = .ok (.ladd, 1) := by decide +kernel
theorem dX6_take_256 : decode cX6_take 256 = .ok (.lastore, 1) := by decide +kernel
theorem dX6_take_257 : decode cX6_take 257 = .ok (.aload_n 0, 1) := by decide +kernel
theorem dX6_take_258 : decode cX6_take 258 = .ok (.getfield 7, 3) := by decide +kernel
theorem dX6_take_261 : decode cX6_take 261 = .ok (.iload_n 1, 1) := by decide +kernel
theorem dX6_take_262 : decode cX6_take 262 = .ok (.bipush 17, 2) := by decide +kernel
theorem dX6_take_264 : decode cX6_take 264 = .ok (.invokestatic 40, 3) := by decide +kernel
theorem dX6_take_267 : decode cX6_take 267 = .ok (.dup2, 1) := by decide +kernel
theorem dX6_take_268 : decode cX6_take 268 = .ok (.laload, 1) := by decide +kernel
theorem dX6_take_269 : decode cX6_take 269 = .ok (.lconst 1, 1) := by decide +kernel
theorem dX6_take_270 : decode cX6_take 270 = .ok (.ladd, 1) := by decide +kernel
theorem dX6_take_271 : decode cX6_take 271 = .ok (.lastore, 1) := by decide +kernel
theorem dX6_take_272 : decode cX6_take 272 = .ok (.aload_n 0, 1) := by decide +kernel
theorem dX6_take_273 : decode cX6_take 273 = .ok (.getfield 7, 3) := by decide +kernel
theorem dX6_take_276 : decode cX6_take 276 = .ok (.iload_n 1, 1) := by decide +kernel
theorem dX6_take_277 : decode cX6_take 277 = .ok (.bipush 11, 2) := by decide +kernel
theorem dX6_take_279 : decode cX6_take 279 = .ok (.invokestatic 40, 3) := by decide +kernel
theorem dX6_take_282 : decode cX6_take 282 = .ok (.dup2, 1) := by decide +kernel
theorem dX6_take_283 : decode cX6_take 283 = .ok (.laload, 1) := by decide +kernel
theorem dX6_take_284 : decode cX6_take 284 = .ok (.lconst 1, 1) := by decide +kernel
theorem dX6_take_285 : decode cX6_take 285 = .ok (.ladd, 1) := by decide +kernel
theorem dX6_take_286 : decode cX6_take 286 = .ok (.lastore, 1) := by decide +kernel
theorem dX6_take_287 : decode cX6_take 287 = .ok (.aload_n 0, 1) := by decide +kernel
theorem dX6_take_288 : decode cX6_take 288 = .ok (.getfield 7, 3) := by decide +kernel
theorem dX6_take_291 : decode cX6_take 291 = .ok (.bipush 7, 2) := by decide +kernel
theorem dX6_take_293 : decode cX6_take 293 = .ok (.dup2, 1) := by decide +kernel
theorem dX6_take_294 : decode cX6_take 294 = .ok (.laload, 1) := by decide +kernel
theorem dX6_take_295 : decode cX6_take 295 = .ok (.lconst 1, 1) := by decide +kernel
theorem dX6_take_296 : decode cX6_take 296 = .ok (.ladd, 1) := by decide +kernel
theorem dX6_take_297 : decode cX6_take 297 = .ok (.lastore, 1) := by decide +kernel
theorem dX6_take_298 : decode cX6_take 298 = .ok (.iload 4, 2) := by decide +kernel
theorem dX6_take_300 : decode cX6_take 300 = .ok (.ireturn, 1) := by decide +kernel
theorem dX6_offer_0 : decode cX6_offer 0 = .ok (.aload_n 0, 1) := by decide +kernel
theorem dX6_offer_1 : decode cX6_offer 1 = .ok (.iload_n 1, 1) := by decide +kernel
theorem dX6_offer_2 : decode cX6_offer 2 = .ok (.invokevirtual 72, 3) := by decide +kernel
theorem dX6_offer_5 : decode cX6_offer 5 = .ok (.ifCond .ne 5, 3) := by decide +kernel
theorem dX6_offer_8 : decode cX6_offer 8 = .ok (.iconst (-1), 1) := by decide +kernel
theorem dX6_offer_9 : decode cX6_offer 9 = .ok (.ireturn, 1) := by decide +kernel
theorem dX6_offer_10 : decode cX6_offer 10 = .ok (.iload_n 2, 1) := by decide +kernel
theorem dX6_offer_11 : decode cX6_offer 11 = .ok (.i2l, 1) := by decide +kernel
theorem dX6_offer_12 : decode cX6_offer 12 = .ok (.lconst 1, 1) := by decide +kernel
theorem dX6_offer_13 : decode cX6_offer 13 = .ok (.ldc2_w 83, 3) := by decide +kernel
theorem dX6_offer_16 : decode cX6_offer 16 = .ok (.invokestatic 36, 3) := by decide +kernel
theorem dX6_offer_19 : decode cX6_offer 19 = .ok (.ifCond .eq 15, 3) := by decide +kernel
theorem dX6_offer_22 : decode cX6_offer 22 = .ok (.iload_n 3, 1) := by decide +kernel
theorem dX6_offer_23 : decode cX6_offer 23 = .ok (.i2l, 1) := by decide +kernel
theorem dX6_offer_24 : decode cX6_offer 24 = .ok (.lconst 0, 1) := by decide +kernel
theorem dX6_offer_25 : decode cX6_offer 25 = .ok (.ldc2_w 85, 3) := by decide +kernel
theorem dX6_offer_28 : decode cX6_offer 28 = .ok (.invokestatic 36, 3) := by decide +kernel
theorem dX6_offer_31 : decode cX6_offer 31 = .ok (.ifCond .ne 6, 3) := by decide +kernel
theorem dX6_offer_34 : decode cX6_offer 34 = .ok (.bipush (-2), 2) := by decide +kernel
theorem dX6_offer_36 : decode cX6_offer 36 = .ok (.ireturn, 1) := by decide +kernel
theorem dX6_offer_37 : decode cX6_offer 37 = .ok (.aload_n 0, 1) := by decide +kernel
theorem dX6_offer_38 : decode cX6_offer 38 = .ok (.iload_n 1, 1) := by decide +kernel
theorem dX6_offer_39 : decode cX6_offer 39 = .ok (.invokevirtual 87, 3) := by decide +kernel
theorem dX6_offer_42 : decode cX6_offer 42 = .ok (.ifCond .eq 13, 3) := by decide +kernel
theorem dX6_offer_45 : decode cX6_offer 45 = .ok (.aload_n 0, 1) := by decide +kernel
theorem dX6_offer_46 : decode cX6_offer 46 = .ok (.iload_n 1, 1) := by decide +kernel
theorem dX6_offer_47 : decode cX6_offer 47 = .ok (.iload_n 2, 1) := by decide +kernel
theorem dX6_offer_48 : decode cX6_offer 48 = .ok (.iload_n 3, 1) := by decide +kernel
theorem dX6_offer_49 : decode cX6_offer 49 = .ok (.invokevirtual 90, 3) := by decide +kernel
theorem dX6_offer_52 : decode cX6_offer 52 = .ok (.goto 5, 3) := by decide +kernel
theorem dX6_offer_55 : decode cX6_offer 55 = .ok (.bipush (-4), 2) := by decide +kernel
theorem dX6_offer_57 : decode cX6_offer 57 = .ok (.ireturn, 1) := by decide +kernel
theorem dX6_cancel_0 : decode cX6_cancel 0 = .ok (.aload_n 0, 1) := by decide +kernel
theorem dX6_cancel_1 : decode cX6_cancel 1 = .ok (.iload_n 1, 1) := by decide +kernel
theorem dX6_cancel_2 : decode cX6_cancel 2 = .ok (.invokevirtual 94, 3) := by decide +kernel
theorem dX6_cancel_5 : decode cX6_cancel 5 = .ok (.ifCond .ne 5, 3) := by decide +kernel
theorem dX6_cancel_8 : decode cX6_cancel 8 = .ok (.iconst (-1), 1) := by decide +kernel
theorem dX6_cancel_9 : decode cX6_cancel 9 = .ok (.ireturn, 1) := by decide +kernel
theorem dX6_cancel_10 : decode cX6_cancel 10 = .ok (.aload_n 0, 1) := by decide +kernel
theorem dX6_cancel_11 : decode cX6_cancel 11 = .ok (.iload_n 1, 1) := by decide +kernel
theorem dX6_cancel_12 : decode cX6_cancel 12 = .ok (.iconst 4, 1) := by decide +kernel
theorem dX6_cancel_13 : decode cX6_cancel 13 = .ok (.invokevirtual 49, 3) := by decide +kernel
theorem dX6_cancel_16 : decode cX6_cancel 16 = .ok (.lconst 0, 1) := by decide +kernel
theorem dX6_cancel_17 : decode cX6_cancel 17 = .ok (.lcmp, 1) := by decide +kernel
theorem dX6_cancel_18 : decode cX6_cancel 18 = .ok (.ifCond .ne 14, 3) := by decide +kernel
theorem dX6_cancel_21 : decode cX6_cancel 21 = .ok (.aload_n 0, 1) := by decide +kernel
theorem dX6_cancel_22 : decode cX6_cancel 22 = .ok (.iload_n 1, 1) := by decide +kernel
theorem dX6_cancel_23 : decode cX6_cancel 23 = .ok (.iconst 5, 1) := by decide +kernel
theorem dX6_cancel_24 : decode cX6_cancel 24 = .ok (.invokevirtual 49, 3) := by decide +kernel
theorem dX6_cancel_27 : decode cX6_cancel 27 = .ok (.lconst 0, 1) := by decide +kernel
theorem dX6_cancel_28 : decode cX6_cancel 28 = .ok (.lcmp, 1) := by decide +kernel
theorem dX6_cancel_29 : decode cX6_cancel 29 = .ok (.ifCond .le 6, 3) := by decide +kernel
theorem dX6_cancel_32 : decode cX6_cancel 32 = .ok (.bipush (-5), 2) := by decide +kernel
theorem dX6_cancel_34 : decode cX6_cancel 34 = .ok (.ireturn, 1) := by decide +kernel
theorem dX6_cancel_35 : decode cX6_cancel 35 = .ok (.aload_n 0, 1) := by decide +kernel
theorem dX6_cancel_36 : decode cX6_cancel 36 = .ok (.getfield 7, 3) := by decide +kernel
theorem dX6_cancel_39 : decode cX6_cancel 39 = .ok (.iload_n 1, 1) := by decide +kernel
theorem dX6_cancel_40 : decode cX6_cancel 40 = .ok (.iconst 4, 1) := by decide +kernel
theorem dX6_cancel_41 : decode cX6_cancel 41 = .ok (.invokestatic 46, 3) := by decide +kernel
theorem dX6_cancel_44 : decode cX6_cancel 44 = .ok (.ldc2_w 97, 3) := by decide +kernel
theorem dX6_cancel_47 : decode cX6_cancel 47 = .ok (.lastore, 1) := by decide +kernel
theorem dX6_cancel_48 : decode cX6_cancel 48 = .ok (.aload_n 0, 1) := by decide +kernel
theorem dX6_cancel_49 : decode cX6_cancel 49 = .ok (.iload_n 1, 1) := by decide +kernel
theorem dX6_cancel_50 : decode cX6_cancel 50 = .ok (.iconst 0, 1) := by decide +kernel
theorem dX6_cancel_51 : decode cX6_cancel 51 = .ok (.invokevirtual 49, 3) := by decide +kernel
theorem dX6_cancel_54 : decode cX6_cancel 54 = .ok (.l2i, 1) := by decide +kernel
theorem dX6_cancel_55 : decode cX6_cancel 55 = .ok (.istore_n 2, 1) := by decide +kernel
theorem dX6_cancel_56 : decode cX6_cancel 56 = .ok (.aload_n 0, 1) := by decide +kernel
theorem dX6_cancel_57 : decode cX6_cancel 57 = .ok (.getfield 7, 3) := by decide +kernel
theorem dX6_cancel_60 : decode cX6_cancel 60 = .ok (.iload_n 2, 1) := by decide +kernel
theorem dX6_cancel_61 : decode cX6_cancel 61 = .ok (.bipush 17, 2) := by decide +kernel
theorem dX6_cancel_63 : decode cX6_cancel 63 = .ok (.invokestatic 40, 3) := by decide +kernel
theorem dX6_cancel_66 : decode cX6_cancel 66 = .ok (.dup2, 1) := by decide +kernel
theorem dX6_cancel_67 : decode cX6_cancel 67 = .ok (.laload, 1) := by decide +kernel
theorem dX6_cancel_68 : decode cX6_cancel 68 = .ok (.lconst 1, 1) := by decide +kernel
theorem dX6_cancel_69 : decode cX6_cancel 69 = .ok (.lsub, 1) := by decide +kernel
theorem dX6_cancel_70 : decode cX6_cancel 70 = .ok (.lastore, 1) := by decide +kernel
theorem dX6_cancel_71 : decode cX6_cancel 71 = .ok (.aload_n 0, 1) := by decide +kernel
theorem dX6_cancel_72 : decode cX6_cancel 72 = .ok (.iload_n 2, 1) := by decide +kernel
theorem dX6_cancel_73 : decode cX6_cancel 73 = .ok (.bipush 17, 2) := by decide +kernel
theorem dX6_cancel_75 : decode cX6_cancel 75 = .ok (.invokevirtual 53, 3) := by decide +kernel
theorem dX6_cancel_78 : decode cX6_cancel 78 = .ok (.l2i, 1) := by decide +kernel
theorem dX6_cancel_79 : decode cX6_cancel 79 = .ok (.ireturn, 1) := by decide +kernel
theorem dX6_restTicks_0 : decode cX6_restTicks 0 = .ok (.aload_n 0, 1) := by decide +kernel
theorem dX6_restTicks_1 : decode cX6_restTicks 1 = .ok (.iload_n 1, 1) := by decide +kernel
theorem dX6_restTicks_2 : decode cX6_restTicks 2 = .ok (.iconst 1, 1) := by decide +kernel
theorem dX6_restTicks_3 : decode cX6_restTicks 3 = .ok (.invokevirtual 49, 3) := by decide +kernel
theorem dX6_restTicks_6 : decode cX6_restTicks 6 = .ok (.aload_n 0, 1) := by decide +kernel
theorem dX6_restTicks_7 : decode cX6_restTicks 7 = .ok (.iload_n 1, 1) := by decide +kernel
theorem dX6_restTicks_8 : decode cX6_restTicks 8 = .ok (.iconst 5, 1) := by decide +kernel
theorem dX6_restTicks_9 : decode cX6_restTicks 9 = .ok (.invokevirtual 49, 3) := by decide +kernel
theorem dX6_restTicks_12 : decode cX6_restTicks 12 = .ok (.lsub, 1) := by decide +kernel
theorem dX6_restTicks_13 : decode cX6_restTicks 13 = .ok (.lstore_n 2, 1) := by decide +kernel
theorem dX6_restTicks_14 : decode cX6_restTicks 14 = .ok (.aload_n 0, 1) := by decide +kernel
theorem dX6_restTicks_15 : decode cX6_restTicks 15 = .ok (.aload_n 0, 1) := by decide +kernel
theorem dX6_restTicks_16 : decode cX6_restTicks 16 = .ok (.iload_n 1, 1) := by decide +kernel
theorem dX6_restTicks_17 : decode cX6_restTicks 17 = .ok (.iconst 0, 1) := by decide +kernel
theorem dX6_restTicks_18 : decode cX6_restTicks 18 = .ok (.invokevirtual 49, 3) := by decide +kernel
theorem dX6_restTicks_21 : decode cX6_restTicks 21 = .ok (.l2i, 1) := by decide +kernel
theorem dX6_restTicks_22 : decode cX6_restTicks 22 = .ok (.iconst 2, 1) := by decide +kernel
theorem dX6_restTicks_23 : decode cX6_restTicks 23 = .ok (.invokevirtual 53, 3) := by decide +kernel
theorem dX6_restTicks_26 : decode cX6_restTicks 26 = .ok (.lstore 4, 2) := by decide +kernel
theorem dX6_restTicks_28 : decode cX6_restTicks 28 = .ok (.lload 4, 2) := by decide +kernel
theorem dX6_restTicks_30 : decode cX6_restTicks 30 = .ok (.lconst 0, 1) := by decide +kernel
theorem dX6_restTicks_31 : decode cX6_restTicks 31 = .ok (.lcmp, 1) := by decide +kernel
theorem dX6_restTicks_32 : decode cX6_restTicks 32 = .ok (.ifCond .eq 10, 3) := by decide +kernel
theorem dX6_restTicks_35 : decode cX6_restTicks 35 = .ok (.lload_n 2, 1) := by decide +kernel
theorem dX6_restTicks_36 : decode cX6_restTicks 36 = .ok (.lload 4, 2) := by decide +kernel
theorem dX6_restTicks_38 : decode cX6_restTicks 38 = .ok (.lcmp, 1) := by decide +kernel
theorem dX6_restTicks_39 : decode cX6_restTicks 39 = .ok (.ifCond .gt 14, 3) := by decide +kernel
theorem dX6_restTicks_42 : decode cX6_restTicks 42 = .ok (.aload_n 0, 1) := by decide +kernel
theorem dX6_restTicks_43 : decode cX6_restTicks 43 = .ok (.getfield 7, 3) := by decide +kernel
theorem dX6_restTicks_46 : decode cX6_restTicks 46 = .ok (.iconst 3, 1) := by decide +kernel
theorem dX6_restTicks_47 : decode cX6_restTicks 47 = .ok (.laload, 1) := by decide +kernel
theorem dX6_restTicks_48 : decode cX6_restTicks 48 = .ok (.lload_n 2, 1) := by decide +kernel
theorem dX6_restTicks_49 : decode cX6_restTicks 49 = .ok (.ladd, 1) := by decide +kernel
theorem dX6_restTicks_50 : decode cX6_restTicks 50 = .ok (.goto 21, 3) := by decide +kernel
theorem dX6_restTicks_53 : decode cX6_restTicks 53 = .ok (.lload_n 2, 1) := by decide +kernel
theorem dX6_restTicks_54 : decode cX6_restTicks 54 = .ok (.aload_n 0, 1) := by decide +kernel
theorem dX6_restTicks_55 : decode cX6_restTicks 55 = .ok (.getfield 7, 3) := by decide +kernel
theorem dX6_restTicks_58 : decode cX6_restTicks 58 = .ok (.iconst 3, 1) := by decide +kernel
theorem dX6_restTicks_59 : decode cX6_restTicks 59 = .ok (.laload, 1) := by decide +kernel
theorem dX6_restTicks_60 : decode cX6_restTicks 60 = .ok (.lload_n 2, 1) := by decide +kernel
theorem dX6_restTicks_61 : decode cX6_restTicks 61 = .ok (.lload 4, 2) := by decide +kernel
theorem dX6_restTicks_63 : decode cX6_restTicks 63 = .ok (.ladd, 1) := by decide +kernel
theorem dX6_restTicks_64 : decode cX6_restTicks 64 = .ok (.lconst 1, 1) := by decide +kernel
theorem dX6_restTicks_65 : decode cX6_restTicks 65 = .ok (.lsub, 1) := by decide +kernel
theorem dX6_restTicks_66 : decode cX6_restTicks 66 = .ok (.lload 4, 2) := by decide +kernel
theorem dX6_restTicks_68 : decode cX6_restTicks 68 = .ok (.ldiv, 1) := by decide +kernel
theorem dX6_restTicks_69 : decode cX6_restTicks 69 = .ok (.lmul, 1) := by decide +kernel
theorem dX6_restTicks_70 : decode cX6_restTicks 70 = .ok (.ladd, 1) := by decide +kernel
theorem dX6_restTicks_71 : decode cX6_restTicks 71 = .ok (.lreturn, 1) := by decide +kernel
theorem dX6_isUrgent_0 : decode cX6_isUrgent 0 = .ok (.aload_n 0, 1) := by decide +kernel
theorem dX6_isUrgent_1 : decode cX6_isUrgent 1 = .ok (.getfield 7, 3) := by decide +kernel
theorem dX6_isUrgent_4 : decode cX6_isUrgent 4 = .ok (.bipush 6, 2) := by decide +kernel
theorem dX6_isUrgent_6 : decode cX6_isUrgent 6 = .ok (.laload, 1) := by decide +kernel
theorem dX6_isUrgent_7 : decode cX6_isUrgent 7 = .ok (.lconst 1, 1) := by decide +kernel
theorem dX6_isUrgent_8 : decode cX6_isUrgent 8 = .ok (.lcmp, 1) := by decide +kernel
theorem dX6_isUrgent_9 : decode cX6_isUrgent 9 = .ok (.ifCond .ne 49, 3) := by decide +kernel
theorem dX6_isUrgent_12 : decode cX6_isUrgent 12 = .ok (.aload_n 0, 1) := by decide +kernel
theorem dX6_isUrgent_13 : decode cX6_isUrgent 13 = .ok (.iload_n 1, 1) := by decide +kernel
theorem dX6_isUrgent_14 : decode cX6_isUrgent 14 = .ok (.iconst 3, 1) := by decide +kernel
theorem dX6_isUrgent_15 : decode cX6_isUrgent 15 = .ok (.invokevirtual 49, 3) := by decide +kernel
theorem dX6_isUrgent_18 : decode cX6_isUrgent 18 = .ok (.ldc2_w 34, 3) := by decide +kernel
theorem dX6_isUrgent_21 : decode cX6_isUrgent 21 = .ok (.lcmp, 1) := by decide +kernel
theorem dX6_isUrgent_22 : decode cX6_isUrgent 22 = .ok (.ifCond .eq 36, 3) := by decide +kernel
theorem dX6_isUrgent_25 : decode cX6_isUrgent 25 = .ok (.aload_n 0, 1) := by decide +kernel
theorem dX6_isUrgent_26 : decode cX6_isUrgent 26 = .ok (.getfield 7, 3) := by decide +kernel
theorem dX6_isUrgent_29 : decode cX6_isUrgent 29 = .ok (.iconst 0, 1) := by decide +kernel
theorem dX6_isUrgent_30 : decode cX6_isUrgent 30 = .ok (.laload, 1) := by decide +kernel
theorem dX6_isUrgent_31 : decode cX6_isUrgent 31 = .ok (.aload_n 0, 1) := by decide +kernel
theorem dX6_isUrgent_32 : decode cX6_isUrgent 32 = .ok (.iload_n 1, 1) := by decide +kernel
theorem dX6_isUrgent_33 : decode cX6_isUrgent 33 = .ok (.invokevirtual 99, 3) := by decide +kernel
theorem dX6_isUrgent_36 : decode cX6_isUrgent 36 = .ok (.ladd, 1) := by decide +kernel
theorem dX6_isUrgent_37 : decode cX6_isUrgent 37 = .ok (.aload_n 0, 1) := by decide +kernel
theorem dX6_isUrgent_38 : decode cX6_isUrgent 38 = .ok (.getfield 7, 3) := by decide +kernel
theorem dX6_isUrgent_41 : decode cX6_isUrgent 41 = .ok (.iconst 5, 1) := by decide +kernel
theorem dX6_isUrgent_42 : decode cX6_isUrgent 42 = .ok (.laload, 1) := by decide +kernel
theorem dX6_isUrgent_43 : decode cX6_isUrgent 43 = .ok (.ladd, 1) := by decide +kernel
theorem dX6_isUrgent_44 : decode cX6_isUrgent 44 = .ok (.aload_n 0, 1) := by decide +kernel
theorem dX6_isUrgent_45 : decode cX6_isUrgent 45 = .ok (.iload_n 1, 1) := by decide +kernel
theorem dX6_isUrgent_46 : decode cX6_isUrgent 46 = .ok (.iconst 3, 1) := by decide +kernel
theorem dX6_isUrgent_47 : decode cX6_isUrgent 47 = .ok (.invokevirtual 49, 3) := by decide +kernel
theorem dX6_isUrgent_50 : decode cX6_isUrgent 50 = .ok (.lcmp, 1) := by decide +kernel
theorem dX6_isUrgent_51 : decode cX6_isUrgent 51 = .ok (.ifCond .lt 7, 3) := by decide +kernel
theorem dX6_isUrgent_54 : decode cX6_isUrgent 54 = .ok (.iconst 1, 1) := by decide +kernel
theorem dX6_isUrgent_55 : decode cX6_isUrgent 55 = .ok (.goto 4, 3) := by decide +kernel
theorem dX6_isUrgent_58 : decode cX6_isUrgent 58 = .ok (.iconst 0, 1) := by decide +kernel
theorem dX6_isUrgent_59 : decode cX6_isUrgent 59 = .ok (.ireturn, 1) := by decide +kernel
theorem dX6_packet_0 : decode cX6_packet 0 = .ok (.aload_n 0, 1) := by decide +kernel
theorem dX6_packet_1 : decode cX6_packet 1 = .ok (.iload_n 1, 1) := by decide +kernel
theorem dX6_packet_2 : decode cX6_packet 2 = .ok (.invokevirtual 94, 3) := by decide +kernel
theorem dX6_packet_5 : decode cX6_packet 5 = .ok (.ifCond .ne 5, 3) := by decide +kernel
theorem dX6_packet_8 : decode cX6_packet 8 = .ok (.iconst (-1), 1) := by decide +kernel
theorem dX6_packet_9 : decode cX6_packet 9 = .ok (.ireturn, 1) := by decide +kernel
theorem dX6_packet_10 : decode cX6_packet 10 = .ok (.iload_n 2, 1) := by decide +kernel
theorem dX6_packet_11 : decode cX6_packet 11 = .ok (.i2l, 1) := by decide +kernel
theorem dX6_packet_12 : decode cX6_packet 12 = .ok (.lconst 0, 1) := by decide +kernel
theorem dX6_packet_13 : decode cX6_packet 13 = .ok (.ldc2_w 103, 3) := by decide +kernel
theorem dX6_packet_16 : decode cX6_packet 16 = .ok (.invokestatic 36, 3) := by decide +kernel
theorem dX6_packet_19 : decode cX6_packet 19 = .ok (.ifCond .ne 6, 3) := by decide +kernel
theorem dX6_packet_22 : decode cX6_packet 22 = .ok (.bipush (-2), 2) := by decide +kernel
theorem dX6_packet_24 : decode cX6_packet 24 = .ok (.ireturn, 1) := by decide +kernel
theorem dX6_packet_25 : decode cX6_packet 25 = .ok (.iload_n 2, 1) := by decide +kernel
theorem dX6_packet_26 : decode cX6_packet 26 = .ok (.bipush 9, 2) := by decide +kernel
theorem dX6_packet_28 : decode cX6_packet 28 = .ok (.if_icmp .ge 13, 3) := by decide +kernel
theorem dX6_packet_31 : decode cX6_packet 31 = .ok (.aload_n 0, 1) := by decide +kernel
theorem dX6_packet_32 : decode cX6_packet 32 = .ok (.iload_n 1, 1) := by decide +kernel
theorem dX6_packet_33 : decode cX6_packet 33 = .ok (.iload_n 2, 1) := by decide +kernel
theorem dX6_packet_34 : decode cX6_packet 34 = .ok (.invokevirtual 49, 3) := by decide +kernel
theorem dX6_packet_37 : decode cX6_packet 37 = .ok (.l2i, 1) := by decide +kernel
theorem dX6_packet_38 : decode cX6_packet 38 = .ok (.goto 24, 3) := by decide +kernel
theorem dX6_packet_41 : decode cX6_packet 41 = .ok (.aload_n 0, 1) := by decide +kernel
theorem dX6_packet_42 : decode cX6_packet 42 = .ok (.iload_n 1, 1) := by decide +kernel
theorem dX6_packet_43 : decode cX6_packet 43 = .ok (.invokevirtual 60, 3) := by decide +kernel
theorem dX6_packet_46 : decode cX6_packet 46 = .ok (.ifCond .eq 15, 3) := by decide +kernel
theorem dX6_packet_49 : decode cX6_packet 49 = .ok (.aload_n 0, 1) := by decide +kernel
theorem dX6_packet_50 : decode cX6_packet 50 = .ok (.iload_n 1, 1) := by decide +kernel
theorem dX6_packet_51 : decode cX6_packet 51 = .ok (.invokevirtual 105, 3) := by decide +kernel
theorem dX6_packet_54 : decode cX6_packet 54 = .ok (.ifCond .eq 7, 3) := by decide +kernel
theorem dX6_packet_57 : decode cX6_packet 57 = .ok (.iconst 1, 1) := by decide +kernel
theorem dX6_packet_58 : decode cX6_packet 58 = .ok (.goto 4, 3) := by decide +kernel
theorem dX6_packet_61 : decode cX6_packet 61 = .ok (.iconst 0, 1) := by decide +kernel
theorem dX6_packet_62 : decode cX6_packet 62 = .ok (.ireturn, 1) := by decide +kernel
theorem dX6_start_0 : decode cX6_start 0 = .ok (.aload_n 0, 1) := by decide +kernel
theorem dX6_start_1 : decode cX6_start 1 = .ok (.iload_n 1, 1) := by decide +kernel
theorem dX6_start_2 : decode cX6_start 2 = .ok (.invokevirtual 94, 3) := by decide +kernel
theorem dX6_start_5 : decode cX6_start 5 = .ok (.ifCond .eq 13, 3) := by decide +kernel
theorem dX6_start_8 : decode cX6_start 8 = .ok (.aload_n 0, 1) := by decide +kernel
theorem dX6_start_9 : decode cX6_start 9 = .ok (.iload_n 1, 1) := by decide +kernel
theorem dX6_start_10 : decode cX6_start 10 = .ok (.bipush 9, 2) := by decide +kernel
theorem dX6_start_12 : decode cX6_start 12 = .ok (.invokevirtual 49, 3) := by decide +kernel
theorem dX6_start_15 : decode cX6_start 15 = .ok (.goto 6, 3) := by decide +kernel
theorem dX6_start_18 : decode cX6_start 18 = .ok (.ldc2_w 108, 3) := by decide +kernel
theorem dX6_start_21 : decode cX6_start 21 = .ok (.lreturn, 1) := by decide +kernel
theorem dX6_put_0 : decode cX6_put 0 = .ok (.iconst 0, 1) := by decide +kernel
theorem dX6_put_1 : decode cX6_put 1 = .ok (.istore_n 3, 1) := by decide +kernel
theorem dX6_put_2 : decode cX6_put 2 = .ok (.lload_n 1, 1) := by decide +kernel
theorem dX6_put_3 : decode cX6_put 3 = .ok (.lstore 4, 2) := by decide +kernel
theorem dX6_put_5 : decode cX6_put 5 = .ok (.iload_n 3, 1) := by decide +kernel
theorem dX6_put_6 : decode cX6_put 6 = .ok (.bipush 8, 2) := by decide +kernel
theorem dX6_put_8 : decode cX6_put 8 = .ok (.if_icmp .ge 48, 3) := by decide +kernel
theorem dX6_put_11 : decode cX6_put 11 = .ok (.lload 4, 2) := by decide +kernel
theorem dX6_put_13 : decode cX6_put 13 = .ok (.ldc2_w 110, 3) := by decide +kernel
theorem dX6_put_16 : decode cX6_put 16 = .ok (.land, 1) := by decide +kernel
theorem dX6_put_17 : decode cX6_put 17 = .ok (.lconst 0, 1) := by decide +kernel
theorem dX6_put_18 : decode cX6_put 18 = .ok (.lcmp, 1) := by decide +kernel
theorem dX6_put_19 : decode cX6_put 19 = .ok (.ifCond .eq 37, 3) := by decide +kernel
theorem dX6_put_22 : decode cX6_put 22 = .ok (.lload 4, 2) := by decide +kernel
theorem dX6_put_24 : decode cX6_put 24 = .ok (.ldc2_w 110, 3) := by decide +kernel
theorem dX6_put_27 : decode cX6_put 27 = .ok (.land, 1) := by decide +kernel
theorem dX6_put_28 : decode cX6_put 28 = .ok (.ldc2_w 112, 3) := by decide +kernel
theorem dX6_put_31 : decode cX6_put 31 = .ok (.ldc2_w 114, 3) := by decide +kernel
theorem dX6_put_34 : decode cX6_put 34 = .ok (.invokestatic 36, 3) := by decide +kernel
theorem dX6_put_37 : decode cX6_put 37 = .ok (.ifCond .ne 6, 3) := by decide +kernel
theorem dX6_put_40 : decode cX6_put 40 = .ok (.bipush (-2), 2) := by decide +kernel
theorem dX6_put_42 : decode cX6_put 42 = .ok (.ireturn, 1) := by decide +kernel
theorem dX6_put_43 : decode cX6_put 43 = .ok (.iinc 3 1, 3) := by decide +kernel
theorem dX6_put_46 : decode cX6_put 46 = .ok (.lload 4, 2) := by decide +kernel
theorem dX6_put_48 : decode cX6_put 48 = .ok (.bipush 8, 2) := by decide +kernel
theorem dX6_put_50 : decode cX6_put 50 = .ok (.lushr, 1) := by decide +kernel
theorem dX6_put_51 : decode cX6_put 51 = .ok (.lstore 4, 2) := by decide +kernel
theorem dX6_put_53 : decode cX6_put 53 = .ok (.goto (-48), 3) := by decide +kernel
theorem dX6_put_56 : decode cX6_put 56 = .ok (.iload_n 3, 1) := by decide +kernel
theorem dX6_put_57 : decode cX6_put 57 = .ok (.ifCond .eq 10, 3) := by decide +kernel
theorem dX6_put_60 : decode cX6_put 60 = .ok (.lload 4, 2) := by decide +kernel
theorem dX6_put_62 : decode cX6_put 62 = .ok (.lconst 0, 1) := by decide +kernel
theorem dX6_put_63 : decode cX6_put 63 = .ok (.lcmp, 1) := by decide +kernel
theorem dX6_put_64 : decode cX6_put 64 = .ok (.ifCond .eq 6, 3) := by decide +kernel
theorem dX6_put_67 : decode cX6_put 67 = .ok (.bipush (-2), 2) := by decide +kernel
theorem dX6_put_69 : decode cX6_put 69 = .ok (.ireturn, 1) := by decide +kernel
theorem dX6_put_70 : decode cX6_put 70 = .ok (.aload_n 0, 1) := by decide +kernel
theorem dX6_put_71 : decode cX6_put 71 = .ok (.getfield 7, 3) := by decide +kernel
theorem dX6_put_74 : decode cX6_put 74 = .ok (.sipush 1825, 3) := by decide +kernel
theorem dX6_put_77 : decode cX6_put 77 = .ok (.laload, 1) := by decide +kernel
theorem dX6_put_78 : decode cX6_put 78 = .ok (.iload_n 3, 1) := by decide +kernel
theorem dX6_put_79 : decode cX6_put 79 = .ok (.i2l, 1) := by decide +kernel
theorem dX6_put_80 : decode cX6_put 80 = .ok (.ladd, 1) := by decide +kernel
theorem dX6_put_81 : decode cX6_put 81 = .ok (.ldc2_w 116, 3) := by decide +kernel
theorem dX6_put_84 : decode cX6_put 84 = .ok (.lcmp, 1) := by decide +kernel
theorem dX6_put_85 : decode cX6_put 85 = .ok (.ifCond .le 6, 3) := by decide +kernel
theorem dX6_put_88 : decode cX6_put 88 = .ok (.bipush (-4), 2) := by decide +kernel
theorem dX6_put_90 : decode cX6_put 90 = .ok (.ireturn, 1) := by decide +kernel
theorem dX6_put_91 : decode cX6_put 91 = .ok (.iconst 0, 1) := by decide +kernel
theorem dX6_put_92 : decode cX6_put 92 = .ok (.istore 6, 2) := by decide +kernel
theorem dX6_put_94 : decode cX6_put 94 = .ok (.iload 6, 2) := by decide +kernel
theorem dX6_put_96 : decode cX6_put 96 = .ok (.iload_n 3, 1) := by decide +kernel
theorem dX6_put_97 : decode cX6_put 97 = .ok (.if_icmp .ge 45, 3) := by decide +kernel
theorem dX6_put_100 : decode cX6_put 100 = .ok (.aload_n 0, 1) := by decide +kernel
theorem dX6_put_101 : decode cX6_put 101 = .ok (.getfield 7, 3) := by decide +kernel
theorem dX6_put_104 : decode cX6_put 104 = .ok (.sipush 1745, 3) := by decide +kernel
theorem dX6_put_107 : decode cX6_put 107 = .ok (.aload_n 0, 1) := by decide +kernel
theorem dX6_put_108 : decode cX6_put 108 = .ok (.getfield 7, 3) := by decide +kernel
theorem dX6_put_111 : decode cX6_put 111 = .ok (.sipush 1825, 3) := by decide +kernel
theorem dX6_put_114 : decode cX6_put 114 = .ok (.laload, 1) := by decide +kernel
theorem dX6_put_115 : decode cX6_put 115 = .ok (.l2i, 1) := by decide +kernel
theorem dX6_put_116 : decode cX6_put 116 = .ok (.iadd, 1) := by decide +kernel
theorem dX6_put_117 : decode cX6_put 117 = .ok (.iload 6, 2) := by decide +kernel
theorem dX6_put_119 : decode cX6_put 119 = .ok (.iadd, 1) := by decide +kernel
theorem dX6_put_120 : decode cX6_put 120 = .ok (.lload_n 1, 1) := by decide +kernel
theorem dX6_put_121 : decode cX6_put 121 = .ok (.bipush 8, 2) := by decide +kernel
theorem dX6_put_123 : decode cX6_put 123 = .ok (.iload_n 3, 1) := by decide +kernel
theorem dX6_put_124 : decode cX6_put 124 = .ok (.iconst 1, 1) := by decide +kernel
theorem dX6_put_125 : decode cX6_put 125 = .ok (.isub, 1) := by decide +kernel
theorem dX6_put_126 : decode cX6_put 126 = .ok (.iload 6, 2) := by decide +kernel
theorem dX6_put_128 : decode cX6_put 128 = .ok (.isub, 1) := by decide +kernel
theorem dX6_put_129 : decode cX6_put 129 = .ok (.imul, 1) := by decide +kernel
theorem dX6_put_130 : decode cX6_put 130 = .ok (.lshr, 1) := by decide +kernel
theorem dX6_put_131 : decode cX6_put 131 = .ok (.ldc2_w 110, 3) := by decide +kernel
theorem dX6_put_134 : decode cX6_put 134 = .ok (.land, 1) := by decide +kernel
theorem dX6_put_135 : decode cX6_put 135 = .ok (.lastore, 1) := by decide +kernel
theorem dX6_put_136 : decode cX6_put 136 = .ok (.iinc 6 1, 3) := by decide +kernel
theorem dX6_put_139 : decode cX6_put 139 = .ok (.goto (-45), 3) := by decide +kernel
theorem dX6_put_142 : decode cX6_put 142 = .ok (.aload_n 0, 1) := by decide +kernel
theorem dX6_put_143 : decode cX6_put 143 = .ok (.getfield 7, 3) := by decide +kernel
theorem dX6_put_146 : decode cX6_put 146 = .ok (.sipush 1825, 3) := by decide +kernel
theorem dX6_put_149 : decode cX6_put 149 = .ok (.dup2, 1) := by decide +kernel
theorem dX6_put_150 : decode cX6_put 150 = .ok (.laload, 1) := by decide +kernel
theorem dX6_put_151 : decode cX6_put 151 = .ok (.iload_n 3, 1) := by decide +kernel
theorem dX6_put_152 : decode cX6_put 152 = .ok (.i2l, 1) := by decide +kernel
theorem dX6_put_153 : decode cX6_put 153 = .ok (.ladd, 1) := by decide +kernel
theorem dX6_put_154 : decode cX6_put 154 = .ok (.lastore, 1) := by decide +kernel
theorem dX6_put_155 : decode cX6_put 155 = .ok (.aload_n 0, 1) := by decide +kernel
theorem dX6_put_156 : decode cX6_put 156 = .ok (.getfield 7, 3) := by decide +kernel
theorem dX6_put_159 : decode cX6_put 159 = .ok (.sipush 1825, 3) := by decide +kernel
theorem dX6_put_162 : decode cX6_put 162 = .ok (.laload, 1) := by decide +kernel
theorem dX6_put_163 : decode cX6_put 163 = .ok (.l2i, 1) := by decide +kernel
theorem dX6_put_164 : decode cX6_put 164 = .ok (.ireturn, 1) := by decide +kernel
theorem dX6_wipe_0 : decode cX6_wipe 0 = .ok (.aload_n 0, 1) := by decide +kernel
theorem dX6_wipe_1 : decode cX6_wipe 1 = .ok (.getfield 7, 3) := by decide +kernel
theorem dX6_wipe_4 : decode cX6_wipe 4 = .ok (.sipush 1825, 3) := by decide +kernel
theorem dX6_wipe_7 : decode cX6_wipe 7 = .ok (.laload, 1) := by decide +kernel
theorem dX6_wipe_8 : decode cX6_wipe 8 = .ok (.l2i, 1) := by decide +kernel
theorem dX6_wipe_9 : decode cX6_wipe 9 = .ok (.istore_n 1, 1) := by decide +kernel
theorem dX6_wipe_10 : decode cX6_wipe 10 = .ok (.aload_n 0, 1) := by decide +kernel
theorem dX6_wipe_11 : decode cX6_wipe 11 = .ok (.getfield 7, 3) := by decide +kernel
theorem dX6_wipe_14 : decode cX6_wipe 14 = .ok (.sipush 1825, 3) := by decide +kernel
theorem dX6_wipe_17 : decode cX6_wipe 17 = .ok (.lconst 0, 1) := by decide +kernel
theorem dX6_wipe_18 : decode cX6_wipe 18 = .ok (.lastore, 1) := by decide +kernel
theorem dX6_wipe_19 : decode cX6_wipe 19 = .ok (.iload_n 1, 1) := by decide +kernel
theorem dX6_wipe_20 : decode cX6_wipe 20 = .ok (.ireturn, 1) := by decide +kernel
theorem dX6_next_0 : decode cX6_next 0 = .ok (.aload_n 0, 1) := by decide +kernel
theorem dX6_next_1 : decode cX6_next 1 = .ok (.getfield 118, 3) := by decide +kernel
theorem dX6_next_4 : decode cX6_next 4 = .ok (.i2l, 1) := by decide +kernel
theorem dX6_next_5 : decode cX6_next 5 = .ok (.aload_n 0, 1) := by decide +kernel
theorem dX6_next_6 : decode cX6_next 6 = .ok (.getfield 7, 3) := by decide +kernel
theorem dX6_next_9 : decode cX6_next 9 = .ok (.sipush 1825, 3) := by decide +kernel
theorem dX6_next_12 : decode cX6_next 12 = .ok (.laload, 1) := by decide +kernel
theorem dX6_next_13 : decode cX6_next 13 = .ok (.lcmp, 1) := by decide +kernel
theorem dX6_next_14 : decode cX6_next 14 = .ok (.ifCond .ge 20, 3) := by decide +kernel
theorem dX6_next_17 : decode cX6_next 17 = .ok (.aload_n 0, 1) := by decide +kernel
theorem dX6_next_18 : decode cX6_next 18 = .ok (.getfield 7, 3) := by decide +kernel
theorem dX6_next_21 : decode cX6_next 21 = .ok (.sipush 1745, 3) := by decide +kernel
theorem dX6_next_24 : decode cX6_next 24 = .ok (.aload_n 0, 1) := by decide +kernel
theorem dX6_next_25 : decode cX6_next 25 = .ok (.getfield 118, 3) := by decide +kernel
theorem dX6_next_28 : decode cX6_next 28 = .ok (.iadd, 1) := by decide +kernel
theorem dX6_next_29 : decode cX6_next 29 = .ok (.laload, 1) := by decide +kernel
theorem dX6_next_30 : decode cX6_next 30 = .ok (.l2i, 1) := by decide +kernel
theorem dX6_next_31 : decode cX6_next 31 = .ok (.goto 4, 3) := by decide +kernel
theorem dX6_next_34 : decode cX6_next 34 = .ok (.iconst 0, 1) := by decide +kernel
theorem dX6_next_35 : decode cX6_next 35 = .ok (.ireturn, 1) := by decide +kernel
theorem dX6_readNumber_0 : decode cX6_readNumber 0 = .ok (.aload_n 0, 1) := by decide +kernel
theorem dX6_readNumber_1 : decode cX6_readNumber 1 = .ok (.invokevirtual 122, 3) := by decide +kernel
theorem dX6_readNumber_4 : decode cX6_readNumber 4 = .ok (.i2l, 1) := by decide +kernel
theorem dX6_readNumber_5 : decode cX6_readNumber 5 = .ok (.ldc2_w 125, 3) := by decide +kernel
theorem dX6_readNumber_8 : decode cX6_readNumber 8 = .ok (.ldc2_w 127, 3) := by decide +kernel
theorem dX6_readNumber_11 : decode cX6_readNumber 11 = .ok (.invokestatic 36, 3) := by decide +kernel
theorem dX6_readNumber_14 : decode cX6_readNumber 14 = .ok (.ifCond .ne 10, 3) := by decide +kernel
theorem dX6_readNumber_17 : decode cX6_readNumber 17 = .ok (.aload_n 0, 1) := by decide +kernel
theorem dX6_readNumber_18 : decode cX6_readNumber 18 = .ok (.iconst 1, 1) := by decide +kernel
theorem dX6_readNumber_19 : decode cX6_readNumber 19 = .ok (.putfield 129, 3) := by decide +kernel
theorem dX6_readNumber_22 : decode cX6_readNumber 22 = .ok (.iconst 0, 1) := by decide +kernel
theorem dX6_readNumber_23 : decode cX6_readNumber 23 = .ok (.ireturn, 1) := by decide +kernel
theorem dX6_readNumber_24 : decode cX6_readNumber 24 = .ok (.iconst 0, 1) := by decide +kernel
theorem dX6_readNumber_25 : decode cX6_readNumber 25 = .ok (.istore_n 2, 1) := by decide +kernel
theorem dX6_readNumber_26 : decode cX6_readNumber 26 = .ok (.aload_n 0, 1) := by decide +kernel
theorem dX6_readNumber_27 : decode cX6_readNumber 27 = .ok (.invokevirtual 122, 3) := by decide +kernel
theorem dX6_readNumber_30 : decode cX6_readNumber 30 = .ok (.i2l, 1) := by decide +kernel
theorem dX6_readNumber_31 : decode cX6_readNumber 31 = .ok (.ldc2_w 133, 3) := by decide +kernel
theorem dX6_readNumber_34 : decode cX6_readNumber 34 = .ok (.ldc2_w 127, 3) := by decide +kernel
theorem dX6_readNumber_37 : decode cX6_readNumber 37 = .ok (.invokestatic 36, 3) := by decide +kernel
theorem dX6_readNumber_40 : decode cX6_readNumber 40 = .ok (.ifCond .eq 83, 3) := by decide +kernel
theorem dX6_readNumber_43 : decode cX6_readNumber 43 = .ok (.aload_n 0, 1) := by decide +kernel
theorem dX6_readNumber_44 : decode cX6_readNumber 44 = .ok (.getfield 129, 3) := by decide +kernel
theorem dX6_readNumber_47 : decode cX6_readNumber 47 = .ok (.ifCond .ne 76, 3) := by decide +kernel
theorem dX6_readNumber_50 : decode cX6_readNumber 50 = .ok (.aload_n 0, 1) := by decide +kernel
theorem dX6_readNumber_51 : decode cX6_readNumber 51 = .ok (.bipush 10, 2) := by decide +kernel
theorem dX6_readNumber_53 : decode cX6_readNumber 53 = .ok (.iload_n 2, 1) := by decide +kernel
theorem dX6_readNumber_54 : decode cX6_readNumber 54 = .ok (.imul, 1) := by decide +kernel
theorem dX6_readNumber_55 : decode cX6_readNumber 55 = .ok (.aload_n 0, 1) := by decide +kernel
theorem dX6_readNumber_56 : decode cX6_readNumber 56 = .ok (.invokevirtual 122, 3) := by decide +kernel
theorem dX6_readNumber_59 : decode cX6_readNumber 59 = .ok (.iadd, 1) := by decide +kernel
theorem dX6_readNumber_60 : decode cX6_readNumber 60 = .ok (.bipush 48, 2) := by decide +kernel
theorem dX6_readNumber_62 : decode cX6_readNumber 62 = .ok (.isub, 1) := by decide +kernel
theorem dX6_readNumber_63 : decode cX6_readNumber 63 = .ok (.iload_n 1, 1) := by decide +kernel
theorem dX6_readNumber_64 : decode cX6_readNumber 64 = .ok (.if_icmp .le 7, 3) := by decide +kernel
theorem dX6_readNumber_67 : decode cX6_readNumber 67 = .ok (.iconst 1, 1) := by decide +kernel
theorem dX6_readNumber_68 : decode cX6_readNumber 68 = .ok (.goto 4, 3) := by decide +kernel
theorem dX6_readNumber_71 : decode cX6_readNumber 71 = .ok (.iconst 0, 1) := by decide +kernel
theorem dX6_readNumber_72 : decode cX6_readNumber 72 = .ok (.putfield 129, 3) := by decide +kernel
theorem dX6_readNumber_75 : decode cX6_readNumber 75 = .ok (.aload_n 0, 1) := by decide +kernel
theorem dX6_readNumber_76 : decode cX6_readNumber 76 = .ok (.getfield 129, 3) := by decide +kernel
theorem dX6_readNumber_79 : decode cX6_readNumber 79 = .ok (.ifCond .eq 7, 3) := by decide +kernel
theorem dX6_readNumber_82 : decode cX6_readNumber 82 = .ok (.iload_n 2, 1) := by decide +kernel
theorem dX6_readNumber_83 : decode cX6_readNumber 83 = .ok (.goto 15, 3) := by decide +kernel
theorem dX6_readNumber_86 : decode cX6_readNumber 86 = .ok (.bipush 10, 2) := by decide +kernel
theorem dX6_readNumber_88 : decode cX6_readNumber 88 = .ok (.iload_n 2, 1) := by decide +kernel
theorem dX6_readNumber_89 : decode cX6_readNumber 89 = .ok (.imul, 1) := by decide +kernel
theorem dX6_readNumber_90 : decode cX6_readNumber 90 = .ok (.aload_n 0, 1) := by decide +kernel
theorem dX6_readNumber_91 : decode cX6_readNumber 91 = .ok (.invokevirtual 122, 3) := by decide +kernel
theorem dX6_readNumber_94 : decode cX6_readNumber 94 = .ok (.iadd, 1) := by decide +kernel
theorem dX6_readNumber_95 : decode cX6_readNumber 95 = .ok (.bipush 48, 2) := by decide +kernel
theorem dX6_readNumber_97 : decode cX6_readNumber 97 = .ok (.isub, 1) := by decide +kernel
theorem dX6_readNumber_98 : decode cX6_readNumber 98 = .ok (.istore_n 2, 1) := by decide +kernel
theorem dX6_readNumber_99 : decode cX6_readNumber 99 = .ok (.aload_n 0, 1) := by decide +kernel
theorem dX6_readNumber_100 : decode cX6_readNumber 100 = .ok (.dup, 1) := by decide +kernel
theorem dX6_readNumber_101 : decode cX6_readNumber 101 = .ok (.getfield 118, 3) := by decide +kernel
theorem dX6_readNumber_104 : decode cX6_readNumber 104 = .ok (.aload_n 0, 1) := by decide +kernel
theorem dX6_readNumber_105 : decode cX6_readNumber 105 = .ok (.getfield 129, 3) := by decide +kernel
theorem dX6_readNumber_108 : decode cX6_readNumber 108 = .ok (.ifCond .eq 7, 3) := by decide +kernel
theorem dX6_readNumber_111 : decode cX6_readNumber 111 = .ok (.iconst 0, 1) := by decide +kernel
theorem dX6_readNumber_112 : decode cX6_readNumber 112 = .ok (.goto 4, 3) := by decide +kernel
theorem dX6_readNumber_115 : decode cX6_readNumber 115 = .ok (.iconst 1, 1) := by decide +kernel
theorem dX6_readNumber_116 : decode cX6_readNumber 116 = .ok (.iadd, 1) := by decide +kernel
theorem dX6_readNumber_117 : decode cX6_readNumber 117 = .ok (.putfield 118, 3) := by decide +kernel
theorem dX6_readNumber_120 : decode cX6_readNumber 120 = .ok (.goto (-94), 3) := by decide +kernel
theorem dX6_readNumber_123 : decode cX6_readNumber 123 = .ok (.iload_n 2, 1) := by decide +kernel
theorem dX6_readNumber_124 : decode cX6_readNumber 124 = .ok (.ireturn, 1) := by decide +kernel
theorem dX6_readArrival_0 : decode cX6_readArrival 0 = .ok (.iconst 4, 1) := by decide +kernel
theorem dX6_readArrival_1 : decode cX6_readArrival 1 = .ok (.aload_n 0, 1) := by decide +kernel
theorem dX6_readArrival_2 : decode cX6_readArrival 2 = .ok (.getfield 135, 3) := by decide +kernel
theorem dX6_readArrival_5 : decode cX6_readArrival 5 = .ok (.imul, 1) := by decide +kernel
theorem dX6_readArrival_6 : decode cX6_readArrival 6 = .ok (.istore_n 1, 1) := by decide +kernel
theorem dX6_readArrival_7 : decode cX6_readArrival 7 = .ok (.aload_n 0, 1) := by decide +kernel
theorem dX6_readArrival_8 : decode cX6_readArrival 8 = .ok (.getfield 23, 3) := by decide +kernel
theorem dX6_readArrival_11 : decode cX6_readArrival 11 = .ok (.iload_n 1, 1) := by decide +kernel
theorem dX6_readArrival_12 : decode cX6_readArrival 12 = .ok (.aload_n 0, 1) := by decide +kernel
theorem dX6_readArrival_13 : decode cX6_readArrival 13 = .ok (.invokevirtual 122, 3) := by decide +kernel
theorem dX6_readArrival_16 : decode cX6_readArrival 16 = .ok (.bipush 97, 2) := by decide +kernel
theorem dX6_readArrival_18 : decode cX6_readArrival 18 = .ok (.isub, 1) := by decide +kernel
theorem dX6_readArrival_19 : decode cX6_readArrival 19 = .ok (.iastore, 1) := by decide +kernel
theorem dX6_readArrival_20 : decode cX6_readArrival 20 = .ok (.aload_n 0, 1) := by decide +kernel
theorem dX6_readArrival_21 : decode cX6_readArrival 21 = .ok (.getfield 23, 3) := by decide +kernel
theorem dX6_readArrival_24 : decode cX6_readArrival 24 = .ok (.iload_n 1, 1) := by decide +kernel
theorem dX6_readArrival_25 : decode cX6_readArrival 25 = .ok (.iconst 2, 1) := by decide +kernel
theorem dX6_readArrival_26 : decode cX6_readArrival 26 = .ok (.iadd, 1) := by decide +kernel
theorem dX6_readArrival_27 : decode cX6_readArrival 27 = .ok (.iconst 0, 1) := by decide +kernel
theorem dX6_readArrival_28 : decode cX6_readArrival 28 = .ok (.iastore, 1) := by decide +kernel
theorem dX6_readArrival_29 : decode cX6_readArrival 29 = .ok (.aload_n 0, 1) := by decide +kernel
theorem dX6_readArrival_30 : decode cX6_readArrival 30 = .ok (.getfield 23, 3) := by decide +kernel
theorem dX6_readArrival_33 : decode cX6_readArrival 33 = .ok (.iload_n 1, 1) := by decide +kernel
theorem dX6_readArrival_34 : decode cX6_readArrival 34 = .ok (.iconst 3, 1) := by decide +kernel
theorem dX6_readArrival_35 : decode cX6_readArrival 35 = .ok (.iadd, 1) := by decide +kernel
theorem dX6_readArrival_36 : decode cX6_readArrival 36 = .ok (.iconst 1, 1) := by decide +kernel
theorem dX6_readArrival_37 : decode cX6_readArrival 37 = .ok (.iastore, 1) := by decide +kernel
theorem dX6_readArrival_38 : decode cX6_readArrival 38 = .ok (.aload_n 0, 1) := by decide +kernel
theorem dX6_readArrival_39 : decode cX6_readArrival 39 = .ok (.aload_n 0, 1) := by decide +kernel
theorem dX6_readArrival_40 : decode cX6_readArrival 40 = .ok (.invokevirtual 122, 3) := by decide +kernel
theorem dX6_readArrival_43 : decode cX6_readArrival 43 = .ok (.i2l, 1) := by decide +kernel
theorem dX6_readArrival_44 : decode cX6_readArrival 44 = .ok (.ldc2_w 138, 3) := by decide +kernel
theorem dX6_readArrival_47 : decode cX6_readArrival 47 = .ok (.ldc2_w 140, 3) := by decide +kernel
theorem dX6_readArrival_50 : decode cX6_readArrival 50 = .ok (.invokestatic 36, 3) := by decide +kernel
theorem dX6_readArrival_53 : decode cX6_readArrival 53 = .ok (.ifCond .ne 7, 3) := by decide +kernel
theorem dX6_readArrival_56 : decode cX6_readArrival 56 = .ok (.iconst 1, 1) := by decide +kernel
theorem dX6_readArrival_57 : decode cX6_readArrival 57 = .ok (.goto 4, 3) := by decide +kernel
theorem dX6_readArrival_60 : decode cX6_readArrival 60 = .ok (.iconst 0, 1) := by decide +kernel
theorem dX6_readArrival_61 : decode cX6_readArrival 61 = .ok (.putfield 129, 3) := by decide +kernel
theorem dX6_readArrival_64 : decode cX6_readArrival 64 = .ok (.aload_n 0, 1) := by decide +kernel
theorem dX6_readArrival_65 : decode cX6_readArrival 65 = .ok (.getfield 129, 3) := by decide +kernel
theorem dX6_readArrival_68 : decode cX6_readArrival 68 = .ok (.ifCond .eq 4, 3) := by decide +kernel
theorem dX6_readArrival_71 : decode cX6_readArrival 71 = .ok (.return_, 1) := by decide +kernel
theorem dX6_readArrival_72 : decode cX6_readArrival 72 = .ok (.aload_n 0, 1) := by decide +kernel
theorem dX6_readArrival_73 : decode cX6_readArrival 73 = .ok (.dup, 1) := by decide +kernel
theorem dX6_readArrival_74 : decode cX6_readArrival 74 = .ok (.getfield 118, 3) := by decide +kernel
theorem dX6_readArrival_77 : decode cX6_readArrival 77 = .ok (.iconst 1, 1) := by decide +kernel
theorem dX6_readArrival_78 : decode cX6_readArrival 78 = .ok (.iadd, 1) := by decide +kernel
theorem dX6_readArrival_79 : decode cX6_readArrival 79 = .ok (.putfield 118, 3) := by decide +kernel
theorem dX6_readArrival_82 : decode cX6_readArrival 82 = .ok (.aload_n 0, 1) := by decide +kernel
theorem dX6_readArrival_83 : decode cX6_readArrival 83 = .ok (.getfield 23, 3) := by decide +kernel
theorem dX6_readArrival_86 : decode cX6_readArrival 86 = .ok (.iload_n 1, 1) := by decide +kernel
theorem dX6_readArrival_87 : decode cX6_readArrival 87 = .ok (.iconst 1, 1) := by decide +kernel
theorem dX6_readArrival_88 : decode cX6_readArrival 88 = .ok (.iadd, 1) := by decide +kernel
theorem dX6_readArrival_89 : decode cX6_readArrival 89 = .ok (.aload_n 0, 1) := by decide +kernel
theorem dX6_readArrival_90 : decode cX6_readArrival 90 = .ok (.sipush 2000, 3) := by decide +kernel
theorem dX6_readArrival_93 : decode cX6_readArrival 93 = .ok (.invokevirtual 142, 3) := by decide +kernel
theorem dX6_readArrival_96 : decode cX6_readArrival 96 = .ok (.iastore, 1) := by decide +kernel
theorem dX6_readArrival_97 : decode cX6_readArrival 97 = .ok (.aload_n 0, 1) := by decide +kernel
theorem dX6_readArrival_98 : decode cX6_readArrival 98 = .ok (.getfield 129, 3) := by decide +kernel
theorem dX6_readArrival_101 : decode cX6_readArrival 101 = .ok (.ifCond .ne 37, 3) := by decide +kernel
theorem dX6_readArrival_104 : decode cX6_readArrival 104 = .ok (.aload_n 0, 1) := by decide +kernel
theorem dX6_readArrival_105 : decode cX6_readArrival 105 = .ok (.invokevirtual 122, 3) := by decide +kernel
theorem dX6_readArrival_108 : decode cX6_readArrival 108 = .ok (.bipush 64, 2) := by decide +kernel
theorem dX6_readArrival_110 : decode cX6_readArrival 110 = .ok (.if_icmp .ne 28, 3) := by decide +kernel
theorem dX6_readArrival_113 : decode cX6_readArrival 113 = .ok (.aload_n 0, 1) := by decide +kernel
theorem dX6_readArrival_114 : decode cX6_readArrival 114 = .ok (.dup, 1) := by decide +kernel
theorem dX6_readArrival_115 : decode cX6_readArrival 115 = .ok (.getfield 118, 3) := by decide +kernel
theorem dX6_readArrival_118 : decode cX6_readArrival 118 = .ok (.iconst 1, 1) := by decide +kernel
theorem dX6_readArrival_119 : decode cX6_readArrival 119 = .ok (.iadd, 1) := by decide +kernel
theorem dX6_readArrival_120 : decode cX6_readArrival 120 = .ok (.putfield 118, 3) := by decide +kernel
theorem dX6_readArrival_123 : decode cX6_readArrival 123 = .ok (.aload_n 0, 1) := by decide +kernel
theorem dX6_readArrival_124 : decode cX6_readArrival 124 = .ok (.getfield 23, 3) := by decide +kernel
theorem dX6_readArrival_127 : decode cX6_readArrival 127 = .ok (.iload_n 1, 1) := by decide +kernel
theorem dX6_readArrival_128 : decode cX6_readArrival 128 = .ok (.iconst 2, 1) := by decide +kernel
theorem dX6_readArrival_129 : decode cX6_readArrival 129 = .ok (.iadd, 1) := by decide +kernel
theorem dX6_readArrival_130 : decode cX6_readArrival 130 = .ok (.aload_n 0, 1) := by decide +kernel
theorem dX6_readArrival_131 : decode cX6_readArrival 131 = .ok (.sipush 9999, 3) := by decide +kernel
theorem dX6_readArrival_134 : decode cX6_readArrival 134 = .ok (.invokevirtual 142, 3) := by decide +kernel
theorem dX6_readArrival_137 : decode cX6_readArrival 137 = .ok (.iastore, 1) := by decide +kernel
theorem dX6_readArrival_138 : decode cX6_readArrival 138 = .ok (.aload_n 0, 1) := by decide +kernel
theorem dX6_readArrival_139 : decode cX6_readArrival 139 = .ok (.getfield 129, 3) := by decide +kernel
theorem dX6_readArrival_142 : decode cX6_readArrival 142 = .ok (.ifCond .ne 36, 3) := by decide +kernel
theorem dX6_readArrival_145 : decode cX6_readArrival 145 = .ok (.aload_n 0, 1) := by decide +kernel
theorem dX6_readArrival_146 : decode cX6_readArrival 146 = .ok (.invokevirtual 122, 3) := by decide +kernel
theorem dX6_readArrival_149 : decode cX6_readArrival 149 = .ok (.bipush 42, 2) := by decide +kernel
theorem dX6_readArrival_151 : decode cX6_readArrival 151 = .ok (.if_icmp .ne 27, 3) := by decide +kernel
theorem dX6_readArrival_154 : decode cX6_readArrival 154 = .ok (.aload_n 0, 1) := by decide +kernel
theorem dX6_readArrival_155 : decode cX6_readArrival 155 = .ok (.dup, 1) := by decide +kernel
theorem dX6_readArrival_156 : decode cX6_readArrival 156 = .ok (.getfield 118, 3) := by decide +kernel
theorem dX6_readArrival_159 : decode cX6_readArrival 159 = .ok (.iconst 1, 1) := by decide +kernel
theorem dX6_readArrival_160 : decode cX6_readArrival 160 = .ok (.iadd, 1) := by decide +kernel
theorem dX6_readArrival_161 : decode cX6_readArrival 161 = .ok (.putfield 118, 3) := by decide +kernel
theorem dX6_readArrival_164 : decode cX6_readArrival 164 = .ok (.aload_n 0, 1) := by decide +kernel
theorem dX6_readArrival_165 : decode cX6_readArrival 165 = .ok (.getfield 23, 3) := by decide +kernel
theorem dX6_readArrival_168 : decode cX6_readArrival 168 = .ok (.iload_n 1, 1) := by decide +kernel
theorem dX6_readArrival_169 : decode cX6_readArrival 169 = .ok (.iconst 3, 1) := by decide +kernel
theorem dX6_readArrival_170 : decode cX6_readArrival 170 = .ok (.iadd, 1) := by decide +kernel
theorem dX6_readArrival_171 : decode cX6_readArrival 171 = .ok (.aload_n 0, 1) := by decide +kernel
theorem dX6_readArrival_172 : decode cX6_readArrival 172 = .ok (.bipush 9, 2) := by decide +kernel
theorem dX6_readArrival_174 : decode cX6_readArrival 174 = .ok (.invokevirtual 142, 3) := by decide +kernel
theorem dX6_readArrival_177 : decode cX6_readArrival 177 = .ok (.iastore, 1) := by decide +kernel
theorem dX6_readArrival_178 : decode cX6_readArrival 178 = .ok (.aload_n 0, 1) := by decide +kernel
theorem dX6_readArrival_179 : decode cX6_readArrival 179 = .ok (.dup, 1) := by decide +kernel
theorem dX6_readArrival_180 : decode cX6_readArrival 180 = .ok (.getfield 135, 3) := by decide +kernel
theorem dX6_readArrival_183 : decode cX6_readArrival 183 = .ok (.iconst 1, 1) := by decide +kernel
theorem dX6_readArrival_184 : decode cX6_readArrival 184 = .ok (.iadd, 1) := by decide +kernel
theorem dX6_readArrival_185 : decode cX6_readArrival 185 = .ok (.putfield 135, 3) := by decide +kernel
theorem dX6_readArrival_188 : decode cX6_readArrival 188 = .ok (.return_, 1) := by decide +kernel
theorem dX6_fault_0 : decode cX6_fault 0 = .ok (.aload_n 0, 1) := by decide +kernel
theorem dX6_fault_1 : decode cX6_fault 1 = .ok (.iconst 0, 1) := by decide +kernel
theorem dX6_fault_2 : decode cX6_fault 2 = .ok (.putfield 118, 3) := by decide +kernel
theorem dX6_fault_5 : decode cX6_fault 5 = .ok (.aload_n 0, 1) := by decide +kernel
theorem dX6_fault_6 : decode cX6_fault 6 = .ok (.iconst 0, 1) := by decide +kernel
theorem dX6_fault_7 : decode cX6_fault 7 = .ok (.putfield 135, 3) := by decide +kernel
theorem dX6_fault_10 : decode cX6_fault 10 = .ok (.aload_n 0, 1) := by decide +kernel
theorem dX6_fault_11 : decode cX6_fault 11 = .ok (.iconst 0, 1) := by decide +kernel
theorem dX6_fault_12 : decode cX6_fault 12 = .ok (.putfield 129, 3) := by decide +kernel
theorem dX6_fault_15 : decode cX6_fault 15 = .ok (.iconst 1, 1) := by decide +kernel
theorem dX6_fault_16 : decode cX6_fault 16 = .ok (.istore_n 1, 1) := by decide +kernel
theorem dX6_fault_17 : decode cX6_fault 17 = .ok (.iload_n 1, 1) := by decide +kernel
theorem dX6_fault_18 : decode cX6_fault 18 = .ok (.ifCond .eq 50, 3) := by decide +kernel
theorem dX6_fault_21 : decode cX6_fault 21 = .ok (.aload_n 0, 1) := by decide +kernel
theorem dX6_fault_22 : decode cX6_fault 22 = .ok (.invokevirtual 146, 3) := by decide +kernel
theorem dX6_fault_25 : decode cX6_fault 25 = .ok (.aload_n 0, 1) := by decide +kernel
theorem dX6_fault_26 : decode cX6_fault 26 = .ok (.getfield 129, 3) := by decide +kernel
theorem dX6_fault_29 : decode cX6_fault 29 = .ok (.ifCond .ne 16, 3) := by decide +kernel
theorem dX6_fault_32 : decode cX6_fault 32 = .ok (.aload_n 0, 1) := by decide +kernel
theorem dX6_fault_33 : decode cX6_fault 33 = .ok (.invokevirtual 122, 3) := by decide +kernel
theorem dX6_fault_36 : decode cX6_fault 36 = .ok (.bipush 44, 2) := by decide +kernel
theorem dX6_fault_38 : decode cX6_fault 38 = .ok (.if_icmp .ne 7, 3) := by decide +kernel
theorem dX6_fault_41 : decode cX6_fault 41 = .ok (.iconst 1, 1) := by decide +kernel
theorem dX6_fault_42 : decode cX6_fault 42 = .ok (.goto 4, 3) := by decide +kernel
theorem dX6_fault_45 : decode cX6_fault 45 = .ok (.iconst 0, 1) := by decide +kernel
theorem dX6_fault_46 : decode cX6_fault 46 = .ok (.istore_n 1, 1) := by decide +kernel
theorem dX6_fault_47 : decode cX6_fault 47 = .ok (.aload_n 0, 1) := by decide +kernel
theorem dX6_fault_48 : decode cX6_fault 48 = .ok (.dup, 1) := by decide +kernel
theorem dX6_fault_49 : decode cX6_fault 49 = .ok (.getfield 118, 3) := by decide +kernel
theorem dX6_fault_52 : decode cX6_fault 52 = .ok (.iload_n 1, 1) := by decide +kernel
theorem dX6_fault_53 : decode cX6_fault 53 = .ok (.ifCond .eq 7, 3) := by decide +kernel
theorem dX6_fault_56 : decode cX6_fault 56 = .ok (.iconst 1, 1) := by decide +kernel
theorem dX6_fault_57 : decode cX6_fault 57 = .ok (.goto 4, 3) := by decide +kernel
theorem dX6_fault_60 : decode cX6_fault 60 = .ok (.iconst 0, 1) := by decide +kernel
theorem dX6_fault_61 : decode cX6_fault 61 = .ok (.iadd, 1) := by decide +kernel
theorem dX6_fault_62 : decode cX6_fault 62 = .ok (.putfield 118, 3) := by decide +kernel
theorem dX6_fault_65 : decode cX6_fault 65 = .ok (.goto (-48), 3) := by decide +kernel
theorem dX6_fault_68 : decode cX6_fault 68 = .ok (.aload_n 0, 1) := by decide +kernel
theorem dX6_fault_69 : decode cX6_fault 69 = .ok (.getfield 129, 3) := by decide +kernel
theorem dX6_fault_72 : decode cX6_fault 72 = .ok (.ifCond .ne 20, 3) := by decide +kernel
theorem dX6_fault_75 : decode cX6_fault 75 = .ok (.aload_n 0, 1) := by decide +kernel
theorem dX6_fault_76 : decode cX6_fault 76 = .ok (.getfield 118, 3) := by decide +kernel
theorem dX6_fault_79 : decode cX6_fault 79 = .ok (.i2l, 1) := by decide +kernel
theorem dX6_fault_80 : decode cX6_fault 80 = .ok (.aload_n 0, 1) := by decide +kernel
theorem dX6_fault_81 : decode cX6_fault 81 = .ok (.getfield 7, 3) := by decide +kernel
theorem dX6_fault_84 : decode cX6_fault 84 = .ok (.sipush 1825, 3) := by decide +kernel
theorem dX6_fault_87 : decode cX6_fault 87 = .ok (.laload, 1) := by decide +kernel
theorem dX6_fault_88 : decode cX6_fault 88 = .ok (.lcmp, 1) := by decide +kernel
theorem dX6_fault_89 : decode cX6_fault 89 = .ok (.ifCond .ge 10, 3) := by decide +kernel
theorem dX6_fault_92 : decode cX6_fault 92 = .ok (.aload_n 0, 1) := by decide +kernel
theorem dX6_fault_93 : decode cX6_fault 93 = .ok (.getfield 118, 3) := by decide +kernel
theorem dX6_fault_96 : decode cX6_fault 96 = .ok (.goto 5, 3) := by decide +kernel
theorem dX6_fault_99 : decode cX6_fault 99 = .ok (.bipush (-6), 2) := by decide +kernel
theorem dX6_fault_101 : decode cX6_fault 101 = .ok (.ireturn, 1) := by decide +kernel
theorem dX6_load_0 : decode cX6_load 0 = .ok (.aload_n 0, 1) := by decide +kernel
theorem dX6_load_1 : decode cX6_load 1 = .ok (.invokevirtual 149, 3) := by decide +kernel
theorem dX6_load_4 : decode cX6_load 4 = .ok (.bipush (-6), 2) := by decide +kernel
theorem dX6_load_6 : decode cX6_load 6 = .ok (.if_icmp .eq 6, 3) := by decide +kernel
theorem dX6_load_9 : decode cX6_load 9 = .ok (.bipush (-3), 2) := by decide +kernel
theorem dX6_load_11 : decode cX6_load 11 = .ok (.ireturn, 1) := by decide +kernel
theorem dX6_load_12 : decode cX6_load 12 = .ok (.iconst 0, 1) := by decide +kernel
theorem dX6_load_13 : decode cX6_load 13 = .ok (.istore_n 1, 1) := by decide +kernel
theorem dX6_load_14 : decode cX6_load 14 = .ok (.iload_n 1, 1) := by decide +kernel
theorem dX6_load_15 : decode cX6_load 15 = .ok (.aload_n 0, 1) := by decide +kernel
theorem dX6_load_16 : decode cX6_load 16 = .ok (.getfield 135, 3) := by decide +kernel
theorem dX6_load_19 : decode cX6_load 19 = .ok (.if_icmp .ge 26, 3) := by decide +kernel
theorem dX6_load_22 : decode cX6_load 22 = .ok (.aload_n 0, 1) := by decide +kernel
theorem dX6_load_23 : decode cX6_load 23 = .ok (.aload_n 0, 1) := by decide +kernel
theorem dX6_load_24 : decode cX6_load 24 = .ok (.getfield 23, 3) := by decide +kernel
theorem dX6_load_27 : decode cX6_load 27 = .ok (.iconst 4, 1) := by decide +kernel
theorem dX6_load_28 : decode cX6_load 28 = .ok (.iload_n 1, 1) := by decide +kernel
theorem dX6_load_29 : decode cX6_load 29 = .ok (.imul, 1) := by decide +kernel
theorem dX6_load_30 : decode cX6_load 30 = .ok (.iaload, 1) := by decide +kernel
theorem dX6_load_31 : decode cX6_load 31 = .ok (.invokevirtual 72, 3) := by decide +kernel
theorem dX6_load_34 : decode cX6_load 34 = .ok (.ifCond .ne 5, 3) := by decide +kernel
theorem dX6_load_37 : decode cX6_load 37 = .ok (.iconst (-1), 1) := by decide +kernel
theorem dX6_load_38 : decode cX6_load 38 = .ok (.ireturn, 1) := by decide +kernel
theorem dX6_load_39 : decode cX6_load 39 = .ok (.iinc 1 1, 3) := by decide +kernel
theorem dX6_load_42 : decode cX6_load 42 = .ok (.goto (-28), 3) := by decide +kernel
theorem dX6_load_45 : decode cX6_load 45 = .ok (.iconst 0, 1) := by decide +kernel
theorem dX6_load_46 : decode cX6_load 46 = .ok (.istore_n 1, 1) := by decide +kernel
theorem dX6_load_47 : decode cX6_load 47 = .ok (.iconst 0, 1) := by decide +kernel
theorem dX6_load_48 : decode cX6_load 48 = .ok (.istore_n 2, 1) := by decide +kernel
theorem dX6_load_49 : decode cX6_load 49 = .ok (.iload_n 2, 1) := by decide +kernel
theorem dX6_load_50 : decode cX6_load 50 = .ok (.aload_n 0, 1) := by decide +kernel
theorem dX6_load_51 : decode cX6_load 51 = .ok (.getfield 135, 3) := by decide +kernel
theorem dX6_load_54 : decode cX6_load 54 = .ok (.if_icmp .ge 82, 3) := by decide +kernel
theorem dX6_load_57 : decode cX6_load 57 = .ok (.iconst 0, 1) := by decide +kernel
theorem dX6_load_58 : decode cX6_load 58 = .ok (.istore_n 3, 1) := by decide +kernel
theorem dX6_load_59 : decode cX6_load 59 = .ok (.iload_n 3, 1) := by decide +kernel
theorem dX6_load_60 : decode cX6_load 60 = .ok (.aload_n 0, 1) := by decide +kernel
theorem dX6_load_61 : decode cX6_load 61 = .ok (.getfield 23, 3) := by decide +kernel
theorem dX6_load_64 : decode cX6_load 64 = .ok (.iconst 4, 1) := by decide +kernel
theorem dX6_load_65 : decode cX6_load 65 = .ok (.iload_n 2, 1) := by decide +kernel
theorem dX6_load_66 : decode cX6_load 66 = .ok (.imul, 1) := by decide +kernel
theorem dX6_load_67 : decode cX6_load 67 = .ok (.iconst 3, 1) := by decide +kernel
theorem dX6_load_68 : decode cX6_load 68 = .ok (.iadd, 1) := by decide +kernel
theorem dX6_load_69 : decode cX6_load 69 = .ok (.iaload, 1) := by decide +kernel
theorem dX6_load_70 : decode cX6_load 70 = .ok (.if_icmp .ge 60, 3) := by decide +kernel
theorem dX6_load_73 : decode cX6_load 73 = .ok (.aload_n 0, 1) := by decide +kernel
theorem dX6_load_74 : decode cX6_load 74 = .ok (.aload_n 0, 1) := by decide +kernel
theorem dX6_load_75 : decode cX6_load 75 = .ok (.getfield 23, 3) := by decide +kernel
theorem dX6_load_78 : decode cX6_load 78 = .ok (.iconst 4, 1) := by decide +kernel
theorem dX6_load_79 : decode cX6_load 79 = .ok (.iload_n 2, 1) := by decide +kernel
theorem dX6_load_80 : decode cX6_load 80 = .ok (.imul, 1) := by decide +kernel
theorem dX6_load_81 : decode cX6_load 81 = .ok (.iaload, 1) := by decide +kernel
theorem dX6_load_82 : decode cX6_load 82 = .ok (.invokevirtual 87, 3) := by decide +kernel
theorem dX6_load_85 : decode cX6_load 85 = .ok (.ifCond .eq 39, 3) := by decide +kernel
theorem dX6_load_88 : decode cX6_load 88 = .ok (.aload_n 0, 1) := by decide +kernel
theorem dX6_load_89 : decode cX6_load 89 = .ok (.aload_n 0, 1) := by decide +kernel
theorem dX6_load_90 : decode cX6_load 90 = .ok (.getfield 23, 3) := by decide +kernel
theorem dX6_load_93 : decode cX6_load 93 = .ok (.iconst 4, 1) := by decide +kernel
theorem dX6_load_94 : decode cX6_load 94 = .ok (.iload_n 2, 1) := by decide +kernel
theorem dX6_load_95 : decode cX6_load 95 = .ok (.imul, 1) := by decide +kernel
theorem dX6_load_96 : decode cX6_load 96 = .ok (.iaload, 1) := by decide +kernel
theorem dX6_load_97 : decode cX6_load 97 = .ok (.aload_n 0, 1) := by decide +kernel
theorem dX6_load_98 : decode cX6_load 98 = .ok (.getfield 23, 3) := by decide +kernel
theorem dX6_load_101 : decode cX6_load 101 = .ok (.iconst 4, 1) := by decide +kernel
theorem dX6_load_102 : decode cX6_load 102 = .ok (.iload_n 2, 1) := by decide +kernel
theorem dX6_load_103 : decode cX6_load 103 = .ok (.imul, 1) := by decide +kernel
theorem dX6_load_104 : decode cX6_load 104 = .ok (.iconst 1, 1) := by decide +kernel
theorem dX6_load_105 : decode cX6_load 105 = .ok (.iadd, 1) := by decide +kernel
theorem dX6_load_106 : decode cX6_load 106 = .ok (.iaload, 1) := by decide +kernel
theorem dX6_load_107 : decode cX6_load 107 = .ok (.aload_n 0, 1) := by decide +kernel
theorem dX6_load_108 : decode cX6_load 108 = .ok (.getfield 23, 3) := by decide +kernel
theorem dX6_load_111 : decode cX6_load 111 = .ok (.iconst 4, 1) := by decide +kernel
theorem dX6_load_112 : decode cX6_load 112 = .ok (.iload_n 2, 1) := by decide +kernel
theorem dX6_load_113 : decode cX6_load 113 = .ok (.imul, 1) := by decide +kernel
theorem dX6_load_114 : decode cX6_load 114 = .ok (.iconst 2, 1) := by decide +kernel
theorem dX6_load_115 : decode cX6_load 115 = .ok (.iadd, 1) := by decide +kernel
theorem dX6_load_116 : decode cX6_load 116 = .ok (.iaload, 1) := by decide +kernel
theorem dX6_load_117 : decode cX6_load 117 = .ok (.invokevirtual 90, 3) := by decide +kernel
theorem dX6_load_120 : decode cX6_load 120 = .ok (.pop, 1) := by decide +kernel
theorem dX6_load_121 : decode cX6_load 121 = .ok (.iinc 1 1, 3) := by decide +kernel
theorem dX6_load_124 : decode cX6_load 124 = .ok (.iinc 3 1, 3) := by decide +kernel
theorem dX6_load_127 : decode cX6_load 127 = .ok (.goto (-68), 3) := by decide +kernel
theorem dX6_load_130 : decode cX6_load 130 = .ok (.iinc 2 1, 3) := by decide +kernel
theorem dX6_load_133 : decode cX6_load 133 = .ok (.goto (-84), 3) := by decide +kernel
theorem dX6_load_136 : decode cX6_load 136 = .ok (.aload_n 0, 1) := by decide +kernel
theorem dX6_load_137 : decode cX6_load 137 = .ok (.getfield 7, 3) := by decide +kernel
theorem dX6_load_140 : decode cX6_load 140 = .ok (.sipush 1825, 3) := by decide +kernel
theorem dX6_load_143 : decode cX6_load 143 = .ok (.lconst 0, 1) := by decide +kernel
theorem dX6_load_144 : decode cX6_load 144 = .ok (.lastore, 1) := by decide +kernel
theorem dX6_load_145 : decode cX6_load 145 = .ok (.iload_n 1, 1) := by decide +kernel
theorem dX6_load_146 : decode cX6_load 146 = .ok (.ireturn, 1) := by decide +kernel
theorem dX6_deliver_0 : decode cX6_deliver 0 = .ok (.aload_n 0, 1) := by decide +kernel
theorem dX6_deliver_1 : decode cX6_deliver 1 = .ok (.iload_n 1, 1) := by decide +kernel
theorem dX6_deliver_2 : decode cX6_deliver 2 = .ok (.iconst 0, 1) := by decide +kernel
theorem dX6_deliver_3 : decode cX6_deliver 3 = .ok (.invokevirtual 49, 3) := by decide +kernel
theorem dX6_deliver_6 : decode cX6_deliver 6 = .ok (.l2i, 1) := by decide +kernel
theorem dX6_deliver_7 : decode cX6_deliver 7 = .ok (.istore_n 2, 1) := by decide +kernel
theorem dX6_deliver_8 : decode cX6_deliver 8 = .ok (.aload_n 0, 1) := by decide +kernel
theorem dX6_deliver_9 : decode cX6_deliver 9 = .ok (.getfield 7, 3) := by decide +kernel
theorem dX6_deliver_12 : decode cX6_deliver 12 = .ok (.iconst 0, 1) := by decide +kernel
theorem dX6_deliver_13 : decode cX6_deliver 13 = .ok (.laload, 1) := by decide +kernel
theorem dX6_deliver_14 : decode cX6_deliver 14 = .ok (.aload_n 0, 1) := by decide +kernel
theorem dX6_deliver_15 : decode cX6_deliver 15 = .ok (.iload_n 1, 1) := by decide +kernel
theorem dX6_deliver_16 : decode cX6_deliver 16 = .ok (.iconst 2, 1) := by decide +kernel
theorem dX6_deliver_17 : decode cX6_deliver 17 = .ok (.invokevirtual 49, 3) := by decide +kernel
theorem dX6_deliver_20 : decode cX6_deliver 20 = .ok (.lsub, 1) := by decide +kernel
theorem dX6_deliver_21 : decode cX6_deliver 21 = .ok (.lstore_n 3, 1) := by decide +kernel
theorem dX6_deliver_22 : decode cX6_deliver 22 = .ok (.aload_n 0, 1) := by decide +kernel
theorem dX6_deliver_23 : decode cX6_deliver 23 = .ok (.getfield 7, 3) := by decide +kernel
theorem dX6_deliver_26 : decode cX6_deliver 26 = .ok (.iload_n 1, 1) := by decide +kernel
theorem dX6_deliver_27 : decode cX6_deliver 27 = .ok (.iconst 4, 1) := by decide +kernel
theorem dX6_deliver_28 : decode cX6_deliver 28 = .ok (.invokestatic 46, 3) := by decide +kernel
theorem dX6_deliver_31 : decode cX6_deliver 31 = .ok (.ldc2_w 152, 3) := by decide +kernel
theorem dX6_deliver_34 : decode cX6_deliver 34 = .ok (.lastore, 1) := by decide +kernel
theorem dX6_deliver_35 : decode cX6_deliver 35 = .ok (.aload_n 0, 1) := by decide +kernel
theorem dX6_deliver_36 : decode cX6_deliver 36 = .ok (.getfield 7, 3) := by decide +kernel
theorem dX6_deliver_39 : decode cX6_deliver 39 = .ok (.iload_n 1, 1) := by decide +kernel
theorem dX6_deliver_40 : decode cX6_deliver 40 = .ok (.bipush 8, 2) := by decide +kernel
theorem dX6_deliver_42 : decode cX6_deliver 42 = .ok (.invokestatic 46, 3) := by decide +kernel
theorem dX6_deliver_45 : decode cX6_deliver 45 = .ok (.aload_n 0, 1) := by decide +kernel
theorem dX6_deliver_46 : decode cX6_deliver 46 = .ok (.getfield 7, 3) := by decide +kernel
theorem dX6_deliver_49 : decode cX6_deliver 49 = .ok (.iconst 0, 1) := by decide +kernel
theorem dX6_deliver_50 : decode cX6_deliver 50 = .ok (.laload, 1) := by decide +kernel
theorem dX6_deliver_51 : decode cX6_deliver 51 = .ok (.lastore, 1) := by decide +kernel
theorem dX6_deliver_52 : decode cX6_deliver 52 = .ok (.aload_n 0, 1) := by decide +kernel
theorem dX6_deliver_53 : decode cX6_deliver 53 = .ok (.getfield 7, 3) := by decide +kernel
theorem dX6_deliver_56 : decode cX6_deliver 56 = .ok (.iload_n 2, 1) := by decide +kernel
theorem dX6_deliver_57 : decode cX6_deliver 57 = .ok (.bipush 7, 2) := by decide +kernel
theorem dX6_deliver_59 : decode cX6_deliver 59 = .ok (.invokestatic 40, 3) := by decide +kernel
theorem dX6_deliver_62 : decode cX6_deliver 62 = .ok (.dup2, 1) := by decide +kernel
theorem dX6_deliver_63 : decode cX6_deliver 63 = .ok (.laload, 1) := by decide +kernel
theorem dX6_deliver_64 : decode cX6_deliver 64 = .ok (.lconst 1, 1) := by decide +kernel
theorem dX6_deliver_65 : decode cX6_deliver 65 = .ok (.ladd, 1) := by decide +kernel
theorem dX6_deliver_66 : decode cX6_deliver 66 = .ok (.lastore, 1) := by decide +kernel
theorem dX6_deliver_67 : decode cX6_deliver 67 = .ok (.aload_n 0, 1) := by decide +kernel
theorem dX6_deliver_68 : decode cX6_deliver 68 = .ok (.getfield 7, 3) := by decide +kernel
theorem dX6_deliver_71 : decode cX6_deliver 71 = .ok (.iload_n 2, 1) := by decide +kernel
theorem dX6_deliver_72 : decode cX6_deliver 72 = .ok (.bipush 8, 2) := by decide +kernel
theorem dX6_deliver_74 : decode cX6_deliver 74 = .ok (.invokestatic 40, 3) := by decide +kernel
theorem dX6_deliver_77 : decode cX6_deliver 77 = .ok (.dup2, 1) := by decide +kernel
theorem dX6_deliver_78 : decode cX6_deliver 78 = .ok (.laload, 1) := by decide +kernel
theorem dX6_deliver_79 : decode cX6_deliver 79 = .ok (.aload_n 0, 1) := by decide +kernel
theorem dX6_deliver_80 : decode cX6_deliver 80 = .ok (.iload_n 1, 1) := by decide +kernel
theorem dX6_deliver_81 : decode cX6_deliver 81 = .ok (.iconst 3, 1) := by decide +kernel
theorem dX6_deliver_82 : decode cX6_deliver 82 = .ok (.invokevirtual 49, 3) := by decide +kernel
theorem dX6_deliver_85 : decode cX6_deliver 85 = .ok (.ldc2_w 34, 3) := by decide +kernel
theorem dX6_deliver_88 : decode cX6_deliver 88 = .ok (.lcmp, 1) := by decide +kernel
theorem dX6_deliver_89 : decode cX6_deliver 89 = .ok (.ifCond .eq 23, 3) := by decide +kernel
theorem dX6_deliver_92 : decode cX6_deliver 92 = .ok (.aload_n 0, 1) := by decide +kernel
theorem dX6_deliver_93 : decode cX6_deliver 93 = .ok (.getfield 7, 3) := by decide +kernel
theorem dX6_deliver_96 : decode cX6_deliver 96 = .ok (.iconst 0, 1) := by decide +kernel
theorem dX6_deliver_97 : decode cX6_deliver 97 = .ok (.laload, 1) := by decide +kernel
theorem dX6_deliver_98 : decode cX6_deliver 98 = .ok (.aload_n 0, 1) := by decide +kernel
theorem dX6_deliver_99 : decode cX6_deliver 99 = .ok (.iload_n 1, 1) := by decide +kernel
theorem dX6_deliver_100 : decode cX6_deliver 100 = .ok (.iconst 3, 1) := by decide +kernel
theorem dX6_deliver_101 : decode cX6_deliver 101 = .ok (.invokevirtual 49, 3) := by decide +kernel
theorem dX6_deliver_104 : decode cX6_deliver 104 = .ok (.lcmp, 1) := by decide +kernel
theorem dX6_deliver_105 : decode cX6_deliver 105 = .ok (.ifCond .le 7, 3) := by decide +kernel
theorem dX6_deliver_108 : decode cX6_deliver 108 = .ok (.lconst 1, 1) := by decide +kernel
theorem dX6_deliver_109 : decode cX6_deliver 109 = .ok (.goto 4, 3) := by decide +kernel
theorem dX6_deliver_112 : decode cX6_deliver 112 = .ok (.lconst 0, 1) := by decide +kernel
theorem dX6_deliver_113 : decode cX6_deliver 113 = .ok (.ladd, 1) := by decide +kernel
theorem dX6_deliver_114 : decode cX6_deliver 114 = .ok (.lastore, 1) := by decide +kernel
theorem dX6_deliver_115 : decode cX6_deliver 115 = .ok (.aload_n 0, 1) := by decide +kernel
theorem dX6_deliver_116 : decode cX6_deliver 116 = .ok (.getfield 7, 3) := by decide +kernel
theorem dX6_deliver_119 : decode cX6_deliver 119 = .ok (.iload_n 2, 1) := by decide +kernel
theorem dX6_deliver_120 : decode cX6_deliver 120 = .ok (.bipush 9, 2) := by decide +kernel
theorem dX6_deliver_122 : decode cX6_deliver 122 = .ok (.invokestatic 40, 3) := by decide +kernel
theorem dX6_deliver_125 : decode cX6_deliver 125 = .ok (.lload_n 3, 1) := by decide +kernel
theorem dX6_deliver_126 : decode cX6_deliver 126 = .ok (.aload_n 0, 1) := by decide +kernel
theorem dX6_deliver_127 : decode cX6_deliver 127 = .ok (.iload_n 2, 1) := by decide +kernel
theorem dX6_deliver_128 : decode cX6_deliver 128 = .ok (.bipush 9, 2) := by decide +kernel
theorem dX6_deliver_130 : decode cX6_deliver 130 = .ok (.invokevirtual 53, 3) := by decide +kernel
theorem dX6_deliver_133 : decode cX6_deliver 133 = .ok (.lcmp, 1) := by decide +kernel
theorem dX6_deliver_134 : decode cX6_deliver 134 = .ok (.ifCond .le 7, 3) := by decide +kernel
theorem dX6_deliver_137 : decode cX6_deliver 137 = .ok (.lload_n 3, 1) := by decide +kernel
theorem dX6_deliver_138 : decode cX6_deliver 138 = .ok (.goto 10, 3) := by decide +kernel
theorem dX6_deliver_141 : decode cX6_deliver 141 = .ok (.aload_n 0, 1) := by decide +kernel
theorem dX6_deliver_142 : decode cX6_deliver 142 = .ok (.iload_n 2, 1) := by decide +kernel
theorem dX6_deliver_143 : decode cX6_deliver 143 = .ok (.bipush 9, 2) := by decide +kernel
theorem dX6_deliver_145 : decode cX6_deliver 145 = .ok (.invokevirtual 53, 3) := by decide +kernel
theorem dX6_deliver_148 : decode cX6_deliver 148 = .ok (.lastore, 1) := by decide +kernel
theorem dX6_deliver_149 : decode cX6_deliver 149 = .ok (.aload_n 0, 1) := by decide +kernel
theorem dX6_deliver_150 : decode cX6_deliver 150 = .ok (.getfield 7, 3) := by decide +kernel
theorem dX6_deliver_153 : decode cX6_deliver 153 = .ok (.iload_n 2, 1) := by decide +kernel
theorem dX6_deliver_154 : decode cX6_deliver 154 = .ok (.bipush 10, 2) := by decide +kernel
theorem dX6_deliver_156 : decode cX6_deliver 156 = .ok (.invokestatic 40, 3) := by decide +kernel
theorem dX6_deliver_159 : decode cX6_deliver 159 = .ok (.dup2, 1) := by decide +kernel
theorem dX6_deliver_160 : decode cX6_deliver 160 = .ok (.laload, 1) := by decide +kernel
theorem dX6_deliver_161 : decode cX6_deliver 161 = .ok (.lload_n 3, 1) := by decide +kernel
theorem dX6_deliver_162 : decode cX6_deliver 162 = .ok (.ladd, 1) := by decide +kernel
theorem dX6_deliver_163 : decode cX6_deliver 163 = .ok (.lastore, 1) := by decide +kernel
theorem dX6_deliver_164 : decode cX6_deliver 164 = .ok (.aload_n 0, 1) := by decide +kernel
theorem dX6_deliver_165 : decode cX6_deliver 165 = .ok (.aload_n 0, 1) := by decide +kernel
theorem dX6_deliver_166 : decode cX6_deliver 166 = .ok (.getfield 154, 3) := by decide +kernel
theorem dX6_deliver_169 : decode cX6_deliver 169 = .ok (.ifCond .lt 11, 3) := by decide +kernel
theorem dX6_deliver_172 : decode cX6_deliver 172 = .ok (.iload_n 1, 1) := by decide +kernel
theorem dX6_deliver_173 : decode cX6_deliver 173 = .ok (.aload_n 0, 1) := by decide +kernel
theorem dX6_deliver_174 : decode cX6_deliver 174 = .ok (.getfield 154, 3) := by decide +kernel
theorem dX6_deliver_177 : decode cX6_deliver 177 = .ok (.if_icmp .ge 7, 3) := by decide +kernel
theorem dX6_deliver_180 : decode cX6_deliver 180 = .ok (.iload_n 1, 1) := by decide +kernel
theorem dX6_deliver_181 : decode cX6_deliver 181 = .ok (.goto 7, 3) := by decide +kernel
theorem dX6_deliver_184 : decode cX6_deliver 184 = .ok (.aload_n 0, 1) := by decide +kernel
theorem dX6_deliver_185 : decode cX6_deliver 185 = .ok (.getfield 154, 3) := by decide +kernel
theorem dX6_deliver_188 : decode cX6_deliver 188 = .ok (.putfield 154, 3) := by decide +kernel
theorem dX6_deliver_191 : decode cX6_deliver 191 = .ok (.return_, 1) := by decide +kernel
theorem dX6_notePiece_0 : decode cX6_notePiece 0 = .ok (.sipush 1445, 3) := by decide +kernel
theorem dX6_notePiece_3 : decode cX6_notePiece 3 = .ok (.iconst 5, 1) := by decide +kernel
theorem dX6_notePiece_4 : decode cX6_notePiece 4 = .ok (.aload_n 0, 1) := by decide +kernel
theorem dX6_notePiece_5 : decode cX6_notePiece 5 = .ok (.getfield 7, 3) := by decide +kernel
theorem dX6_notePiece_8 : decode cX6_notePiece 8 = .ok (.bipush 15, 2) := by decide +kernel
theorem dX6_notePiece_10 : decode cX6_notePiece 10 = .ok (.laload, 1) := by decide +kernel
theorem dX6_notePiece_11 : decode cX6_notePiece 11 = .ok (.ldc2_w 157, 3) := by decide +kernel
theorem dX6_notePiece_14 : decode cX6_notePiece 14 = .ok (.lrem, 1) := by decide +kernel
theorem dX6_notePiece_15 : decode cX6_notePiece 15 = .ok (.l2i, 1) := by decide +kernel
theorem dX6_notePiece_16 : decode cX6_notePiece 16 = .ok (.imul, 1) := by decide +kernel
theorem dX6_notePiece_17 : decode cX6_notePiece 17 = .ok (.iadd, 1) := by decide +kernel
theorem dX6_notePiece_18 : decode cX6_notePiece 18 = .ok (.istore_n 2, 1) := by decide +kernel
theorem dX6_notePiece_19 : decode cX6_notePiece 19 = .ok (.aload_n 0, 1) := by decide +kernel
theorem dX6_notePiece_20 : decode cX6_notePiece 20 = .ok (.getfield 7, 3) := by decide +kernel
theorem dX6_notePiece_23 : decode cX6_notePiece 23 = .ok (.iload_n 2, 1) := by decide +kernel
theorem dX6_notePiece_24 : decode cX6_notePiece 24 = .ok (.iload_n 1, 1) := by decide +kernel
theorem dX6_notePiece_25 : decode cX6_notePiece 25 = .ok (.i2l, 1) := by decide +kernel
theorem dX6_notePiece_26 : decode cX6_notePiece 26 = .ok (.lastore, 1) := by decide +kernel
theorem dX6_notePiece_27 : decode cX6_notePiece 27 = .ok (.aload_n 0, 1) := by decide +kernel
theorem dX6_notePiece_28 : decode cX6_notePiece 28 = .ok (.getfield 7, 3) := by decide +kernel
theorem dX6_notePiece_31 : decode cX6_notePiece 31 = .ok (.iload_n 2, 1) := by decide +kernel
theorem dX6_notePiece_32 : decode cX6_notePiece 32 = .ok (.iconst 1, 1) := by decide +kernel
theorem dX6_notePiece_33 : decode cX6_notePiece 33 = .ok (.iadd, 1) := by decide +kernel
theorem dX6_notePiece_34 : decode cX6_notePiece 34 = .ok (.aload_n 0, 1) := by decide +kernel
theorem dX6_notePiece_35 : decode cX6_notePiece 35 = .ok (.iload_n 1, 1) := by decide +kernel
theorem dX6_notePiece_36 : decode cX6_notePiece 36 = .ok (.iconst 0, 1) := by decide +kernel
theorem dX6_notePiece_37 : decode cX6_notePiece 37 = .ok (.invokevirtual 49, 3) := by decide +kernel
theorem dX6_notePiece_40 : decode cX6_notePiece 40 = .ok (.lastore, 1) := by decide +kernel
theorem dX6_notePiece_41 : decode cX6_notePiece 41 = .ok (.aload_n 0, 1) := by decide +kernel
theorem dX6_notePiece_42 : decode cX6_notePiece 42 = .ok (.getfield 7, 3) := by decide +kernel
theorem dX6_notePiece_45 : decode cX6_notePiece 45 = .ok (.iload_n 2, 1) := by decide +kernel
theorem dX6_notePiece_46 : decode cX6_notePiece 46 = .ok (.iconst 2, 1) := by decide +kernel
theorem dX6_notePiece_47 : decode cX6_notePiece 47 = .ok (.iadd, 1) := by decide +kernel
theorem dX6_notePiece_48 : decode cX6_notePiece 48 = .ok (.aload_n 0, 1) := by decide +kernel
theorem dX6_notePiece_49 : decode cX6_notePiece 49 = .ok (.getfield 7, 3) := by decide +kernel
theorem dX6_notePiece_52 : decode cX6_notePiece 52 = .ok (.bipush 9, 2) := by decide +kernel
theorem dX6_notePiece_54 : decode cX6_notePiece 54 = .ok (.laload, 1) := by decide +kernel
theorem dX6_notePiece_55 : decode cX6_notePiece 55 = .ok (.lastore, 1) := by decide +kernel
theorem dX6_notePiece_56 : decode cX6_notePiece 56 = .ok (.aload_n 0, 1) := by decide +kernel
theorem dX6_notePiece_57 : decode cX6_notePiece 57 = .ok (.getfield 7, 3) := by decide +kernel
theorem dX6_notePiece_60 : decode cX6_notePiece 60 = .ok (.iload_n 2, 1) := by decide +kernel
theorem dX6_notePiece_61 : decode cX6_notePiece 61 = .ok (.iconst 3, 1) := by decide +kernel
theorem dX6_notePiece_62 : decode cX6_notePiece 62 = .ok (.iadd, 1) := by decide +kernel
theorem dX6_notePiece_63 : decode cX6_notePiece 63 = .ok (.aload_n 0, 1) := by decide +kernel
theorem dX6_notePiece_64 : decode cX6_notePiece 64 = .ok (.getfield 7, 3) := by decide +kernel
theorem dX6_notePiece_67 : decode cX6_notePiece 67 = .ok (.iconst 0, 1) := by decide +kernel
theorem dX6_notePiece_68 : decode cX6_notePiece 68 = .ok (.laload, 1) := by decide +kernel
theorem dX6_notePiece_69 : decode cX6_notePiece 69 = .ok (.lastore, 1) := by decide +kernel
theorem dX6_notePiece_70 : decode cX6_notePiece 70 = .ok (.aload_n 0, 1) := by decide +kernel
theorem dX6_notePiece_71 : decode cX6_notePiece 71 = .ok (.getfield 7, 3) := by decide +kernel
theorem dX6_notePiece_74 : decode cX6_notePiece 74 = .ok (.iload_n 2, 1) := by decide +kernel
theorem dX6_notePiece_75 : decode cX6_notePiece 75 = .ok (.iconst 4, 1) := by decide +kernel
theorem dX6_notePiece_76 : decode cX6_notePiece 76 = .ok (.iadd, 1) := by decide +kernel
theorem dX6_notePiece_77 : decode cX6_notePiece 77 = .ok (.aload_n 0, 1) := by decide +kernel
theorem dX6_notePiece_78 : decode cX6_notePiece 78 = .ok (.getfield 7, 3) := by decide +kernel
theorem dX6_notePiece_81 : decode cX6_notePiece 81 = .ok (.bipush 11, 2) := by decide +kernel
theorem dX6_notePiece_83 : decode cX6_notePiece 83 = .ok (.laload, 1) := by decide +kernel
theorem dX6_notePiece_84 : decode cX6_notePiece 84 = .ok (.lastore, 1) := by decide +kernel
theorem dX6_notePiece_85 : decode cX6_notePiece 85 = .ok (.aload_n 0, 1) := by decide +kernel
theorem dX6_notePiece_86 : decode cX6_notePiece 86 = .ok (.getfield 7, 3) := by decide +kernel
theorem dX6_notePiece_89 : decode cX6_notePiece 89 = .ok (.bipush 15, 2) := by decide +kernel
theorem dX6_notePiece_91 : decode cX6_notePiece 91 = .ok (.dup2, 1) := by decide +kernel
theorem dX6_notePiece_92 : decode cX6_notePiece 92 = .ok (.laload, 1) := by decide +kernel
theorem dX6_notePiece_93 : decode cX6_notePiece 93 = .ok (.lconst 1, 1) := by decide +kernel
theorem dX6_notePiece_94 : decode cX6_notePiece 94 = .ok (.ladd, 1) := by decide +kernel
theorem dX6_notePiece_95 : decode cX6_notePiece 95 = .ok (.lastore, 1) := by decide +kernel
theorem dX6_notePiece_96 : decode cX6_notePiece 96 = .ok (.aload_n 0, 1) := by decide +kernel
theorem dX6_notePiece_97 : decode cX6_notePiece 97 = .ok (.getfield 7, 3) := by decide +kernel
theorem dX6_notePiece_100 : decode cX6_notePiece 100 = .ok (.bipush 14, 2) := by decide +kernel
theorem dX6_notePiece_102 : decode cX6_notePiece 102 = .ok (.dup2, 1) := by decide +kernel
theorem dX6_notePiece_103 : decode cX6_notePiece 103 = .ok (.laload, 1) := by decide +kernel
theorem dX6_notePiece_104 : decode cX6_notePiece 104 = .ok (.aload_n 0, 1) := by decide +kernel
theorem dX6_notePiece_105 : decode cX6_notePiece 105 = .ok (.getfield 7, 3) := by decide +kernel
theorem dX6_notePiece_108 : decode cX6_notePiece 108 = .ok (.bipush 12, 2) := by decide +kernel
theorem dX6_notePiece_110 : decode cX6_notePiece 110 = .ok (.laload, 1) := by decide +kernel
theorem dX6_notePiece_111 : decode cX6_notePiece 111 = .ok (.ladd, 1) := by decide +kernel
theorem dX6_notePiece_112 : decode cX6_notePiece 112 = .ok (.lastore, 1) := by decide +kernel
theorem dX6_notePiece_113 : decode cX6_notePiece 113 = .ok (.return_, 1) := by decide +kernel
theorem dX6_pieceDone_0 : decode cX6_pieceDone 0 = .ok (.aload_n 0, 1) := by decide +kernel
theorem dX6_pieceDone_1 : decode cX6_pieceDone 1 = .ok (.getfield 7, 3) := by decide +kernel
theorem dX6_pieceDone_4 : decode cX6_pieceDone 4 = .ok (.bipush 8, 2) := by decide +kernel
theorem dX6_pieceDone_6 : decode cX6_pieceDone 6 = .ok (.laload, 1) := by decide +kernel
theorem dX6_pieceDone_7 : decode cX6_pieceDone 7 = .ok (.l2i, 1) := by decide +kernel
theorem dX6_pieceDone_8 : decode cX6_pieceDone 8 = .ok (.istore_n 1, 1) := by decide +kernel
theorem dX6_pieceDone_9 : decode cX6_pieceDone 9 = .ok (.aload_n 0, 1) := by decide +kernel
theorem dX6_pieceDone_10 : decode cX6_pieceDone 10 = .ok (.iload_n 1, 1) := by decide +kernel
theorem dX6_pieceDone_11 : decode cX6_pieceDone 11 = .ok (.iconst 0, 1) := by decide +kernel
theorem dX6_pieceDone_12 : decode cX6_pieceDone 12 = .ok (.invokevirtual 49, 3) := by decide +kernel
theorem dX6_pieceDone_15 : decode cX6_pieceDone 15 = .ok (.l2i, 1) := by decide +kernel
theorem dX6_pieceDone_16 : decode cX6_pieceDone 16 = .ok (.istore_n 2, 1) := by decide +kernel
theorem dX6_pieceDone_17 : decode cX6_pieceDone 17 = .ok (.aload_n 0, 1) := by decide +kernel
theorem dX6_pieceDone_18 : decode cX6_pieceDone 18 = .ok (.iload_n 1, 1) := by decide +kernel
theorem dX6_pieceDone_19 : decode cX6_pieceDone 19 = .ok (.invokevirtual 159, 3) := by decide +kernel
theorem dX6_pieceDone_22 : decode cX6_pieceDone 22 = .ok (.aload_n 0, 1) := by decide +kernel
theorem dX6_pieceDone_23 : decode cX6_pieceDone 23 = .ok (.getfield 7, 3) := by decide +kernel
theorem dX6_pieceDone_26 : decode cX6_pieceDone 26 = .ok (.iload_n 1, 1) := by decide +kernel
theorem dX6_pieceDone_27 : decode cX6_pieceDone 27 = .ok (.iconst 5, 1) := by decide +kernel
theorem dX6_pieceDone_28 : decode cX6_pieceDone 28 = .ok (.invokestatic 46, 3) := by decide +kernel
theorem dX6_pieceDone_31 : decode cX6_pieceDone 31 = .ok (.dup2, 1) := by decide +kernel
theorem dX6_pieceDone_32 : decode cX6_pieceDone 32 = .ok (.laload, 1) := by decide +kernel
theorem dX6_pieceDone_33 : decode cX6_pieceDone 33 = .ok (.aload_n 0, 1) := by decide +kernel
theorem dX6_pieceDone_34 : decode cX6_pieceDone 34 = .ok (.getfield 7, 3) := by decide +kernel
theorem dX6_pieceDone_37 : decode cX6_pieceDone 37 = .ok (.bipush 9, 2) := by decide +kernel
theorem dX6_pieceDone_39 : decode cX6_pieceDone 39 = .ok (.laload, 1) := by decide +kernel
theorem dX6_pieceDone_40 : decode cX6_pieceDone 40 = .ok (.ladd, 1) := by decide +kernel
theorem dX6_pieceDone_41 : decode cX6_pieceDone 41 = .ok (.lastore, 1) := by decide +kernel
theorem dX6_pieceDone_42 : decode cX6_pieceDone 42 = .ok (.aload_n 0, 1) := by decide +kernel
theorem dX6_pieceDone_43 : decode cX6_pieceDone 43 = .ok (.getfield 7, 3) := by decide +kernel
theorem dX6_pieceDone_46 : decode cX6_pieceDone 46 = .ok (.iload_n 1, 1) := by decide +kernel
theorem dX6_pieceDone_47 : decode cX6_pieceDone 47 = .ok (.bipush 6, 2) := by decide +kernel
theorem dX6_pieceDone_49 : decode cX6_pieceDone 49 = .ok (.invokestatic 46, 3) := by decide +kernel
theorem dX6_pieceDone_52 : decode cX6_pieceDone 52 = .ok (.dup2, 1) := by decide +kernel
theorem dX6_pieceDone_53 : decode cX6_pieceDone 53 = .ok (.laload, 1) := by decide +kernel
theorem dX6_pieceDone_54 : decode cX6_pieceDone 54 = .ok (.lconst 1, 1) := by decide +kernel
theorem dX6_pieceDone_55 : decode cX6_pieceDone 55 = .ok (.ladd, 1) := by decide +kernel
theorem dX6_pieceDone_56 : decode cX6_pieceDone 56 = .ok (.lastore, 1) := by decide +kernel
theorem dX6_pieceDone_57 : decode cX6_pieceDone 57 = .ok (.aload_n 0, 1) := by decide +kernel
theorem dX6_pieceDone_58 : decode cX6_pieceDone 58 = .ok (.getfield 7, 3) := by decide +kernel
theorem dX6_pieceDone_61 : decode cX6_pieceDone 61 = .ok (.iload_n 1, 1) := by decide +kernel
theorem dX6_pieceDone_62 : decode cX6_pieceDone 62 = .ok (.bipush 7, 2) := by decide +kernel
theorem dX6_pieceDone_64 : decode cX6_pieceDone 64 = .ok (.invokestatic 46, 3) := by decide +kernel
theorem dX6_pieceDone_67 : decode cX6_pieceDone 67 = .ok (.dup2, 1) := by decide +kernel
theorem dX6_pieceDone_68 : decode cX6_pieceDone 68 = .ok (.laload, 1) := by decide +kernel
theorem dX6_pieceDone_69 : decode cX6_pieceDone 69 = .ok (.aload_n 0, 1) := by decide +kernel
theorem dX6_pieceDone_70 : decode cX6_pieceDone 70 = .ok (.getfield 7, 3) := by decide +kernel
theorem dX6_pieceDone_73 : decode cX6_pieceDone 73 = .ok (.bipush 11, 2) := by decide +kernel
theorem dX6_pieceDone_75 : decode cX6_pieceDone 75 = .ok (.laload, 1) := by decide +kernel
theorem dX6_pieceDone_76 : decode cX6_pieceDone 76 = .ok (.ladd, 1) := by decide +kernel
theorem dX6_pieceDone_77 : decode cX6_pieceDone 77 = .ok (.lastore, 1) := by decide +kernel
theorem dX6_pieceDone_78 : decode cX6_pieceDone 78 = .ok (.aload_n 0, 1) := by decide +kernel
theorem dX6_pieceDone_79 : decode cX6_pieceDone 79 = .ok (.getfield 7, 3) := by decide +kernel
theorem dX6_pieceDone_82 : decode cX6_pieceDone 82 = .ok (.iload_n 1, 1) := by decide +kernel
theorem dX6_pieceDone_83 : decode cX6_pieceDone 83 = .ok (.bipush 10, 2) := by decide +kernel
theorem dX6_pieceDone_85 : decode cX6_pieceDone 85 = .ok (.invokestatic 46, 3) := by decide +kernel
theorem dX6_pieceDone_88 : decode cX6_pieceDone 88 = .ok (.aload_n 0, 1) := by decide +kernel
theorem dX6_pieceDone_89 : decode cX6_pieceDone 89 = .ok (.getfield 7, 3) := by decide +kernel
theorem dX6_pieceDone_92 : decode cX6_pieceDone 92 = .ok (.iconst 0, 1) := by decide +kernel
theorem dX6_pieceDone_93 : decode cX6_pieceDone 93 = .ok (.laload, 1) := by decide +kernel
theorem dX6_pieceDone_94 : decode cX6_pieceDone 94 = .ok (.lastore, 1) := by decide +kernel
theorem dX6_pieceDone_95 : decode cX6_pieceDone 95 = .ok (.aload_n 0, 1) := by decide +kernel
theorem dX6_pieceDone_96 : decode cX6_pieceDone 96 = .ok (.getfield 7, 3) := by decide +kernel
theorem dX6_pieceDone_99 : decode cX6_pieceDone 99 = .ok (.iload_n 2, 1) := by decide +kernel
theorem dX6_pieceDone_100 : decode cX6_pieceDone 100 = .ok (.bipush 6, 2) := by decide +kernel
theorem dX6_pieceDone_102 : decode cX6_pieceDone 102 = .ok (.invokestatic 40, 3) := by decide +kernel
theorem dX6_pieceDone_105 : decode cX6_pieceDone 105 = .ok (.dup2, 1) := by decide +kernel
theorem dX6_pieceDone_106 : decode cX6_pieceDone 106 = .ok (.laload, 1) := by decide +kernel
theorem dX6_pieceDone_107 : decode cX6_pieceDone 107 = .ok (.aload_n 0, 1) := by decide +kernel
theorem dX6_pieceDone_108 : decode cX6_pieceDone 108 = .ok (.getfield 7, 3) := by decide +kernel
theorem dX6_pieceDone_111 : decode cX6_pieceDone 111 = .ok (.bipush 9, 2) := by decide +kernel
theorem dX6_pieceDone_113 : decode cX6_pieceDone 113 = .ok (.laload, 1) := by decide +kernel
theorem dX6_pieceDone_114 : decode cX6_pieceDone 114 = .ok (.ladd, 1) := by decide +kernel
theorem dX6_pieceDone_115 : decode cX6_pieceDone 115 = .ok (.lastore, 1) := by decide +kernel
theorem dX6_pieceDone_116 : decode cX6_pieceDone 116 = .ok (.aload_n 0, 1) := by decide +kernel
theorem dX6_pieceDone_117 : decode cX6_pieceDone 117 = .ok (.getfield 7, 3) := by decide +kernel
theorem dX6_pieceDone_120 : decode cX6_pieceDone 120 = .ok (.bipush 8, 2) := by decide +kernel
theorem dX6_pieceDone_122 : decode cX6_pieceDone 122 = .ok (.ldc2_w 34, 3) := by decide +kernel
theorem dX6_pieceDone_125 : decode cX6_pieceDone 125 = .ok (.lastore, 1) := by decide +kernel
theorem dX6_pieceDone_126 : decode cX6_pieceDone 126 = .ok (.aload_n 0, 1) := by decide +kernel
theorem dX6_pieceDone_127 : decode cX6_pieceDone 127 = .ok (.getfield 7, 3) := by decide +kernel
theorem dX6_pieceDone_130 : decode cX6_pieceDone 130 = .ok (.bipush 9, 2) := by decide +kernel
theorem dX6_pieceDone_132 : decode cX6_pieceDone 132 = .ok (.lconst 0, 1) := by decide +kernel
theorem dX6_pieceDone_133 : decode cX6_pieceDone 133 = .ok (.lastore, 1) := by decide +kernel
theorem dX6_pieceDone_134 : decode cX6_pieceDone 134 = .ok (.aload_n 0, 1) := by decide +kernel
theorem dX6_pieceDone_135 : decode cX6_pieceDone 135 = .ok (.getfield 7, 3) := by decide +kernel
theorem dX6_pieceDone_138 : decode cX6_pieceDone 138 = .ok (.bipush 10, 2) := by decide +kernel
theorem dX6_pieceDone_140 : decode cX6_pieceDone 140 = .ok (.lconst 0, 1) := by decide +kernel
theorem dX6_pieceDone_141 : decode cX6_pieceDone 141 = .ok (.lastore, 1) := by decide +kernel
theorem dX6_pieceDone_142 : decode cX6_pieceDone 142 = .ok (.aload_n 0, 1) := by decide +kernel
theorem dX6_pieceDone_143 : decode cX6_pieceDone 143 = .ok (.getfield 7, 3) := by decide +kernel
theorem dX6_pieceDone_146 : decode cX6_pieceDone 146 = .ok (.bipush 11, 2) := by decide +kernel
theorem dX6_pieceDone_148 : decode cX6_pieceDone 148 = .ok (.lconst 0, 1) := by decide +kernel
theorem dX6_pieceDone_149 : decode cX6_pieceDone 149 = .ok (.lastore, 1) := by decide +kernel
theorem dX6_pieceDone_150 : decode cX6_pieceDone 150 = .ok (.aload_n 0, 1) := by decide +kernel
theorem dX6_pieceDone_151 : decode cX6_pieceDone 151 = .ok (.iload_n 1, 1) := by decide +kernel
theorem dX6_pieceDone_152 : decode cX6_pieceDone 152 = .ok (.iconst 5, 1) := by decide +kernel
theorem dX6_pieceDone_153 : decode cX6_pieceDone 153 = .ok (.invokevirtual 49, 3) := by decide +kernel
theorem dX6_pieceDone_156 : decode cX6_pieceDone 156 = .ok (.aload_n 0, 1) := by decide +kernel
theorem dX6_pieceDone_157 : decode cX6_pieceDone 157 = .ok (.iload_n 1, 1) := by decide +kernel
theorem dX6_pieceDone_158 : decode cX6_pieceDone 158 = .ok (.iconst 1, 1) := by decide +kernel
theorem dX6_pieceDone_159 : decode cX6_pieceDone 159 = .ok (.invokevirtual 49, 3) := by decide +kernel
theorem dX6_pieceDone_162 : decode cX6_pieceDone 162 = .ok (.lcmp, 1) := by decide +kernel
theorem dX6_pieceDone_163 : decode cX6_pieceDone 163 = .ok (.ifCond .ge 15, 3) := by decide +kernel
theorem dX6_pieceDone_166 : decode cX6_pieceDone 166 = .ok (.aload_n 0, 1) := by decide +kernel
theorem dX6_pieceDone_167 : decode cX6_pieceDone 167 = .ok (.getfield 7, 3) := by decide +kernel
theorem dX6_pieceDone_170 : decode cX6_pieceDone 170 = .ok (.iload_n 1, 1) := by decide +kernel
theorem dX6_pieceDone_171 : decode cX6_pieceDone 171 = .ok (.iconst 4, 1) := by decide +kernel
theorem dX6_pieceDone_172 : decode cX6_pieceDone 172 = .ok (.invokestatic 46, 3) := by decide +kernel
theorem dX6_pieceDone_175 : decode cX6_pieceDone 175 = .ok (.lconst 0, 1) := by decide +kernel
theorem dX6_pieceDone_176 : decode cX6_pieceDone 176 = .ok (.lastore, 1) := by decide +kernel
theorem dX6_pieceDone_177 : decode cX6_pieceDone 177 = .ok (.return_, 1) := by decide +kernel
theorem dX6_pieceDone_178 : decode cX6_pieceDone 178 = .ok (.aload_n 0, 1) := by decide +kernel
theorem dX6_pieceDone_179 : decode cX6_pieceDone 179 = .ok (.getfield 7, 3) := by decide +kernel
theorem dX6_pieceDone_182 : decode cX6_pieceDone 182 = .ok (.iload_n 2, 1) := by decide +kernel
theorem dX6_pieceDone_183 : decode cX6_pieceDone 183 = .ok (.bipush 17, 2) := by decide +kernel
theorem dX6_pieceDone_185 : decode cX6_pieceDone 185 = .ok (.invokestatic 40, 3) := by decide +kernel
theorem dX6_pieceDone_188 : decode cX6_pieceDone 188 = .ok (.dup2, 1) := by decide +kernel
theorem dX6_pieceDone_189 : decode cX6_pieceDone 189 = .ok (.laload, 1) := by decide +kernel
theorem dX6_pieceDone_190 : decode cX6_pieceDone 190 = .ok (.lconst 1, 1) := by decide +kernel
theorem dX6_pieceDone_191 : decode cX6_pieceDone 191 = .ok (.lsub, 1) := by decide +kernel
theorem dX6_pieceDone_192 : decode cX6_pieceDone 192 = .ok (.lastore, 1) := by decide +kernel
theorem dX6_pieceDone_193 : decode cX6_pieceDone 193 = .ok (.aload_n 0, 1) := by decide +kernel
theorem dX6_pieceDone_194 : decode cX6_pieceDone 194 = .ok (.iload_n 1, 1) := by decide +kernel
theorem dX6_pieceDone_195 : decode cX6_pieceDone 195 = .ok (.bipush 6, 2) := by decide +kernel
theorem dX6_pieceDone_197 : decode cX6_pieceDone 197 = .ok (.invokevirtual 49, 3) := by decide +kernel
theorem dX6_pieceDone_200 : decode cX6_pieceDone 200 = .ok (.lconst 1, 1) := by decide +kernel
theorem dX6_pieceDone_201 : decode cX6_pieceDone 201 = .ok (.lcmp, 1) := by decide +kernel
theorem dX6_pieceDone_202 : decode cX6_pieceDone 202 = .ok (.ifCond .le 41, 3) := by decide +kernel
theorem dX6_pieceDone_205 : decode cX6_pieceDone 205 = .ok (.aload_n 0, 1) := by decide +kernel
theorem dX6_pieceDone_206 : decode cX6_pieceDone 206 = .ok (.getfield 7, 3) := by decide +kernel
theorem dX6_pieceDone_209 : decode cX6_pieceDone 209 = .ok (.iconst 4, 1) := by decide +kernel
theorem dX6_pieceDone_210 : decode cX6_pieceDone 210 = .ok (.laload, 1) := by decide +kernel
theorem dX6_pieceDone_211 : decode cX6_pieceDone 211 = .ok (.lconst 0, 1) := by decide +kernel
theorem dX6_pieceDone_212 : decode cX6_pieceDone 212 = .ok (.lcmp, 1) := by decide +kernel
theorem dX6_pieceDone_213 : decode cX6_pieceDone 213 = .ok (.ifCond .le 30, 3) := by decide +kernel
theorem dX6_pieceDone_216 : decode cX6_pieceDone 216 = .ok (.aload_n 0, 1) := by decide +kernel
theorem dX6_pieceDone_217 : decode cX6_pieceDone 217 = .ok (.getfield 7, 3) := by decide +kernel
theorem dX6_pieceDone_220 : decode cX6_pieceDone 220 = .ok (.iload_n 1, 1) := by decide +kernel
theorem dX6_pieceDone_221 : decode cX6_pieceDone 221 = .ok (.iconst 4, 1) := by decide +kernel
theorem dX6_pieceDone_222 : decode cX6_pieceDone 222 = .ok (.invokestatic 46, 3) := by decide +kernel
theorem dX6_pieceDone_225 : decode cX6_pieceDone 225 = .ok (.ldc2_w 30, 3) := by decide +kernel
theorem dX6_pieceDone_228 : decode cX6_pieceDone 228 = .ok (.lastore, 1) := by decide +kernel
theorem dX6_pieceDone_229 : decode cX6_pieceDone 229 = .ok (.aload_n 0, 1) := by decide +kernel
theorem dX6_pieceDone_230 : decode cX6_pieceDone 230 = .ok (.getfield 7, 3) := by decide +kernel
theorem dX6_pieceDone_233 : decode cX6_pieceDone 233 = .ok (.bipush 16, 2) := by decide +kernel
theorem dX6_pieceDone_235 : decode cX6_pieceDone 235 = .ok (.dup2, 1) := by decide +kernel
theorem dX6_pieceDone_236 : decode cX6_pieceDone 236 = .ok (.laload, 1) := by decide +kernel
theorem dX6_pieceDone_237 : decode cX6_pieceDone 237 = .ok (.lconst 1, 1) := by decide +kernel
theorem dX6_pieceDone_238 : decode cX6_pieceDone 238 = .ok (.ladd, 1) := by decide +kernel
theorem dX6_pieceDone_239 : decode cX6_pieceDone 239 = .ok (.lastore, 1) := by decide +kernel
theorem dX6_pieceDone_240 : decode cX6_pieceDone 240 = .ok (.goto 8, 3) := by decide +kernel
theorem dX6_pieceDone_243 : decode cX6_pieceDone 243 = .ok (.aload_n 0, 1) := by decide +kernel
theorem dX6_pieceDone_244 : decode cX6_pieceDone 244 = .ok (.iload_n 1, 1) := by decide +kernel
theorem dX6_pieceDone_245 : decode cX6_pieceDone 245 = .ok (.invokevirtual 163, 3) := by decide +kernel
theorem dX6_pieceDone_248 : decode cX6_pieceDone 248 = .ok (.return_, 1) := by decide +kernel
theorem dX6_joinAll_0 : decode cX6_joinAll 0 = .ok (.aload_n 0, 1) := by decide +kernel
theorem dX6_joinAll_1 : decode cX6_joinAll 1 = .ok (.invokevirtual 56, 3) := by decide +kernel
theorem dX6_joinAll_4 : decode cX6_joinAll 4 = .ok (.istore_n 1, 1) := by decide +kernel
theorem dX6_joinAll_5 : decode cX6_joinAll 5 = .ok (.iload_n 1, 1) := by decide +kernel
theorem dX6_joinAll_6 : decode cX6_joinAll 6 = .ok (.i2l, 1) := by decide +kernel
theorem dX6_joinAll_7 : decode cX6_joinAll 7 = .ok (.aload_n 0, 1) := by decide +kernel
theorem dX6_joinAll_8 : decode cX6_joinAll 8 = .ok (.getfield 7, 3) := by decide +kernel
theorem dX6_joinAll_11 : decode cX6_joinAll 11 = .ok (.bipush 7, 2) := by decide +kernel
theorem dX6_joinAll_13 : decode cX6_joinAll 13 = .ok (.laload, 1) := by decide +kernel
theorem dX6_joinAll_14 : decode cX6_joinAll 14 = .ok (.lcmp, 1) := by decide +kernel
theorem dX6_joinAll_15 : decode cX6_joinAll 15 = .ok (.ifCond .ge 74, 3) := by decide +kernel
theorem dX6_joinAll_18 : decode cX6_joinAll 18 = .ok (.aload_n 0, 1) := by decide +kernel
theorem dX6_joinAll_19 : decode cX6_joinAll 19 = .ok (.getfield 7, 3) := by decide +kernel
theorem dX6_joinAll_22 : decode cX6_joinAll 22 = .ok (.bipush 16, 2) := by decide +kernel
theorem dX6_joinAll_24 : decode cX6_joinAll 24 = .ok (.laload, 1) := by decide +kernel
theorem dX6_joinAll_25 : decode cX6_joinAll 25 = .ok (.lconst 0, 1) := by decide +kernel
theorem dX6_joinAll_26 : decode cX6_joinAll 26 = .ok (.lcmp, 1) := by decide +kernel
theorem dX6_joinAll_27 : decode cX6_joinAll 27 = .ok (.ifCond .le 62, 3) := by decide +kernel
theorem dX6_joinAll_30 : decode cX6_joinAll 30 = .ok (.aload_n 0, 1) := by decide +kernel
theorem dX6_joinAll_31 : decode cX6_joinAll 31 = .ok (.iload_n 1, 1) := by decide +kernel
theorem dX6_joinAll_32 : decode cX6_joinAll 32 = .ok (.iconst 4, 1) := by decide +kernel
theorem dX6_joinAll_33 : decode cX6_joinAll 33 = .ok (.invokevirtual 49, 3) := by decide +kernel
theorem dX6_joinAll_36 : decode cX6_joinAll 36 = .ok (.ldc2_w 30, 3) := by decide +kernel
theorem dX6_joinAll_39 : decode cX6_joinAll 39 = .ok (.lcmp, 1) := by decide +kernel
theorem dX6_joinAll_40 : decode cX6_joinAll 40 = .ok (.ifCond .ne 43, 3) := by decide +kernel
theorem dX6_joinAll_43 : decode cX6_joinAll 43 = .ok (.aload_n 0, 1) := by decide +kernel
theorem dX6_joinAll_44 : decode cX6_joinAll 44 = .ok (.getfield 7, 3) := by decide +kernel
theorem dX6_joinAll_47 : decode cX6_joinAll 47 = .ok (.iconst 0, 1) := by decide +kernel
theorem dX6_joinAll_48 : decode cX6_joinAll 48 = .ok (.laload, 1) := by decide +kernel
theorem dX6_joinAll_49 : decode cX6_joinAll 49 = .ok (.aload_n 0, 1) := by decide +kernel
theorem dX6_joinAll_50 : decode cX6_joinAll 50 = .ok (.iload_n 1, 1) := by decide +kernel
theorem dX6_joinAll_51 : decode cX6_joinAll 51 = .ok (.bipush 10, 2) := by decide +kernel
theorem dX6_joinAll_53 : decode cX6_joinAll 53 = .ok (.invokevirtual 49, 3) := by decide +kernel
theorem dX6_joinAll_56 : decode cX6_joinAll 56 = .ok (.lsub, 1) := by decide +kernel
theorem dX6_joinAll_57 : decode cX6_joinAll 57 = .ok (.aload_n 0, 1) := by decide +kernel
theorem dX6_joinAll_58 : decode cX6_joinAll 58 = .ok (.getfield 7, 3) := by decide +kernel
theorem dX6_joinAll_61 : decode cX6_joinAll 61 = .ok (.iconst 4, 1) := by decide +kernel
theorem dX6_joinAll_62 : decode cX6_joinAll 62 = .ok (.laload, 1) := by decide +kernel
theorem dX6_joinAll_63 : decode cX6_joinAll 63 = .ok (.lcmp, 1) := by decide +kernel
theorem dX6_joinAll_64 : decode cX6_joinAll 64 = .ok (.ifCond .lt 19, 3) := by decide +kernel
theorem dX6_joinAll_67 : decode cX6_joinAll 67 = .ok (.aload_n 0, 1) := by decide +kernel
theorem dX6_joinAll_68 : decode cX6_joinAll 68 = .ok (.getfield 7, 3) := by decide +kernel
theorem dX6_joinAll_71 : decode cX6_joinAll 71 = .ok (.bipush 16, 2) := by decide +kernel
theorem dX6_joinAll_73 : decode cX6_joinAll 73 = .ok (.dup2, 1) := by decide +kernel
theorem dX6_joinAll_74 : decode cX6_joinAll 74 = .ok (.laload, 1) := by decide +kernel
theorem dX6_joinAll_75 : decode cX6_joinAll 75 = .ok (.lconst 1, 1) := by decide +kernel
theorem dX6_joinAll_76 : decode cX6_joinAll 76 = .ok (.lsub, 1) := by decide +kernel
theorem dX6_joinAll_77 : decode cX6_joinAll 77 = .ok (.lastore, 1) := by decide +kernel
theorem dX6_joinAll_78 : decode cX6_joinAll 78 = .ok (.aload_n 0, 1) := by decide +kernel
theorem dX6_joinAll_79 : decode cX6_joinAll 79 = .ok (.iload_n 1, 1) := by decide +kernel
theorem dX6_joinAll_80 : decode cX6_joinAll 80 = .ok (.invokevirtual 163, 3) := by decide +kernel
theorem dX6_joinAll_83 : decode cX6_joinAll 83 = .ok (.iinc 1 1, 3) := by decide +kernel
theorem dX6_joinAll_86 : decode cX6_joinAll 86 = .ok (.goto (-81), 3) := by decide +kernel
theorem dX6_joinAll_89 : decode cX6_joinAll 89 = .ok (.return_, 1) := by decide +kernel
theorem dX6_idle_0 : decode cX6_idle 0 = .ok (.iload_n 1, 1) := by decide +kernel
theorem dX6_idle_1 : decode cX6_idle 1 = .ok (.iconst 0, 1) := by decide +kernel
theorem dX6_idle_2 : decode cX6_idle 2 = .ok (.invokestatic 40, 3) := by decide +kernel
theorem dX6_idle_5 : decode cX6_idle 5 = .ok (.istore_n 2, 1) := by decide +kernel
theorem dX6_idle_6 : decode cX6_idle 6 = .ok (.aload_n 0, 1) := by decide +kernel
theorem dX6_idle_7 : decode cX6_idle 7 = .ok (.getfield 7, 3) := by decide +kernel
theorem dX6_idle_10 : decode cX6_idle 10 = .ok (.iload_n 2, 1) := by decide +kernel
theorem dX6_idle_11 : decode cX6_idle 11 = .ok (.iconst 5, 1) := by decide +kernel
theorem dX6_idle_12 : decode cX6_idle 12 = .ok (.iadd, 1) := by decide +kernel
theorem dX6_idle_13 : decode cX6_idle 13 = .ok (.aload_n 0, 1) := by decide +kernel
theorem dX6_idle_14 : decode cX6_idle 14 = .ok (.getfield 7, 3) := by decide +kernel
theorem dX6_idle_17 : decode cX6_idle 17 = .ok (.iload_n 2, 1) := by decide +kernel
theorem dX6_idle_18 : decode cX6_idle 18 = .ok (.bipush 17, 2) := by decide +kernel
theorem dX6_idle_20 : decode cX6_idle 20 = .ok (.iadd, 1) := by decide +kernel
theorem dX6_idle_21 : decode cX6_idle 21 = .ok (.laload, 1) := by decide +kernel
theorem dX6_idle_22 : decode cX6_idle 22 = .ok (.lconst 0, 1) := by decide +kernel
theorem dX6_idle_23 : decode cX6_idle 23 = .ok (.lcmp, 1) := by decide +kernel
theorem dX6_idle_24 : decode cX6_idle 24 = .ok (.ifCond .ne 16, 3) := by decide +kernel
theorem dX6_idle_27 : decode cX6_idle 27 = .ok (.aload_n 0, 1) := by decide +kernel
theorem dX6_idle_28 : decode cX6_idle 28 = .ok (.getfield 7, 3) := by decide +kernel
theorem dX6_idle_31 : decode cX6_idle 31 = .ok (.iload_n 2, 1) := by decide +kernel
theorem dX6_idle_32 : decode cX6_idle 32 = .ok (.iconst 5, 1) := by decide +kernel
theorem dX6_idle_33 : decode cX6_idle 33 = .ok (.iadd, 1) := by decide +kernel
theorem dX6_idle_34 : decode cX6_idle 34 = .ok (.laload, 1) := by decide +kernel
theorem dX6_idle_35 : decode cX6_idle 35 = .ok (.lconst 1, 1) := by decide +kernel
theorem dX6_idle_36 : decode cX6_idle 36 = .ok (.ladd, 1) := by decide +kernel
theorem dX6_idle_37 : decode cX6_idle 37 = .ok (.goto 4, 3) := by decide +kernel
theorem dX6_idle_40 : decode cX6_idle 40 = .ok (.lconst 0, 1) := by decide +kernel
theorem dX6_idle_41 : decode cX6_idle 41 = .ok (.lastore, 1) := by decide +kernel
theorem dX6_idle_42 : decode cX6_idle 42 = .ok (.aload_n 0, 1) := by decide +kernel
theorem dX6_idle_43 : decode cX6_idle 43 = .ok (.getfield 7, 3) := by decide +kernel
theorem dX6_idle_46 : decode cX6_idle 46 = .ok (.iload_n 2, 1) := by decide +kernel
theorem dX6_idle_47 : decode cX6_idle 47 = .ok (.iconst 3, 1) := by decide +kernel
theorem dX6_idle_48 : decode cX6_idle 48 = .ok (.iadd, 1) := by decide +kernel
theorem dX6_idle_49 : decode cX6_idle 49 = .ok (.laload, 1) := by decide +kernel
theorem dX6_idle_50 : decode cX6_idle 50 = .ok (.lconst 0, 1) := by decide +kernel
theorem dX6_idle_51 : decode cX6_idle 51 = .ok (.lcmp, 1) := by decide +kernel
theorem dX6_idle_52 : decode cX6_idle 52 = .ok (.ifCond .le 40, 3) := by decide +kernel
theorem dX6_idle_55 : decode cX6_idle 55 = .ok (.aload_n 0, 1) := by decide +kernel
theorem dX6_idle_56 : decode cX6_idle 56 = .ok (.getfield 7, 3) := by decide +kernel
theorem dX6_idle_59 : decode cX6_idle 59 = .ok (.iload_n 2, 1) := by decide +kernel
theorem dX6_idle_60 : decode cX6_idle 60 = .ok (.iconst 4, 1) := by decide +kernel
theorem dX6_idle_61 : decode cX6_idle 61 = .ok (.iadd, 1) := by decide +kernel
theorem dX6_idle_62 : decode cX6_idle 62 = .ok (.laload, 1) := by decide +kernel
theorem dX6_idle_63 : decode cX6_idle 63 = .ok (.lconst 0, 1) := by decide +kernel
theorem dX6_idle_64 : decode cX6_idle 64 = .ok (.lcmp, 1) := by decide +kernel
theorem dX6_idle_65 : decode cX6_idle 65 = .ok (.ifCond .le 27, 3) := by decide +kernel
theorem dX6_idle_68 : decode cX6_idle 68 = .ok (.aload_n 0, 1) := by decide +kernel
theorem dX6_idle_69 : decode cX6_idle 69 = .ok (.getfield 7, 3) := by decide +kernel
theorem dX6_idle_72 : decode cX6_idle 72 = .ok (.iload_n 2, 1) := by decide +kernel
theorem dX6_idle_73 : decode cX6_idle 73 = .ok (.iconst 5, 1) := by decide +kernel
theorem dX6_idle_74 : decode cX6_idle 74 = .ok (.iadd, 1) := by decide +kernel
theorem dX6_idle_75 : decode cX6_idle 75 = .ok (.laload, 1) := by decide +kernel
theorem dX6_idle_76 : decode cX6_idle 76 = .ok (.aload_n 0, 1) := by decide +kernel
theorem dX6_idle_77 : decode cX6_idle 77 = .ok (.getfield 7, 3) := by decide +kernel
theorem dX6_idle_80 : decode cX6_idle 80 = .ok (.iload_n 2, 1) := by decide +kernel
theorem dX6_idle_81 : decode cX6_idle 81 = .ok (.iconst 3, 1) := by decide +kernel
theorem dX6_idle_82 : decode cX6_idle 82 = .ok (.iadd, 1) := by decide +kernel
theorem dX6_idle_83 : decode cX6_idle 83 = .ok (.laload, 1) := by decide +kernel
theorem dX6_idle_84 : decode cX6_idle 84 = .ok (.lcmp, 1) := by decide +kernel
theorem dX6_idle_85 : decode cX6_idle 85 = .ok (.ifCond .lt 7, 3) := by decide +kernel
theorem dX6_idle_88 : decode cX6_idle 88 = .ok (.iconst 1, 1) := by decide +kernel
theorem dX6_idle_89 : decode cX6_idle 89 = .ok (.goto 4, 3) := by decide +kernel
theorem dX6_idle_92 : decode cX6_idle 92 = .ok (.iconst 0, 1) := by decide +kernel
theorem dX6_idle_93 : decode cX6_idle 93 = .ok (.istore_n 3, 1) := by decide +kernel
theorem dX6_idle_94 : decode cX6_idle 94 = .ok (.iload_n 3, 1) := by decide +kernel
theorem dX6_idle_95 : decode cX6_idle 95 = .ok (.ifCond .eq 97, 3) := by decide +kernel
theorem dX6_idle_98 : decode cX6_idle 98 = .ok (.aload_n 0, 1) := by decide +kernel
theorem dX6_idle_99 : decode cX6_idle 99 = .ok (.getfield 7, 3) := by decide +kernel
theorem dX6_idle_102 : decode cX6_idle 102 = .ok (.iload_n 2, 1) := by decide +kernel
theorem dX6_idle_103 : decode cX6_idle 103 = .ok (.iconst 5, 1) := by decide +kernel
theorem dX6_idle_104 : decode cX6_idle 104 = .ok (.iadd, 1) := by decide +kernel
theorem dX6_idle_105 : decode cX6_idle 105 = .ok (.lconst 0, 1) := by decide +kernel
theorem dX6_idle_106 : decode cX6_idle 106 = .ok (.lastore, 1) := by decide +kernel
theorem dX6_idle_107 : decode cX6_idle 107 = .ok (.aload_n 0, 1) := by decide +kernel
theorem dX6_idle_108 : decode cX6_idle 108 = .ok (.getfield 7, 3) := by decide +kernel
theorem dX6_idle_111 : decode cX6_idle 111 = .ok (.iload_n 2, 1) := by decide +kernel
theorem dX6_idle_112 : decode cX6_idle 112 = .ok (.bipush 12, 2) := by decide +kernel
theorem dX6_idle_114 : decode cX6_idle 114 = .ok (.iadd, 1) := by decide +kernel
theorem dX6_idle_115 : decode cX6_idle 115 = .ok (.laload, 1) := by decide +kernel
theorem dX6_idle_116 : decode cX6_idle 116 = .ok (.aload_n 0, 1) := by decide +kernel
theorem dX6_idle_117 : decode cX6_idle 117 = .ok (.getfield 7, 3) := by decide +kernel
theorem dX6_idle_120 : decode cX6_idle 120 = .ok (.iconst 1, 1) := by decide +kernel
theorem dX6_idle_121 : decode cX6_idle 121 = .ok (.laload, 1) := by decide +kernel
theorem dX6_idle_122 : decode cX6_idle 122 = .ok (.lsub, 1) := by decide +kernel
theorem dX6_idle_123 : decode cX6_idle 123 = .ok (.lstore 4, 2) := by decide +kernel
theorem dX6_idle_125 : decode cX6_idle 125 = .ok (.lload 4, 2) := by decide +kernel
theorem dX6_idle_127 : decode cX6_idle 127 = .ok (.lconst 0, 1) := by decide +kernel
theorem dX6_idle_128 : decode cX6_idle 128 = .ok (.lcmp, 1) := by decide +kernel
theorem dX6_idle_129 : decode cX6_idle 129 = .ok (.ifCond .le 63, 3) := by decide +kernel
theorem dX6_idle_132 : decode cX6_idle 132 = .ok (.aload_n 0, 1) := by decide +kernel
theorem dX6_idle_133 : decode cX6_idle 133 = .ok (.getfield 7, 3) := by decide +kernel
theorem dX6_idle_136 : decode cX6_idle 136 = .ok (.iload_n 2, 1) := by decide +kernel
theorem dX6_idle_137 : decode cX6_idle 137 = .ok (.iconst 4, 1) := by decide +kernel
theorem dX6_idle_138 : decode cX6_idle 138 = .ok (.iadd, 1) := by decide +kernel
theorem dX6_idle_139 : decode cX6_idle 139 = .ok (.laload, 1) := by decide +kernel
theorem dX6_idle_140 : decode cX6_idle 140 = .ok (.lconst 1, 1) := by decide +kernel
theorem dX6_idle_141 : decode cX6_idle 141 = .ok (.lcmp, 1) := by decide +kernel
theorem dX6_idle_142 : decode cX6_idle 142 = .ok (.ifCond .ne 12, 3) := by decide +kernel
theorem dX6_idle_145 : decode cX6_idle 145 = .ok (.lload 4, 2) := by decide +kernel
theorem dX6_idle_147 : decode cX6_idle 147 = .ok (.ldc2_w 30, 3) := by decide +kernel
theorem dX6_idle_150 : decode cX6_idle 150 = .ok (.ldiv, 1) := by decide +kernel
theorem dX6_idle_151 : decode cX6_idle 151 = .ok (.goto 4, 3) := by decide +kernel
theorem dX6_idle_154 : decode cX6_idle 154 = .ok (.lconst 0, 1) := by decide +kernel
theorem dX6_idle_155 : decode cX6_idle 155 = .ok (.lstore 6, 2) := by decide +kernel
theorem dX6_idle_157 : decode cX6_idle 157 = .ok (.aload_n 0, 1) := by decide +kernel
theorem dX6_idle_158 : decode cX6_idle 158 = .ok (.getfield 7, 3) := by decide +kernel
theorem dX6_idle_161 : decode cX6_idle 161 = .ok (.iload_n 2, 1) := by decide +kernel
theorem dX6_idle_162 : decode cX6_idle 162 = .ok (.bipush 12, 2) := by decide +kernel
theorem dX6_idle_164 : decode cX6_idle 164 = .ok (.iadd, 1) := by decide +kernel
theorem dX6_idle_165 : decode cX6_idle 165 = .ok (.aload_n 0, 1) := by decide +kernel
theorem dX6_idle_166 : decode cX6_idle 166 = .ok (.getfield 7, 3) := by decide +kernel
theorem dX6_idle_169 : decode cX6_idle 169 = .ok (.iconst 1, 1) := by decide +kernel
theorem dX6_idle_170 : decode cX6_idle 170 = .ok (.laload, 1) := by decide +kernel
theorem dX6_idle_171 : decode cX6_idle 171 = .ok (.lload 6, 2) := by decide +kernel
theorem dX6_idle_173 : decode cX6_idle 173 = .ok (.ladd, 1) := by decide +kernel
theorem dX6_idle_174 : decode cX6_idle 174 = .ok (.lastore, 1) := by decide +kernel
theorem dX6_idle_175 : decode cX6_idle 175 = .ok (.aload_n 0, 1) := by decide +kernel
theorem dX6_idle_176 : decode cX6_idle 176 = .ok (.getfield 7, 3) := by decide +kernel
theorem dX6_idle_179 : decode cX6_idle 179 = .ok (.iload_n 2, 1) := by decide +kernel
theorem dX6_idle_180 : decode cX6_idle 180 = .ok (.bipush 13, 2) := by decide +kernel
theorem dX6_idle_182 : decode cX6_idle 182 = .ok (.iadd, 1) := by decide +kernel
theorem dX6_idle_183 : decode cX6_idle 183 = .ok (.dup2, 1) := by decide +kernel
theorem dX6_idle_184 : decode cX6_idle 184 = .ok (.laload, 1) := by decide +kernel
theorem dX6_idle_185 : decode cX6_idle 185 = .ok (.lload 4, 2) := by decide +kernel
theorem dX6_idle_187 : decode cX6_idle 187 = .ok (.lload 6, 2) := by decide +kernel
theorem dX6_idle_189 : decode cX6_idle 189 = .ok (.lsub, 1) := by decide +kernel
theorem dX6_idle_190 : decode cX6_idle 190 = .ok (.ladd, 1) := by decide +kernel
theorem dX6_idle_191 : decode cX6_idle 191 = .ok (.lastore, 1) := by decide +kernel
theorem dX6_idle_192 : decode cX6_idle 192 = .ok (.return_, 1) := by decide +kernel
theorem dX6_flowOn_0 : decode cX6_flowOn 0 = .ok (.lconst 0, 1) := by decide +kernel
theorem dX6_flowOn_1 : decode cX6_flowOn 1 = .ok (.lstore_n 1, 1) := by decide +kernel
theorem dX6_flowOn_2 : decode cX6_flowOn 2 = .ok (.iconst 0, 1) := by decide +kernel
theorem dX6_flowOn_3 : decode cX6_flowOn 3 = .ok (.istore_n 3, 1) := by decide +kernel
theorem dX6_flowOn_4 : decode cX6_flowOn 4 = .ok (.iload_n 3, 1) := by decide +kernel
theorem dX6_flowOn_5 : decode cX6_flowOn 5 = .ok (.i2l, 1) := by decide +kernel
theorem dX6_flowOn_6 : decode cX6_flowOn 6 = .ok (.aload_n 0, 1) := by decide +kernel
theorem dX6_flowOn_7 : decode cX6_flowOn 7 = .ok (.getfield 7, 3) := by decide +kernel
theorem dX6_flowOn_10 : decode cX6_flowOn 10 = .ok (.iconst 2, 1) := by decide +kernel
theorem dX6_flowOn_11 : decode cX6_flowOn 11 = .ok (.laload, 1) := by decide +kernel
theorem dX6_flowOn_12 : decode cX6_flowOn 12 = .ok (.lcmp, 1) := by decide +kernel
theorem dX6_flowOn_13 : decode cX6_flowOn 13 = .ok (.ifCond .ge 34, 3) := by decide +kernel
theorem dX6_flowOn_16 : decode cX6_flowOn 16 = .ok (.lload_n 1, 1) := by decide +kernel
theorem dX6_flowOn_17 : decode cX6_flowOn 17 = .ok (.aload_n 0, 1) := by decide +kernel
theorem dX6_flowOn_18 : decode cX6_flowOn 18 = .ok (.iload_n 3, 1) := by decide +kernel
theorem dX6_flowOn_19 : decode cX6_flowOn 19 = .ok (.bipush 14, 2) := by decide +kernel
theorem dX6_flowOn_21 : decode cX6_flowOn 21 = .ok (.invokevirtual 53, 3) := by decide +kernel
theorem dX6_flowOn_24 : decode cX6_flowOn 24 = .ok (.lconst 0, 1) := by decide +kernel
theorem dX6_flowOn_25 : decode cX6_flowOn 25 = .ok (.lcmp, 1) := by decide +kernel
theorem dX6_flowOn_26 : decode cX6_flowOn 26 = .ok (.ifCond .le 12, 3) := by decide +kernel
theorem dX6_flowOn_29 : decode cX6_flowOn 29 = .ok (.aload_n 0, 1) := by decide +kernel
theorem dX6_flowOn_30 : decode cX6_flowOn 30 = .ok (.iload_n 3, 1) := by decide +kernel
theorem dX6_flowOn_31 : decode cX6_flowOn 31 = .ok (.iconst 0, 1) := by decide +kernel
theorem dX6_flowOn_32 : decode cX6_flowOn 32 = .ok (.invokevirtual 53, 3) := by decide +kernel
theorem dX6_flowOn_35 : decode cX6_flowOn 35 = .ok (.goto 4, 3) := by decide +kernel
theorem dX6_flowOn_38 : decode cX6_flowOn 38 = .ok (.lconst 0, 1) := by decide +kernel
theorem dX6_flowOn_39 : decode cX6_flowOn 39 = .ok (.ladd, 1) := by decide +kernel
theorem dX6_flowOn_40 : decode cX6_flowOn 40 = .ok (.lstore_n 1, 1) := by decide +kernel
theorem dX6_flowOn_41 : decode cX6_flowOn 41 = .ok (.iinc 3 1, 3) := by decide +kernel
theorem dX6_flowOn_44 : decode cX6_flowOn 44 = .ok (.goto (-40), 3) := by decide +kernel
theorem dX6_flowOn_47 : decode cX6_flowOn 47 = .ok (.iconst 0, 1) := by decide +kernel
theorem dX6_flowOn_48 : decode cX6_flowOn 48 = .ok (.istore_n 3, 1) := by decide +kernel
theorem dX6_flowOn_49 : decode cX6_flowOn 49 = .ok (.iload_n 3, 1) := by decide +kernel
theorem dX6_flowOn_50 : decode cX6_flowOn 50 = .ok (.i2l, 1) := by decide +kernel
theorem dX6_flowOn_51 : decode cX6_flowOn 51 = .ok (.aload_n 0, 1) := by decide +kernel
theorem dX6_flowOn_52 : decode cX6_flowOn 52 = .ok (.getfield 7, 3) := by decide +kernel
theorem dX6_flowOn_55 : decode cX6_flowOn 55 = .ok (.iconst 2, 1) := by decide +kernel
theorem dX6_flowOn_56 : decode cX6_flowOn 56 = .ok (.laload, 1) := by decide +kernel
theorem dX6_flowOn_57 : decode cX6_flowOn 57 = .ok (.lcmp, 1) := by decide +kernel
theorem dX6_flowOn_58 : decode cX6_flowOn 58 = .ok (.ifCond .ge 94, 3) := by decide +kernel
theorem dX6_flowOn_61 : decode cX6_flowOn 61 = .ok (.aload_n 0, 1) := by decide +kernel
theorem dX6_flowOn_62 : decode cX6_flowOn 62 = .ok (.iload_n 3, 1) := by decide +kernel
theorem dX6_flowOn_63 : decode cX6_flowOn 63 = .ok (.bipush 14, 2) := by decide +kernel
theorem dX6_flowOn_65 : decode cX6_flowOn 65 = .ok (.invokevirtual 53, 3) := by decide +kernel
theorem dX6_flowOn_68 : decode cX6_flowOn 68 = .ok (.lconst 0, 1) := by decide +kernel
theorem dX6_flowOn_69 : decode cX6_flowOn 69 = .ok (.lcmp, 1) := by decide +kernel
theorem dX6_flowOn_70 : decode cX6_flowOn 70 = .ok (.ifCond .le 76, 3) := by decide +kernel
theorem dX6_flowOn_73 : decode cX6_flowOn 73 = .ok (.ldc2_w 81, 3) := by decide +kernel
theorem dX6_flowOn_76 : decode cX6_flowOn 76 = .ok (.aload_n 0, 1) := by decide +kernel
theorem dX6_flowOn_77 : decode cX6_flowOn 77 = .ok (.iload_n 3, 1) := by decide +kernel
theorem dX6_flowOn_78 : decode cX6_flowOn 78 = .ok (.iconst 0, 1) := by decide +kernel
theorem dX6_flowOn_79 : decode cX6_flowOn 79 = .ok (.invokevirtual 53, 3) := by decide +kernel
theorem dX6_flowOn_82 : decode cX6_flowOn 82 = .ok (.lmul, 1) := by decide +kernel
theorem dX6_flowOn_83 : decode cX6_flowOn 83 = .ok (.lload_n 1, 1) := by decide +kernel
theorem dX6_flowOn_84 : decode cX6_flowOn 84 = .ok (.ldiv, 1) := by decide +kernel
theorem dX6_flowOn_85 : decode cX6_flowOn 85 = .ok (.lstore 4, 2) := by decide +kernel
theorem dX6_flowOn_87 : decode cX6_flowOn 87 = .ok (.lload 4, 2) := by decide +kernel
theorem dX6_flowOn_89 : decode cX6_flowOn 89 = .ok (.aload_n 0, 1) := by decide +kernel
theorem dX6_flowOn_90 : decode cX6_flowOn 90 = .ok (.iload_n 3, 1) := by decide +kernel
theorem dX6_flowOn_91 : decode cX6_flowOn 91 = .ok (.bipush 14, 2) := by decide +kernel
theorem dX6_flowOn_93 : decode cX6_flowOn 93 = .ok (.invokevirtual 53, 3) := by decide +kernel
theorem dX6_flowOn_96 : decode cX6_flowOn 96 = .ok (.lcmp, 1) := by decide +kernel
theorem dX6_flowOn_97 : decode cX6_flowOn 97 = .ok (.ifCond .ge 8, 3) := by decide +kernel
theorem dX6_flowOn_100 : decode cX6_flowOn 100 = .ok (.lload 4, 2) := by decide +kernel
theorem dX6_flowOn_102 : decode cX6_flowOn 102 = .ok (.goto 10, 3) := by decide +kernel
theorem dX6_flowOn_105 : decode cX6_flowOn 105 = .ok (.aload_n 0, 1) := by decide +kernel
theorem dX6_flowOn_106 : decode cX6_flowOn 106 = .ok (.iload_n 3, 1) := by decide +kernel
theorem dX6_flowOn_107 : decode cX6_flowOn 107 = .ok (.bipush 14, 2) := by decide +kernel
theorem dX6_flowOn_109 : decode cX6_flowOn 109 = .ok (.invokevirtual 53, 3) := by decide +kernel
theorem dX6_flowOn_112 : decode cX6_flowOn 112 = .ok (.lstore 4, 2) := by decide +kernel
theorem dX6_flowOn_114 : decode cX6_flowOn 114 = .ok (.aload_n 0, 1) := by decide +kernel
theorem dX6_flowOn_115 : decode cX6_flowOn 115 = .ok (.getfield 7, 3) := by decide +kernel
theorem dX6_flowOn_118 : decode cX6_flowOn 118 = .ok (.iload_n 3, 1) := by decide +kernel
theorem dX6_flowOn_119 : decode cX6_flowOn 119 = .ok (.bipush 14, 2) := by decide +kernel
theorem dX6_flowOn_121 : decode cX6_flowOn 121 = .ok (.invokestatic 40, 3) := by decide +kernel
theorem dX6_flowOn_124 : decode cX6_flowOn 124 = .ok (.dup2, 1) := by decide +kernel
theorem dX6_flowOn_125 : decode cX6_flowOn 125 = .ok (.laload, 1) := by decide +kernel
theorem dX6_flowOn_126 : decode cX6_flowOn 126 = .ok (.lload 4, 2) := by decide +kernel
theorem dX6_flowOn_128 : decode cX6_flowOn 128 = .ok (.lsub, 1) := by decide +kernel
theorem dX6_flowOn_129 : decode cX6_flowOn 129 = .ok (.lastore, 1) := by decide +kernel
theorem dX6_flowOn_130 : decode cX6_flowOn 130 = .ok (.aload_n 0, 1) := by decide +kernel
theorem dX6_flowOn_131 : decode cX6_flowOn 131 = .ok (.getfield 7, 3) := by decide +kernel
theorem dX6_flowOn_134 : decode cX6_flowOn 134 = .ok (.iload_n 3, 1) := by decide +kernel
theorem dX6_flowOn_135 : decode cX6_flowOn 135 = .ok (.bipush 15, 2) := by decide +kernel
theorem dX6_flowOn_137 : decode cX6_flowOn 137 = .ok (.invokestatic 40, 3) := by decide +kernel
theorem dX6_flowOn_140 : decode cX6_flowOn 140 = .ok (.dup2, 1) := by decide +kernel
theorem dX6_flowOn_141 : decode cX6_flowOn 141 = .ok (.laload, 1) := by decide +kernel
theorem dX6_flowOn_142 : decode cX6_flowOn 142 = .ok (.lload 4, 2) := by decide +kernel
theorem dX6_flowOn_144 : decode cX6_flowOn 144 = .ok (.ladd, 1) := by decide +kernel
theorem dX6_flowOn_145 : decode cX6_flowOn 145 = .ok (.lastore, 1) := by decide +kernel
theorem dX6_flowOn_146 : decode cX6_flowOn 146 = .ok (.iinc 3 1, 3) := by decide +kernel
theorem dX6_flowOn_149 : decode cX6_flowOn 149 = .ok (.goto (-100), 3) := by decide +kernel
theorem dX6_flowOn_152 : decode cX6_flowOn 152 = .ok (.return_, 1) := by decide +kernel
theorem dX6_tagOf_0 : decode cX6_tagOf 0 = .ok (.aload_n 0, 1) := by decide +kernel
theorem dX6_tagOf_1 : decode cX6_tagOf 1 = .ok (.iload_n 1, 1) := by decide +kernel
theorem dX6_tagOf_2 : decode cX6_tagOf 2 = .ok (.invokevirtual 166, 3) := by decide +kernel
theorem dX6_tagOf_5 : decode cX6_tagOf 5 = .ok (.istore_n 2, 1) := by decide +kernel
theorem dX6_tagOf_6 : decode cX6_tagOf 6 = .ok (.iload_n 2, 1) := by decide +kernel
theorem dX6_tagOf_7 : decode cX6_tagOf 7 = .ok (.ifCond .ge 13, 3) := by decide +kernel
theorem dX6_tagOf_10 : decode cX6_tagOf 10 = .ok (.aload_n 0, 1) := by decide +kernel
theorem dX6_tagOf_11 : decode cX6_tagOf 11 = .ok (.iload_n 1, 1) := by decide +kernel
theorem dX6_tagOf_12 : decode cX6_tagOf 12 = .ok (.bipush 12, 2) := by decide +kernel
theorem dX6_tagOf_14 : decode cX6_tagOf 14 = .ok (.invokevirtual 53, 3) := by decide +kernel
theorem dX6_tagOf_17 : decode cX6_tagOf 17 = .ok (.goto 28, 3) := by decide +kernel
theorem dX6_tagOf_20 : decode cX6_tagOf 20 = .ok (.aload_n 0, 1) := by decide +kernel
theorem dX6_tagOf_21 : decode cX6_tagOf 21 = .ok (.iload_n 2, 1) := by decide +kernel
theorem dX6_tagOf_22 : decode cX6_tagOf 22 = .ok (.bipush 9, 2) := by decide +kernel
theorem dX6_tagOf_24 : decode cX6_tagOf 24 = .ok (.invokevirtual 49, 3) := by decide +kernel
theorem dX6_tagOf_27 : decode cX6_tagOf 27 = .ok (.aload_n 0, 1) := by decide +kernel
theorem dX6_tagOf_28 : decode cX6_tagOf 28 = .ok (.iload_n 2, 1) := by decide +kernel
theorem dX6_tagOf_29 : decode cX6_tagOf 29 = .ok (.iconst 5, 1) := by decide +kernel
theorem dX6_tagOf_30 : decode cX6_tagOf 30 = .ok (.invokevirtual 49, 3) := by decide +kernel
theorem dX6_tagOf_33 : decode cX6_tagOf 33 = .ok (.ldc2_w 81, 3) := by decide +kernel
theorem dX6_tagOf_36 : decode cX6_tagOf 36 = .ok (.lmul, 1) := by decide +kernel
theorem dX6_tagOf_37 : decode cX6_tagOf 37 = .ok (.aload_n 0, 1) := by decide +kernel
theorem dX6_tagOf_38 : decode cX6_tagOf 38 = .ok (.iload_n 1, 1) := by decide +kernel
theorem dX6_tagOf_39 : decode cX6_tagOf 39 = .ok (.iconst 0, 1) := by decide +kernel
theorem dX6_tagOf_40 : decode cX6_tagOf 40 = .ok (.invokevirtual 53, 3) := by decide +kernel
theorem dX6_tagOf_43 : decode cX6_tagOf 43 = .ok (.ldiv, 1) := by decide +kernel
theorem dX6_tagOf_44 : decode cX6_tagOf 44 = .ok (.ladd, 1) := by decide +kernel
theorem dX6_tagOf_45 : decode cX6_tagOf 45 = .ok (.lreturn, 1) := by decide +kernel
theorem dX6_nextFlow_0 : decode cX6_nextFlow 0 = .ok (.bipush (-6), 2) := by decide +kernel
theorem dX6_nextFlow_2 : decode cX6_nextFlow 2 = .ok (.istore_n 1, 1) := by decide +kernel
theorem dX6_nextFlow_3 : decode cX6_nextFlow 3 = .ok (.bipush (-6), 2) := by decide +kernel
theorem dX6_nextFlow_5 : decode cX6_nextFlow 5 = .ok (.istore_n 2, 1) := by decide +kernel
theorem dX6_nextFlow_6 : decode cX6_nextFlow 6 = .ok (.lconst 0, 1) := by decide +kernel
theorem dX6_nextFlow_7 : decode cX6_nextFlow 7 = .ok (.lstore_n 3, 1) := by decide +kernel
theorem dX6_nextFlow_8 : decode cX6_nextFlow 8 = .ok (.iconst 0, 1) := by decide +kernel
theorem dX6_nextFlow_9 : decode cX6_nextFlow 9 = .ok (.istore 5, 2) := by decide +kernel
theorem dX6_nextFlow_11 : decode cX6_nextFlow 11 = .ok (.iload 5, 2) := by decide +kernel
theorem dX6_nextFlow_13 : decode cX6_nextFlow 13 = .ok (.i2l, 1) := by decide +kernel
theorem dX6_nextFlow_14 : decode cX6_nextFlow 14 = .ok (.aload_n 0, 1) := by decide +kernel
theorem dX6_nextFlow_15 : decode cX6_nextFlow 15 = .ok (.getfield 7, 3) := by decide +kernel
theorem dX6_nextFlow_18 : decode cX6_nextFlow 18 = .ok (.iconst 2, 1) := by decide +kernel
theorem dX6_nextFlow_19 : decode cX6_nextFlow 19 = .ok (.laload, 1) := by decide +kernel
theorem dX6_nextFlow_20 : decode cX6_nextFlow 20 = .ok (.lcmp, 1) := by decide +kernel
theorem dX6_nextFlow_21 : decode cX6_nextFlow 21 = .ok (.ifCond .ge 84, 3) := by decide +kernel
theorem dX6_nextFlow_24 : decode cX6_nextFlow 24 = .ok (.aload_n 0, 1) := by decide +kernel
theorem dX6_nextFlow_25 : decode cX6_nextFlow 25 = .ok (.iload 5, 2) := by decide +kernel
theorem dX6_nextFlow_27 : decode cX6_nextFlow 27 = .ok (.invokevirtual 166, 3) := by decide +kernel
theorem dX6_nextFlow_30 : decode cX6_nextFlow 30 = .ok (.istore 6, 2) := by decide +kernel
theorem dX6_nextFlow_32 : decode cX6_nextFlow 32 = .ok (.iload 6, 2) := by decide +kernel
theorem dX6_nextFlow_34 : decode cX6_nextFlow 34 = .ok (.ifCond .lt 65, 3) := by decide +kernel
theorem dX6_nextFlow_37 : decode cX6_nextFlow 37 = .ok (.aload_n 0, 1) := by decide +kernel
theorem dX6_nextFlow_38 : decode cX6_nextFlow 38 = .ok (.iload 6, 2) := by decide +kernel
theorem dX6_nextFlow_40 : decode cX6_nextFlow 40 = .ok (.invokevirtual 105, 3) := by decide +kernel
theorem dX6_nextFlow_43 : decode cX6_nextFlow 43 = .ok (.ifCond .eq 31, 3) := by decide +kernel
theorem dX6_nextFlow_46 : decode cX6_nextFlow 46 = .ok (.iload_n 1, 1) := by decide +kernel
theorem dX6_nextFlow_47 : decode cX6_nextFlow 47 = .ok (.ifCond .lt 24, 3) := by decide +kernel
theorem dX6_nextFlow_50 : decode cX6_nextFlow 50 = .ok (.aload_n 0, 1) := by decide +kernel
theorem dX6_nextFlow_51 : decode cX6_nextFlow 51 = .ok (.iload 6, 2) := by decide +kernel
theorem dX6_nextFlow_53 : decode cX6_nextFlow 53 = .ok (.iconst 3, 1) := by decide +kernel
theorem dX6_nextFlow_54 : decode cX6_nextFlow 54 = .ok (.invokevirtual 49, 3) := by decide +kernel
theorem dX6_nextFlow_57 : decode cX6_nextFlow 57 = .ok (.aload_n 0, 1) := by decide +kernel
theorem dX6_nextFlow_58 : decode cX6_nextFlow 58 = .ok (.aload_n 0, 1) := by decide +kernel
theorem dX6_nextFlow_59 : decode cX6_nextFlow 59 = .ok (.iload_n 1, 1) := by decide +kernel
theorem dX6_nextFlow_60 : decode cX6_nextFlow 60 = .ok (.invokevirtual 166, 3) := by decide +kernel
theorem dX6_nextFlow_63 : decode cX6_nextFlow 63 = .ok (.iconst 3, 1) := by decide +kernel
theorem dX6_nextFlow_64 : decode cX6_nextFlow 64 = .ok (.invokevirtual 49, 3) := by decide +kernel
theorem dX6_nextFlow_67 : decode cX6_nextFlow 67 = .ok (.lcmp, 1) := by decide +kernel
theorem dX6_nextFlow_68 : decode cX6_nextFlow 68 = .ok (.ifCond .ge 6, 3) := by decide +kernel
theorem dX6_nextFlow_71 : decode cX6_nextFlow 71 = .ok (.iload 5, 2) := by decide +kernel
theorem dX6_nextFlow_73 : decode cX6_nextFlow 73 = .ok (.istore_n 1, 1) := by decide +kernel
theorem dX6_nextFlow_74 : decode cX6_nextFlow 74 = .ok (.aload_n 0, 1) := by decide +kernel
theorem dX6_nextFlow_75 : decode cX6_nextFlow 75 = .ok (.iload 5, 2) := by decide +kernel
theorem dX6_nextFlow_77 : decode cX6_nextFlow 77 = .ok (.invokevirtual 169, 3) := by decide +kernel
theorem dX6_nextFlow_80 : decode cX6_nextFlow 80 = .ok (.lstore 7, 2) := by decide +kernel
theorem dX6_nextFlow_82 : decode cX6_nextFlow 82 = .ok (.iload_n 2, 1) := by decide +kernel
theorem dX6_nextFlow_83 : decode cX6_nextFlow 83 = .ok (.ifCond .lt 10, 3) := by decide +kernel
theorem dX6_nextFlow_86 : decode cX6_nextFlow 86 = .ok (.lload 7, 2) := by decide +kernel
theorem dX6_nextFlow_88 : decode cX6_nextFlow 88 = .ok (.lload_n 3, 1) := by decide +kernel
theorem dX6_nextFlow_89 : decode cX6_nextFlow 89 = .ok (.lcmp, 1) := by decide +kernel
theorem dX6_nextFlow_90 : decode cX6_nextFlow 90 = .ok (.ifCond .ge 9, 3) := by decide +kernel
theorem dX6_nextFlow_93 : decode cX6_nextFlow 93 = .ok (.iload 5, 2) := by decide +kernel
theorem dX6_nextFlow_95 : decode cX6_nextFlow 95 = .ok (.istore_n 2, 1) := by decide +kernel
theorem dX6_nextFlow_96 : decode cX6_nextFlow 96 = .ok (.lload 7, 2) := by decide +kernel
theorem dX6_nextFlow_98 : decode cX6_nextFlow 98 = .ok (.lstore_n 3, 1) := by decide +kernel
theorem dX6_nextFlow_99 : decode cX6_nextFlow 99 = .ok (.iinc 5 1, 3) := by decide +kernel
theorem dX6_nextFlow_102 : decode cX6_nextFlow 102 = .ok (.goto (-91), 3) := by decide +kernel
theorem dX6_nextFlow_105 : decode cX6_nextFlow 105 = .ok (.aload_n 0, 1) := by decide +kernel
theorem dX6_nextFlow_106 : decode cX6_nextFlow 106 = .ok (.iload_n 1, 1) := by decide +kernel
theorem dX6_nextFlow_107 : decode cX6_nextFlow 107 = .ok (.ifCond .lt 7, 3) := by decide +kernel
theorem dX6_nextFlow_110 : decode cX6_nextFlow 110 = .ok (.iconst 1, 1) := by decide +kernel
theorem dX6_nextFlow_111 : decode cX6_nextFlow 111 = .ok (.goto 4, 3) := by decide +kernel
theorem dX6_nextFlow_114 : decode cX6_nextFlow 114 = .ok (.iconst 0, 1) := by decide +kernel
theorem dX6_nextFlow_115 : decode cX6_nextFlow 115 = .ok (.putfield 172, 3) := by decide +kernel
theorem dX6_nextFlow_118 : decode cX6_nextFlow 118 = .ok (.aload_n 0, 1) := by decide +kernel
theorem dX6_nextFlow_119 : decode cX6_nextFlow 119 = .ok (.getfield 172, 3) := by decide +kernel
theorem dX6_nextFlow_122 : decode cX6_nextFlow 122 = .ok (.ifCond .eq 7, 3) := by decide +kernel
theorem dX6_nextFlow_125 : decode cX6_nextFlow 125 = .ok (.iload_n 1, 1) := by decide +kernel
theorem dX6_nextFlow_126 : decode cX6_nextFlow 126 = .ok (.goto 4, 3) := by decide +kernel
theorem dX6_nextFlow_129 : decode cX6_nextFlow 129 = .ok (.iload_n 2, 1) := by decide +kernel
theorem dX6_nextFlow_130 : decode cX6_nextFlow 130 = .ok (.ireturn, 1) := by decide +kernel
theorem dX6_begin_0 : decode cX6_begin 0 = .ok (.aload_n 0, 1) := by decide +kernel
theorem dX6_begin_1 : decode cX6_begin 1 = .ok (.invokevirtual 175, 3) := by decide +kernel
theorem dX6_begin_4 : decode cX6_begin 4 = .ok (.istore_n 1, 1) := by decide +kernel
theorem dX6_begin_5 : decode cX6_begin 5 = .ok (.iload_n 1, 1) := by decide +kernel
theorem dX6_begin_6 : decode cX6_begin 6 = .ok (.ifCond .ge 4, 3) := by decide +kernel
theorem dX6_begin_9 : decode cX6_begin 9 = .ok (.return_, 1) := by decide +kernel
theorem dX6_begin_10 : decode cX6_begin 10 = .ok (.aload_n 0, 1) := by decide +kernel
theorem dX6_begin_11 : decode cX6_begin 11 = .ok (.getfield 172, 3) := by decide +kernel
theorem dX6_begin_14 : decode cX6_begin 14 = .ok (.ifCond .ne 36, 3) := by decide +kernel
theorem dX6_begin_17 : decode cX6_begin 17 = .ok (.aload_n 0, 1) := by decide +kernel
theorem dX6_begin_18 : decode cX6_begin 18 = .ok (.iload_n 1, 1) := by decide +kernel
theorem dX6_begin_19 : decode cX6_begin 19 = .ok (.invokevirtual 169, 3) := by decide +kernel
theorem dX6_begin_22 : decode cX6_begin 22 = .ok (.lstore_n 2, 1) := by decide +kernel
theorem dX6_begin_23 : decode cX6_begin 23 = .ok (.aload_n 0, 1) := by decide +kernel
theorem dX6_begin_24 : decode cX6_begin 24 = .ok (.getfield 7, 3) := by decide +kernel
theorem dX6_begin_27 : decode cX6_begin 27 = .ok (.iconst 1, 1) := by decide +kernel
theorem dX6_begin_28 : decode cX6_begin 28 = .ok (.lload_n 2, 1) := by decide +kernel
theorem dX6_begin_29 : decode cX6_begin 29 = .ok (.aload_n 0, 1) := by decide +kernel
theorem dX6_begin_30 : decode cX6_begin 30 = .ok (.getfield 7, 3) := by decide +kernel
theorem dX6_begin_33 : decode cX6_begin 33 = .ok (.iconst 1, 1) := by decide +kernel
theorem dX6_begin_34 : decode cX6_begin 34 = .ok (.laload, 1) := by decide +kernel
theorem dX6_begin_35 : decode cX6_begin 35 = .ok (.lcmp, 1) := by decide +kernel
theorem dX6_begin_36 : decode cX6_begin 36 = .ok (.ifCond .le 7, 3) := by decide +kernel
theorem dX6_begin_39 : decode cX6_begin 39 = .ok (.lload_n 2, 1) := by decide +kernel
theorem dX6_begin_40 : decode cX6_begin 40 = .ok (.goto 9, 3) := by decide +kernel
theorem dX6_begin_43 : decode cX6_begin 43 = .ok (.aload_n 0, 1) := by decide +kernel
theorem dX6_begin_44 : decode cX6_begin 44 = .ok (.getfield 7, 3) := by decide +kernel
theorem dX6_begin_47 : decode cX6_begin 47 = .ok (.iconst 1, 1) := by decide +kernel
theorem dX6_begin_48 : decode cX6_begin 48 = .ok (.laload, 1) := by decide +kernel
theorem dX6_begin_49 : decode cX6_begin 49 = .ok (.lastore, 1) := by decide +kernel
theorem dX6_begin_50 : decode cX6_begin 50 = .ok (.aload_n 0, 1) := by decide +kernel
theorem dX6_begin_51 : decode cX6_begin 51 = .ok (.iload_n 1, 1) := by decide +kernel
theorem dX6_begin_52 : decode cX6_begin 52 = .ok (.invokevirtual 166, 3) := by decide +kernel
theorem dX6_begin_55 : decode cX6_begin 55 = .ok (.istore_n 2, 1) := by decide +kernel
theorem dX6_begin_56 : decode cX6_begin 56 = .ok (.aload_n 0, 1) := by decide +kernel
theorem dX6_begin_57 : decode cX6_begin 57 = .ok (.iload_n 2, 1) := by decide +kernel
theorem dX6_begin_58 : decode cX6_begin 58 = .ok (.iconst 1, 1) := by decide +kernel
theorem dX6_begin_59 : decode cX6_begin 59 = .ok (.invokevirtual 49, 3) := by decide +kernel
theorem dX6_begin_62 : decode cX6_begin 62 = .ok (.aload_n 0, 1) := by decide +kernel
theorem dX6_begin_63 : decode cX6_begin 63 = .ok (.iload_n 2, 1) := by decide +kernel
theorem dX6_begin_64 : decode cX6_begin 64 = .ok (.iconst 5, 1) := by decide +kernel
theorem dX6_begin_65 : decode cX6_begin 65 = .ok (.invokevirtual 49, 3) := by decide +kernel
theorem dX6_begin_68 : decode cX6_begin 68 = .ok (.lsub, 1) := by decide +kernel
theorem dX6_begin_69 : decode cX6_begin 69 = .ok (.lstore_n 3, 1) := by decide +kernel
theorem dX6_begin_70 : decode cX6_begin 70 = .ok (.aload_n 0, 1) := by decide +kernel
theorem dX6_begin_71 : decode cX6_begin 71 = .ok (.iload_n 1, 1) := by decide +kernel
theorem dX6_begin_72 : decode cX6_begin 72 = .ok (.iconst 2, 1) := by decide +kernel
theorem dX6_begin_73 : decode cX6_begin 73 = .ok (.invokevirtual 53, 3) := by decide +kernel
theorem dX6_begin_76 : decode cX6_begin 76 = .ok (.lstore 5, 2) := by decide +kernel
theorem dX6_begin_78 : decode cX6_begin 78 = .ok (.aload_n 0, 1) := by decide +kernel
theorem dX6_begin_79 : decode cX6_begin 79 = .ok (.getfield 7, 3) := by decide +kernel
theorem dX6_begin_82 : decode cX6_begin 82 = .ok (.bipush 8, 2) := by decide +kernel
theorem dX6_begin_84 : decode cX6_begin 84 = .ok (.iload_n 2, 1) := by decide +kernel
theorem dX6_begin_85 : decode cX6_begin 85 = .ok (.i2l, 1) := by decide +kernel
theorem dX6_begin_86 : decode cX6_begin 86 = .ok (.lastore, 1) := by decide +kernel
theorem dX6_begin_87 : decode cX6_begin 87 = .ok (.aload_n 0, 1) := by decide +kernel
theorem dX6_begin_88 : decode cX6_begin 88 = .ok (.getfield 7, 3) := by decide +kernel
theorem dX6_begin_91 : decode cX6_begin 91 = .ok (.bipush 9, 2) := by decide +kernel
theorem dX6_begin_93 : decode cX6_begin 93 = .ok (.lload 5, 2) := by decide +kernel
theorem dX6_begin_95 : decode cX6_begin 95 = .ok (.lconst 0, 1) := by decide +kernel
theorem dX6_begin_96 : decode cX6_begin 96 = .ok (.lcmp, 1) := by decide +kernel
theorem dX6_begin_97 : decode cX6_begin 97 = .ok (.ifCond .le 15, 3) := by decide +kernel
theorem dX6_begin_100 : decode cX6_begin 100 = .ok (.lload 5, 2) := by decide +kernel
theorem dX6_begin_102 : decode cX6_begin 102 = .ok (.lload_n 3, 1) := by decide +kernel
theorem dX6_begin_103 : decode cX6_begin 103 = .ok (.lcmp, 1) := by decide +kernel
theorem dX6_begin_104 : decode cX6_begin 104 = .ok (.ifCond .ge 8, 3) := by decide +kernel
theorem dX6_begin_107 : decode cX6_begin 107 = .ok (.lload 5, 2) := by decide +kernel
theorem dX6_begin_109 : decode cX6_begin 109 = .ok (.goto 4, 3) := by decide +kernel
theorem dX6_begin_112 : decode cX6_begin 112 = .ok (.lload_n 3, 1) := by decide +kernel
theorem dX6_begin_113 : decode cX6_begin 113 = .ok (.lastore, 1) := by decide +kernel
theorem dX6_begin_114 : decode cX6_begin 114 = .ok (.aload_n 0, 1) := by decide +kernel
theorem dX6_begin_115 : decode cX6_begin 115 = .ok (.getfield 7, 3) := by decide +kernel
theorem dX6_begin_118 : decode cX6_begin 118 = .ok (.bipush 10, 2) := by decide +kernel
theorem dX6_begin_120 : decode cX6_begin 120 = .ok (.aload_n 0, 1) := by decide +kernel
end
section
theorem dX6_begin_121 : decode cX6_begin 121 = .ok (.getfield 7, 3) := by decide +kernel
theorem dX6_begin_124 : decode cX6_begin 124 = .ok (.iconst 3, 1) := by decide +kernel
theorem dX6_begin_125 : decode cX6_begin 125 = .ok (.laload, 1) := by decide +kernel
theorem dX6_begin_126 : decode cX6_begin 126 = .ok (.aload_n 0, 1) := by decide +kernel
theorem dX6_begin_127 : decode cX6_begin 127 = .ok (.getfield 7, 3) := by decide +kernel
theorem dX6_begin_130 : decode cX6_begin 130 = .ok (.bipush 9, 2) := by decide +kernel
theorem dX6_begin_132 : decode cX6_begin 132 = .ok (.laload, 1) := by decide +kernel
theorem dX6_begin_133 : decode cX6_begin 133 = .ok (.ladd, 1) := by decide +kernel
theorem dX6_begin_134 : decode cX6_begin 134 = .ok (.lastore, 1) := by decide +kernel
theorem dX6_begin_135 : decode cX6_begin 135 = .ok (.aload_n 0, 1) := by decide +kernel
theorem dX6_begin_136 : decode cX6_begin 136 = .ok (.getfield 7, 3) := by decide +kernel
theorem dX6_begin_139 : decode cX6_begin 139 = .ok (.bipush 11, 2) := by decide +kernel
theorem dX6_begin_141 : decode cX6_begin 141 = .ok (.aload_n 0, 1) := by decide +kernel
theorem dX6_begin_142 : decode cX6_begin 142 = .ok (.getfield 172, 3) := by decide +kernel
theorem dX6_begin_145 : decode cX6_begin 145 = .ok (.ifCond .eq 7, 3) := by decide +kernel
theorem dX6_begin_148 : decode cX6_begin 148 = .ok (.lconst 1, 1) := by decide +kernel
theorem dX6_begin_149 : decode cX6_begin 149 = .ok (.goto 4, 3) := by decide +kernel
theorem dX6_begin_152 : decode cX6_begin 152 = .ok (.lconst 0, 1) := by decide +kernel
theorem dX6_begin_153 : decode cX6_begin 153 = .ok (.lastore, 1) := by decide +kernel
theorem dX6_begin_154 : decode cX6_begin 154 = .ok (.aload_n 0, 1) := by decide +kernel
theorem dX6_begin_155 : decode cX6_begin 155 = .ok (.getfield 7, 3) := by decide +kernel
theorem dX6_begin_158 : decode cX6_begin 158 = .ok (.bipush 12, 2) := by decide +kernel
theorem dX6_begin_160 : decode cX6_begin 160 = .ok (.aload_n 0, 1) := by decide +kernel
theorem dX6_begin_161 : decode cX6_begin 161 = .ok (.getfield 7, 3) := by decide +kernel
theorem dX6_begin_164 : decode cX6_begin 164 = .ok (.iconst 3, 1) := by decide +kernel
theorem dX6_begin_165 : decode cX6_begin 165 = .ok (.laload, 1) := by decide +kernel
theorem dX6_begin_166 : decode cX6_begin 166 = .ok (.lastore, 1) := by decide +kernel
theorem dX6_begin_167 : decode cX6_begin 167 = .ok (.aload_n 0, 1) := by decide +kernel
theorem dX6_begin_168 : decode cX6_begin 168 = .ok (.getfield 7, 3) := by decide +kernel
theorem dX6_begin_171 : decode cX6_begin 171 = .ok (.iload_n 2, 1) := by decide +kernel
theorem dX6_begin_172 : decode cX6_begin 172 = .ok (.iconst 4, 1) := by decide +kernel
theorem dX6_begin_173 : decode cX6_begin 173 = .ok (.invokestatic 46, 3) := by decide +kernel
theorem dX6_begin_176 : decode cX6_begin 176 = .ok (.lconst 1, 1) := by decide +kernel
theorem dX6_begin_177 : decode cX6_begin 177 = .ok (.lastore, 1) := by decide +kernel
theorem dX6_begin_178 : decode cX6_begin 178 = .ok (.return_, 1) := by decide +kernel
theorem dX6_lagOf_0 : decode cX6_lagOf 0 = .ok (.aload_n 0, 1) := by decide +kernel
theorem dX6_lagOf_1 : decode cX6_lagOf 1 = .ok (.iload_n 1, 1) := by decide +kernel
theorem dX6_lagOf_2 : decode cX6_lagOf 2 = .ok (.bipush 15, 2) := by decide +kernel
theorem dX6_lagOf_4 : decode cX6_lagOf 4 = .ok (.invokevirtual 53, 3) := by decide +kernel
theorem dX6_lagOf_7 : decode cX6_lagOf 7 = .ok (.ldc2_w 81, 3) := by decide +kernel
theorem dX6_lagOf_10 : decode cX6_lagOf 10 = .ok (.aload_n 0, 1) := by decide +kernel
theorem dX6_lagOf_11 : decode cX6_lagOf 11 = .ok (.iload_n 1, 1) := by decide +kernel
theorem dX6_lagOf_12 : decode cX6_lagOf 12 = .ok (.bipush 6, 2) := by decide +kernel
theorem dX6_lagOf_14 : decode cX6_lagOf 14 = .ok (.invokevirtual 53, 3) := by decide +kernel
theorem dX6_lagOf_17 : decode cX6_lagOf 17 = .ok (.lmul, 1) := by decide +kernel
theorem dX6_lagOf_18 : decode cX6_lagOf 18 = .ok (.lsub, 1) := by decide +kernel
theorem dX6_lagOf_19 : decode cX6_lagOf 19 = .ok (.lreturn, 1) := by decide +kernel
theorem dX6_tick_0 : decode cX6_tick 0 = .ok (.aload_n 0, 1) := by decide +kernel
theorem dX6_tick_1 : decode cX6_tick 1 = .ok (.bipush (-6), 2) := by decide +kernel
theorem dX6_tick_3 : decode cX6_tick 3 = .ok (.putfield 154, 3) := by decide +kernel
theorem dX6_tick_6 : decode cX6_tick 6 = .ok (.aload_n 0, 1) := by decide +kernel
theorem dX6_tick_7 : decode cX6_tick 7 = .ok (.getfield 7, 3) := by decide +kernel
theorem dX6_tick_10 : decode cX6_tick 10 = .ok (.iconst 0, 1) := by decide +kernel
theorem dX6_tick_11 : decode cX6_tick 11 = .ok (.dup2, 1) := by decide +kernel
theorem dX6_tick_12 : decode cX6_tick 12 = .ok (.laload, 1) := by decide +kernel
theorem dX6_tick_13 : decode cX6_tick 13 = .ok (.lconst 1, 1) := by decide +kernel
theorem dX6_tick_14 : decode cX6_tick 14 = .ok (.ladd, 1) := by decide +kernel
theorem dX6_tick_15 : decode cX6_tick 15 = .ok (.lastore, 1) := by decide +kernel
theorem dX6_tick_16 : decode cX6_tick 16 = .ok (.aload_n 0, 1) := by decide +kernel
theorem dX6_tick_17 : decode cX6_tick 17 = .ok (.getfield 7, 3) := by decide +kernel
theorem dX6_tick_20 : decode cX6_tick 20 = .ok (.bipush 8, 2) := by decide +kernel
theorem dX6_tick_22 : decode cX6_tick 22 = .ok (.laload, 1) := by decide +kernel
theorem dX6_tick_23 : decode cX6_tick 23 = .ok (.lconst 0, 1) := by decide +kernel
theorem dX6_tick_24 : decode cX6_tick 24 = .ok (.lcmp, 1) := by decide +kernel
theorem dX6_tick_25 : decode cX6_tick 25 = .ok (.ifCond .lt 41, 3) := by decide +kernel
theorem dX6_tick_28 : decode cX6_tick 28 = .ok (.aload_n 0, 1) := by decide +kernel
theorem dX6_tick_29 : decode cX6_tick 29 = .ok (.getfield 7, 3) := by decide +kernel
theorem dX6_tick_32 : decode cX6_tick 32 = .ok (.bipush 13, 2) := by decide +kernel
theorem dX6_tick_34 : decode cX6_tick 34 = .ok (.dup2, 1) := by decide +kernel
theorem dX6_tick_35 : decode cX6_tick 35 = .ok (.laload, 1) := by decide +kernel
theorem dX6_tick_36 : decode cX6_tick 36 = .ok (.lconst 1, 1) := by decide +kernel
theorem dX6_tick_37 : decode cX6_tick 37 = .ok (.ladd, 1) := by decide +kernel
theorem dX6_tick_38 : decode cX6_tick 38 = .ok (.lastore, 1) := by decide +kernel
theorem dX6_tick_39 : decode cX6_tick 39 = .ok (.aload_n 0, 1) := by decide +kernel
theorem dX6_tick_40 : decode cX6_tick 40 = .ok (.getfield 7, 3) := by decide +kernel
theorem dX6_tick_43 : decode cX6_tick 43 = .ok (.bipush 10, 2) := by decide +kernel
theorem dX6_tick_45 : decode cX6_tick 45 = .ok (.dup2, 1) := by decide +kernel
theorem dX6_tick_46 : decode cX6_tick 46 = .ok (.laload, 1) := by decide +kernel
theorem dX6_tick_47 : decode cX6_tick 47 = .ok (.lconst 1, 1) := by decide +kernel
theorem dX6_tick_48 : decode cX6_tick 48 = .ok (.lsub, 1) := by decide +kernel
theorem dX6_tick_49 : decode cX6_tick 49 = .ok (.lastore, 1) := by decide +kernel
theorem dX6_tick_50 : decode cX6_tick 50 = .ok (.aload_n 0, 1) := by decide +kernel
theorem dX6_tick_51 : decode cX6_tick 51 = .ok (.getfield 7, 3) := by decide +kernel
theorem dX6_tick_54 : decode cX6_tick 54 = .ok (.bipush 10, 2) := by decide +kernel
theorem dX6_tick_56 : decode cX6_tick 56 = .ok (.laload, 1) := by decide +kernel
theorem dX6_tick_57 : decode cX6_tick 57 = .ok (.lconst 0, 1) := by decide +kernel
theorem dX6_tick_58 : decode cX6_tick 58 = .ok (.lcmp, 1) := by decide +kernel
theorem dX6_tick_59 : decode cX6_tick 59 = .ok (.ifCond .ne 7, 3) := by decide +kernel
theorem dX6_tick_62 : decode cX6_tick 62 = .ok (.aload_n 0, 1) := by decide +kernel
theorem dX6_tick_63 : decode cX6_tick 63 = .ok (.invokevirtual 178, 3) := by decide +kernel
theorem dX6_tick_66 : decode cX6_tick 66 = .ok (.aload_n 0, 1) := by decide +kernel
theorem dX6_tick_67 : decode cX6_tick 67 = .ok (.invokevirtual 181, 3) := by decide +kernel
theorem dX6_tick_70 : decode cX6_tick 70 = .ok (.iconst 0, 1) := by decide +kernel
theorem dX6_tick_71 : decode cX6_tick 71 = .ok (.istore_n 1, 1) := by decide +kernel
theorem dX6_tick_72 : decode cX6_tick 72 = .ok (.iload_n 1, 1) := by decide +kernel
theorem dX6_tick_73 : decode cX6_tick 73 = .ok (.i2l, 1) := by decide +kernel
theorem dX6_tick_74 : decode cX6_tick 74 = .ok (.aload_n 0, 1) := by decide +kernel
theorem dX6_tick_75 : decode cX6_tick 75 = .ok (.getfield 7, 3) := by decide +kernel
theorem dX6_tick_78 : decode cX6_tick 78 = .ok (.iconst 2, 1) := by decide +kernel
theorem dX6_tick_79 : decode cX6_tick 79 = .ok (.laload, 1) := by decide +kernel
theorem dX6_tick_80 : decode cX6_tick 80 = .ok (.lcmp, 1) := by decide +kernel
theorem dX6_tick_81 : decode cX6_tick 81 = .ok (.ifCond .ge 14, 3) := by decide +kernel
theorem dX6_tick_84 : decode cX6_tick 84 = .ok (.aload_n 0, 1) := by decide +kernel
theorem dX6_tick_85 : decode cX6_tick 85 = .ok (.iload_n 1, 1) := by decide +kernel
theorem dX6_tick_86 : decode cX6_tick 86 = .ok (.invokevirtual 184, 3) := by decide +kernel
theorem dX6_tick_89 : decode cX6_tick 89 = .ok (.iinc 1 1, 3) := by decide +kernel
theorem dX6_tick_92 : decode cX6_tick 92 = .ok (.goto (-20), 3) := by decide +kernel
theorem dX6_tick_95 : decode cX6_tick 95 = .ok (.aload_n 0, 1) := by decide +kernel
theorem dX6_tick_96 : decode cX6_tick 96 = .ok (.invokevirtual 187, 3) := by decide +kernel
theorem dX6_tick_99 : decode cX6_tick 99 = .ok (.aload_n 0, 1) := by decide +kernel
theorem dX6_tick_100 : decode cX6_tick 100 = .ok (.getfield 7, 3) := by decide +kernel
theorem dX6_tick_103 : decode cX6_tick 103 = .ok (.bipush 8, 2) := by decide +kernel
theorem dX6_tick_105 : decode cX6_tick 105 = .ok (.laload, 1) := by decide +kernel
theorem dX6_tick_106 : decode cX6_tick 106 = .ok (.lconst 0, 1) := by decide +kernel
theorem dX6_tick_107 : decode cX6_tick 107 = .ok (.lcmp, 1) := by decide +kernel
theorem dX6_tick_108 : decode cX6_tick 108 = .ok (.ifCond .ge 7, 3) := by decide +kernel
theorem dX6_tick_111 : decode cX6_tick 111 = .ok (.aload_n 0, 1) := by decide +kernel
theorem dX6_tick_112 : decode cX6_tick 112 = .ok (.invokevirtual 190, 3) := by decide +kernel
theorem dX6_tick_115 : decode cX6_tick 115 = .ok (.iconst 0, 1) := by decide +kernel
theorem dX6_tick_116 : decode cX6_tick 116 = .ok (.istore_n 1, 1) := by decide +kernel
theorem dX6_tick_117 : decode cX6_tick 117 = .ok (.iload_n 1, 1) := by decide +kernel
theorem dX6_tick_118 : decode cX6_tick 118 = .ok (.i2l, 1) := by decide +kernel
theorem dX6_tick_119 : decode cX6_tick 119 = .ok (.aload_n 0, 1) := by decide +kernel
theorem dX6_tick_120 : decode cX6_tick 120 = .ok (.getfield 7, 3) := by decide +kernel
theorem dX6_tick_123 : decode cX6_tick 123 = .ok (.iconst 2, 1) := by decide +kernel
theorem dX6_tick_124 : decode cX6_tick 124 = .ok (.laload, 1) := by decide +kernel
theorem dX6_tick_125 : decode cX6_tick 125 = .ok (.lcmp, 1) := by decide +kernel
theorem dX6_tick_126 : decode cX6_tick 126 = .ok (.ifCond .ge 51, 3) := by decide +kernel
theorem dX6_tick_129 : decode cX6_tick 129 = .ok (.aload_n 0, 1) := by decide +kernel
theorem dX6_tick_130 : decode cX6_tick 130 = .ok (.getfield 7, 3) := by decide +kernel
theorem dX6_tick_133 : decode cX6_tick 133 = .ok (.iload_n 1, 1) := by decide +kernel
theorem dX6_tick_134 : decode cX6_tick 134 = .ok (.bipush 16, 2) := by decide +kernel
theorem dX6_tick_136 : decode cX6_tick 136 = .ok (.invokestatic 40, 3) := by decide +kernel
theorem dX6_tick_139 : decode cX6_tick 139 = .ok (.aload_n 0, 1) := by decide +kernel
theorem dX6_tick_140 : decode cX6_tick 140 = .ok (.iload_n 1, 1) := by decide +kernel
theorem dX6_tick_141 : decode cX6_tick 141 = .ok (.invokevirtual 193, 3) := by decide +kernel
theorem dX6_tick_144 : decode cX6_tick 144 = .ok (.aload_n 0, 1) := by decide +kernel
theorem dX6_tick_145 : decode cX6_tick 145 = .ok (.iload_n 1, 1) := by decide +kernel
theorem dX6_tick_146 : decode cX6_tick 146 = .ok (.bipush 16, 2) := by decide +kernel
theorem dX6_tick_148 : decode cX6_tick 148 = .ok (.invokevirtual 53, 3) := by decide +kernel
theorem dX6_tick_151 : decode cX6_tick 151 = .ok (.lcmp, 1) := by decide +kernel
theorem dX6_tick_152 : decode cX6_tick 152 = .ok (.ifCond .le 11, 3) := by decide +kernel
theorem dX6_tick_155 : decode cX6_tick 155 = .ok (.aload_n 0, 1) := by decide +kernel
theorem dX6_tick_156 : decode cX6_tick 156 = .ok (.iload_n 1, 1) := by decide +kernel
theorem dX6_tick_157 : decode cX6_tick 157 = .ok (.invokevirtual 193, 3) := by decide +kernel
theorem dX6_tick_160 : decode cX6_tick 160 = .ok (.goto 10, 3) := by decide +kernel
theorem dX6_tick_163 : decode cX6_tick 163 = .ok (.aload_n 0, 1) := by decide +kernel
theorem dX6_tick_164 : decode cX6_tick 164 = .ok (.iload_n 1, 1) := by decide +kernel
theorem dX6_tick_165 : decode cX6_tick 165 = .ok (.bipush 16, 2) := by decide +kernel
theorem dX6_tick_167 : decode cX6_tick 167 = .ok (.invokevirtual 53, 3) := by decide +kernel
theorem dX6_tick_170 : decode cX6_tick 170 = .ok (.lastore, 1) := by decide +kernel
theorem dX6_tick_171 : decode cX6_tick 171 = .ok (.iinc 1 1, 3) := by decide +kernel
theorem dX6_tick_174 : decode cX6_tick 174 = .ok (.goto (-57), 3) := by decide +kernel
theorem dX6_tick_177 : decode cX6_tick 177 = .ok (.return_, 1) := by decide +kernel
theorem dX6_advance_0 : decode cX6_advance 0 = .ok (.iload_n 1, 1) := by decide +kernel
theorem dX6_advance_1 : decode cX6_advance 1 = .ok (.i2l, 1) := by decide +kernel
theorem dX6_advance_2 : decode cX6_advance 2 = .ok (.lconst 1, 1) := by decide +kernel
theorem dX6_advance_3 : decode cX6_advance 3 = .ok (.ldc2_w 83, 3) := by decide +kernel
theorem dX6_advance_6 : decode cX6_advance 6 = .ok (.invokestatic 36, 3) := by decide +kernel
theorem dX6_advance_9 : decode cX6_advance 9 = .ok (.ifCond .ne 6, 3) := by decide +kernel
theorem dX6_advance_12 : decode cX6_advance 12 = .ok (.bipush (-2), 2) := by decide +kernel
theorem dX6_advance_14 : decode cX6_advance 14 = .ok (.ireturn, 1) := by decide +kernel
theorem dX6_advance_15 : decode cX6_advance 15 = .ok (.aload_n 0, 1) := by decide +kernel
theorem dX6_advance_16 : decode cX6_advance 16 = .ok (.getfield 7, 3) := by decide +kernel
theorem dX6_advance_19 : decode cX6_advance 19 = .ok (.iconst 0, 1) := by decide +kernel
theorem dX6_advance_20 : decode cX6_advance 20 = .ok (.laload, 1) := by decide +kernel
theorem dX6_advance_21 : decode cX6_advance 21 = .ok (.iload_n 1, 1) := by decide +kernel
theorem dX6_advance_22 : decode cX6_advance 22 = .ok (.i2l, 1) := by decide +kernel
theorem dX6_advance_23 : decode cX6_advance 23 = .ok (.ladd, 1) := by decide +kernel
theorem dX6_advance_24 : decode cX6_advance 24 = .ok (.ldc2_w 196, 3) := by decide +kernel
theorem dX6_advance_27 : decode cX6_advance 27 = .ok (.lcmp, 1) := by decide +kernel
theorem dX6_advance_28 : decode cX6_advance 28 = .ok (.ifCond .le 6, 3) := by decide +kernel
theorem dX6_advance_31 : decode cX6_advance 31 = .ok (.bipush (-5), 2) := by decide +kernel
theorem dX6_advance_33 : decode cX6_advance 33 = .ok (.ireturn, 1) := by decide +kernel
theorem dX6_advance_34 : decode cX6_advance 34 = .ok (.iconst 0, 1) := by decide +kernel
theorem dX6_advance_35 : decode cX6_advance 35 = .ok (.istore_n 2, 1) := by decide +kernel
theorem dX6_advance_36 : decode cX6_advance 36 = .ok (.iload_n 2, 1) := by decide +kernel
theorem dX6_advance_37 : decode cX6_advance 37 = .ok (.iload_n 1, 1) := by decide +kernel
theorem dX6_advance_38 : decode cX6_advance 38 = .ok (.if_icmp .ge 13, 3) := by decide +kernel
theorem dX6_advance_41 : decode cX6_advance 41 = .ok (.aload_n 0, 1) := by decide +kernel
theorem dX6_advance_42 : decode cX6_advance 42 = .ok (.invokevirtual 198, 3) := by decide +kernel
theorem dX6_advance_45 : decode cX6_advance 45 = .ok (.iinc 2 1, 3) := by decide +kernel
theorem dX6_advance_48 : decode cX6_advance 48 = .ok (.goto (-12), 3) := by decide +kernel
theorem dX6_advance_51 : decode cX6_advance 51 = .ok (.aload_n 0, 1) := by decide +kernel
theorem dX6_advance_52 : decode cX6_advance 52 = .ok (.getfield 7, 3) := by decide +kernel
theorem dX6_advance_55 : decode cX6_advance 55 = .ok (.iconst 0, 1) := by decide +kernel
theorem dX6_advance_56 : decode cX6_advance 56 = .ok (.laload, 1) := by decide +kernel
theorem dX6_advance_57 : decode cX6_advance 57 = .ok (.l2i, 1) := by decide +kernel
theorem dX6_advance_58 : decode cX6_advance 58 = .ok (.ireturn, 1) := by decide +kernel
theorem dX6_awaitDelivery_0 : decode cX6_awaitDelivery 0 = .ok (.iload_n 1, 1) := by decide +kernel
theorem dX6_awaitDelivery_1 : decode cX6_awaitDelivery 1 = .ok (.i2l, 1) := by decide +kernel
theorem dX6_awaitDelivery_2 : decode cX6_awaitDelivery 2 = .ok (.lconst 1, 1) := by decide +kernel
theorem dX6_awaitDelivery_3 : decode cX6_awaitDelivery 3 = .ok (.ldc2_w 83, 3) := by decide +kernel
theorem dX6_awaitDelivery_6 : decode cX6_awaitDelivery 6 = .ok (.invokestatic 36, 3) := by decide +kernel
theorem dX6_awaitDelivery_9 : decode cX6_awaitDelivery 9 = .ok (.ifCond .ne 6, 3) := by decide +kernel
theorem dX6_awaitDelivery_12 : decode cX6_awaitDelivery 12 = .ok (.bipush (-2), 2) := by decide +kernel
theorem dX6_awaitDelivery_14 : decode cX6_awaitDelivery 14 = .ok (.ireturn, 1) := by decide +kernel
theorem dX6_awaitDelivery_15 : decode cX6_awaitDelivery 15 = .ok (.aload_n 0, 1) := by decide +kernel
theorem dX6_awaitDelivery_16 : decode cX6_awaitDelivery 16 = .ok (.getfield 7, 3) := by decide +kernel
theorem dX6_awaitDelivery_19 : decode cX6_awaitDelivery 19 = .ok (.iconst 0, 1) := by decide +kernel
theorem dX6_awaitDelivery_20 : decode cX6_awaitDelivery 20 = .ok (.laload, 1) := by decide +kernel
theorem dX6_awaitDelivery_21 : decode cX6_awaitDelivery 21 = .ok (.iload_n 1, 1) := by decide +kernel
theorem dX6_awaitDelivery_22 : decode cX6_awaitDelivery 22 = .ok (.i2l, 1) := by decide +kernel
theorem dX6_awaitDelivery_23 : decode cX6_awaitDelivery 23 = .ok (.ladd, 1) := by decide +kernel
theorem dX6_awaitDelivery_24 : decode cX6_awaitDelivery 24 = .ok (.ldc2_w 196, 3) := by decide +kernel
theorem dX6_awaitDelivery_27 : decode cX6_awaitDelivery 27 = .ok (.lcmp, 1) := by decide +kernel
theorem dX6_awaitDelivery_28 : decode cX6_awaitDelivery 28 = .ok (.ifCond .le 6, 3) := by decide +kernel
theorem dX6_awaitDelivery_31 : decode cX6_awaitDelivery 31 = .ok (.bipush (-5), 2) := by decide +kernel
theorem dX6_awaitDelivery_33 : decode cX6_awaitDelivery 33 = .ok (.ireturn, 1) := by decide +kernel
theorem dX6_awaitDelivery_34 : decode cX6_awaitDelivery 34 = .ok (.aload_n 0, 1) := by decide +kernel
theorem dX6_awaitDelivery_35 : decode cX6_awaitDelivery 35 = .ok (.bipush (-6), 2) := by decide +kernel
theorem dX6_awaitDelivery_37 : decode cX6_awaitDelivery 37 = .ok (.putfield 154, 3) := by decide +kernel
theorem dX6_awaitDelivery_40 : decode cX6_awaitDelivery 40 = .ok (.iconst 0, 1) := by decide +kernel
theorem dX6_awaitDelivery_41 : decode cX6_awaitDelivery 41 = .ok (.istore_n 2, 1) := by decide +kernel
theorem dX6_awaitDelivery_42 : decode cX6_awaitDelivery 42 = .ok (.iload_n 2, 1) := by decide +kernel
theorem dX6_awaitDelivery_43 : decode cX6_awaitDelivery 43 = .ok (.iload_n 1, 1) := by decide +kernel
theorem dX6_awaitDelivery_44 : decode cX6_awaitDelivery 44 = .ok (.if_icmp .ge 20, 3) := by decide +kernel
theorem dX6_awaitDelivery_47 : decode cX6_awaitDelivery 47 = .ok (.aload_n 0, 1) := by decide +kernel
theorem dX6_awaitDelivery_48 : decode cX6_awaitDelivery 48 = .ok (.getfield 154, 3) := by decide +kernel
theorem dX6_awaitDelivery_51 : decode cX6_awaitDelivery 51 = .ok (.ifCond .ge 13, 3) := by decide +kernel
theorem dX6_awaitDelivery_54 : decode cX6_awaitDelivery 54 = .ok (.aload_n 0, 1) := by decide +kernel
theorem dX6_awaitDelivery_55 : decode cX6_awaitDelivery 55 = .ok (.invokevirtual 198, 3) := by decide +kernel
theorem dX6_awaitDelivery_58 : decode cX6_awaitDelivery 58 = .ok (.iinc 2 1, 3) := by decide +kernel
theorem dX6_awaitDelivery_61 : decode cX6_awaitDelivery 61 = .ok (.goto (-19), 3) := by decide +kernel
theorem dX6_awaitDelivery_64 : decode cX6_awaitDelivery 64 = .ok (.aload_n 0, 1) := by decide +kernel
theorem dX6_awaitDelivery_65 : decode cX6_awaitDelivery 65 = .ok (.getfield 154, 3) := by decide +kernel
theorem dX6_awaitDelivery_68 : decode cX6_awaitDelivery 68 = .ok (.ireturn, 1) := by decide +kernel
theorem dX6_restOf_0 : decode cX6_restOf 0 = .ok (.lconst 0, 1) := by decide +kernel
theorem dX6_restOf_1 : decode cX6_restOf 1 = .ok (.lstore_n 2, 1) := by decide +kernel
theorem dX6_restOf_2 : decode cX6_restOf 2 = .ok (.aload_n 0, 1) := by decide +kernel
theorem dX6_restOf_3 : decode cX6_restOf 3 = .ok (.invokevirtual 56, 3) := by decide +kernel
theorem dX6_restOf_6 : decode cX6_restOf 6 = .ok (.istore 4, 2) := by decide +kernel
theorem dX6_restOf_8 : decode cX6_restOf 8 = .ok (.iload 4, 2) := by decide +kernel
theorem dX6_restOf_10 : decode cX6_restOf 10 = .ok (.i2l, 1) := by decide +kernel
theorem dX6_restOf_11 : decode cX6_restOf 11 = .ok (.aload_n 0, 1) := by decide +kernel
theorem dX6_restOf_12 : decode cX6_restOf 12 = .ok (.getfield 7, 3) := by decide +kernel
theorem dX6_restOf_15 : decode cX6_restOf 15 = .ok (.bipush 7, 2) := by decide +kernel
theorem dX6_restOf_17 : decode cX6_restOf 17 = .ok (.laload, 1) := by decide +kernel
theorem dX6_restOf_18 : decode cX6_restOf 18 = .ok (.lcmp, 1) := by decide +kernel
theorem dX6_restOf_19 : decode cX6_restOf 19 = .ok (.ifCond .ge 53, 3) := by decide +kernel
theorem dX6_restOf_22 : decode cX6_restOf 22 = .ok (.lload_n 2, 1) := by decide +kernel
theorem dX6_restOf_23 : decode cX6_restOf 23 = .ok (.aload_n 0, 1) := by decide +kernel
theorem dX6_restOf_24 : decode cX6_restOf 24 = .ok (.iload 4, 2) := by decide +kernel
theorem dX6_restOf_26 : decode cX6_restOf 26 = .ok (.iconst 0, 1) := by decide +kernel
theorem dX6_restOf_27 : decode cX6_restOf 27 = .ok (.invokevirtual 49, 3) := by decide +kernel
theorem dX6_restOf_30 : decode cX6_restOf 30 = .ok (.iload_n 1, 1) := by decide +kernel
theorem dX6_restOf_31 : decode cX6_restOf 31 = .ok (.i2l, 1) := by decide +kernel
theorem dX6_restOf_32 : decode cX6_restOf 32 = .ok (.lcmp, 1) := by decide +kernel
theorem dX6_restOf_33 : decode cX6_restOf 33 = .ok (.ifCond .ne 30, 3) := by decide +kernel
theorem dX6_restOf_36 : decode cX6_restOf 36 = .ok (.aload_n 0, 1) := by decide +kernel
theorem dX6_restOf_37 : decode cX6_restOf 37 = .ok (.iload 4, 2) := by decide +kernel
theorem dX6_restOf_39 : decode cX6_restOf 39 = .ok (.invokevirtual 60, 3) := by decide +kernel
theorem dX6_restOf_42 : decode cX6_restOf 42 = .ok (.ifCond .eq 21, 3) := by decide +kernel
theorem dX6_restOf_45 : decode cX6_restOf 45 = .ok (.aload_n 0, 1) := by decide +kernel
theorem dX6_restOf_46 : decode cX6_restOf 46 = .ok (.iload 4, 2) := by decide +kernel
theorem dX6_restOf_48 : decode cX6_restOf 48 = .ok (.iconst 1, 1) := by decide +kernel
theorem dX6_restOf_49 : decode cX6_restOf 49 = .ok (.invokevirtual 49, 3) := by decide +kernel
theorem dX6_restOf_52 : decode cX6_restOf 52 = .ok (.aload_n 0, 1) := by decide +kernel
theorem dX6_restOf_53 : decode cX6_restOf 53 = .ok (.iload 4, 2) := by decide +kernel
theorem dX6_restOf_55 : decode cX6_restOf 55 = .ok (.iconst 5, 1) := by decide +kernel
theorem dX6_restOf_56 : decode cX6_restOf 56 = .ok (.invokevirtual 49, 3) := by decide +kernel
theorem dX6_restOf_59 : decode cX6_restOf 59 = .ok (.lsub, 1) := by decide +kernel
theorem dX6_restOf_60 : decode cX6_restOf 60 = .ok (.goto 4, 3) := by decide +kernel
theorem dX6_restOf_63 : decode cX6_restOf 63 = .ok (.lconst 0, 1) := by decide +kernel
theorem dX6_restOf_64 : decode cX6_restOf 64 = .ok (.ladd, 1) := by decide +kernel
theorem dX6_restOf_65 : decode cX6_restOf 65 = .ok (.lstore_n 2, 1) := by decide +kernel
theorem dX6_restOf_66 : decode cX6_restOf 66 = .ok (.iinc 4 1, 3) := by decide +kernel
theorem dX6_restOf_69 : decode cX6_restOf 69 = .ok (.goto (-61), 3) := by decide +kernel
theorem dX6_restOf_72 : decode cX6_restOf 72 = .ok (.lload_n 2, 1) := by decide +kernel
theorem dX6_restOf_73 : decode cX6_restOf 73 = .ok (.lreturn, 1) := by decide +kernel
theorem dX6_flow_0 : decode cX6_flow 0 = .ok (.aload_n 0, 1) := by decide +kernel
theorem dX6_flow_1 : decode cX6_flow 1 = .ok (.iload_n 1, 1) := by decide +kernel
theorem dX6_flow_2 : decode cX6_flow 2 = .ok (.invokevirtual 72, 3) := by decide +kernel
theorem dX6_flow_5 : decode cX6_flow 5 = .ok (.ifCond .ne 5, 3) := by decide +kernel
theorem dX6_flow_8 : decode cX6_flow 8 = .ok (.iconst (-1), 1) := by decide +kernel
theorem dX6_flow_9 : decode cX6_flow 9 = .ok (.ireturn, 1) := by decide +kernel
theorem dX6_flow_10 : decode cX6_flow 10 = .ok (.iload_n 2, 1) := by decide +kernel
theorem dX6_flow_11 : decode cX6_flow 11 = .ok (.i2l, 1) := by decide +kernel
theorem dX6_flow_12 : decode cX6_flow 12 = .ok (.lconst 0, 1) := by decide +kernel
theorem dX6_flow_13 : decode cX6_flow 13 = .ok (.ldc2_w 201, 3) := by decide +kernel
theorem dX6_flow_16 : decode cX6_flow 16 = .ok (.invokestatic 36, 3) := by decide +kernel
theorem dX6_flow_19 : decode cX6_flow 19 = .ok (.ifCond .ne 6, 3) := by decide +kernel
theorem dX6_flow_22 : decode cX6_flow 22 = .ok (.bipush (-2), 2) := by decide +kernel
theorem dX6_flow_24 : decode cX6_flow 24 = .ok (.ireturn, 1) := by decide +kernel
theorem dX6_flow_25 : decode cX6_flow 25 = .ok (.iload_n 2, 1) := by decide +kernel
theorem dX6_flow_26 : decode cX6_flow 26 = .ok (.tableswitch 138 5 14 #[54, 63, 69, 76, 85, 94, 103, 111, 120, 129], 54) := by decide +kernel
theorem dX6_flow_80 : decode cX6_flow 80 = .ok (.aload_n 0, 1) := by decide +kernel
theorem dX6_flow_81 : decode cX6_flow 81 = .ok (.iload_n 1, 1) := by decide +kernel
theorem dX6_flow_82 : decode cX6_flow 82 = .ok (.bipush 17, 2) := by decide +kernel
theorem dX6_flow_84 : decode cX6_flow 84 = .ok (.invokevirtual 53, 3) := by decide +kernel
theorem dX6_flow_87 : decode cX6_flow 87 = .ok (.l2i, 1) := by decide +kernel
theorem dX6_flow_88 : decode cX6_flow 88 = .ok (.ireturn, 1) := by decide +kernel
theorem dX6_flow_89 : decode cX6_flow 89 = .ok (.aload_n 0, 1) := by decide +kernel
theorem dX6_flow_90 : decode cX6_flow 90 = .ok (.iload_n 1, 1) := by decide +kernel
theorem dX6_flow_91 : decode cX6_flow 91 = .ok (.invokevirtual 166, 3) := by decide +kernel
theorem dX6_flow_94 : decode cX6_flow 94 = .ok (.ireturn, 1) := by decide +kernel
theorem dX6_flow_95 : decode cX6_flow 95 = .ok (.aload_n 0, 1) := by decide +kernel
theorem dX6_flow_96 : decode cX6_flow 96 = .ok (.iload_n 1, 1) := by decide +kernel
theorem dX6_flow_97 : decode cX6_flow 97 = .ok (.invokevirtual 203, 3) := by decide +kernel
theorem dX6_flow_100 : decode cX6_flow 100 = .ok (.l2i, 1) := by decide +kernel
theorem dX6_flow_101 : decode cX6_flow 101 = .ok (.ireturn, 1) := by decide +kernel
theorem dX6_flow_102 : decode cX6_flow 102 = .ok (.aload_n 0, 1) := by decide +kernel
theorem dX6_flow_103 : decode cX6_flow 103 = .ok (.iload_n 1, 1) := by decide +kernel
theorem dX6_flow_104 : decode cX6_flow 104 = .ok (.bipush 6, 2) := by decide +kernel
theorem dX6_flow_106 : decode cX6_flow 106 = .ok (.invokevirtual 53, 3) := by decide +kernel
theorem dX6_flow_109 : decode cX6_flow 109 = .ok (.l2i, 1) := by decide +kernel
theorem dX6_flow_110 : decode cX6_flow 110 = .ok (.ireturn, 1) := by decide +kernel
theorem dX6_flow_111 : decode cX6_flow 111 = .ok (.aload_n 0, 1) := by decide +kernel
theorem dX6_flow_112 : decode cX6_flow 112 = .ok (.iload_n 1, 1) := by decide +kernel
theorem dX6_flow_113 : decode cX6_flow 113 = .ok (.bipush 7, 2) := by decide +kernel
theorem dX6_flow_115 : decode cX6_flow 115 = .ok (.invokevirtual 53, 3) := by decide +kernel
theorem dX6_flow_118 : decode cX6_flow 118 = .ok (.l2i, 1) := by decide +kernel
theorem dX6_flow_119 : decode cX6_flow 119 = .ok (.ireturn, 1) := by decide +kernel
theorem dX6_flow_120 : decode cX6_flow 120 = .ok (.aload_n 0, 1) := by decide +kernel
theorem dX6_flow_121 : decode cX6_flow 121 = .ok (.iload_n 1, 1) := by decide +kernel
theorem dX6_flow_122 : decode cX6_flow 122 = .ok (.bipush 8, 2) := by decide +kernel
theorem dX6_flow_124 : decode cX6_flow 124 = .ok (.invokevirtual 53, 3) := by decide +kernel
theorem dX6_flow_127 : decode cX6_flow 127 = .ok (.l2i, 1) := by decide +kernel
theorem dX6_flow_128 : decode cX6_flow 128 = .ok (.ireturn, 1) := by decide +kernel
theorem dX6_flow_129 : decode cX6_flow 129 = .ok (.aload_n 0, 1) := by decide +kernel
theorem dX6_flow_130 : decode cX6_flow 130 = .ok (.iload_n 1, 1) := by decide +kernel
theorem dX6_flow_131 : decode cX6_flow 131 = .ok (.iconst 5, 1) := by decide +kernel
theorem dX6_flow_132 : decode cX6_flow 132 = .ok (.invokevirtual 53, 3) := by decide +kernel
theorem dX6_flow_135 : decode cX6_flow 135 = .ok (.l2i, 1) := by decide +kernel
theorem dX6_flow_136 : decode cX6_flow 136 = .ok (.ireturn, 1) := by decide +kernel
theorem dX6_flow_137 : decode cX6_flow 137 = .ok (.aload_n 0, 1) := by decide +kernel
theorem dX6_flow_138 : decode cX6_flow 138 = .ok (.iload_n 1, 1) := by decide +kernel
theorem dX6_flow_139 : decode cX6_flow 139 = .ok (.bipush 9, 2) := by decide +kernel
theorem dX6_flow_141 : decode cX6_flow 141 = .ok (.invokevirtual 53, 3) := by decide +kernel
theorem dX6_flow_144 : decode cX6_flow 144 = .ok (.l2i, 1) := by decide +kernel
theorem dX6_flow_145 : decode cX6_flow 145 = .ok (.ireturn, 1) := by decide +kernel
theorem dX6_flow_146 : decode cX6_flow 146 = .ok (.aload_n 0, 1) := by decide +kernel
theorem dX6_flow_147 : decode cX6_flow 147 = .ok (.iload_n 1, 1) := by decide +kernel
theorem dX6_flow_148 : decode cX6_flow 148 = .ok (.bipush 10, 2) := by decide +kernel
theorem dX6_flow_150 : decode cX6_flow 150 = .ok (.invokevirtual 53, 3) := by decide +kernel
theorem dX6_flow_153 : decode cX6_flow 153 = .ok (.l2i, 1) := by decide +kernel
theorem dX6_flow_154 : decode cX6_flow 154 = .ok (.ireturn, 1) := by decide +kernel
theorem dX6_flow_155 : decode cX6_flow 155 = .ok (.aload_n 0, 1) := by decide +kernel
theorem dX6_flow_156 : decode cX6_flow 156 = .ok (.iload_n 1, 1) := by decide +kernel
theorem dX6_flow_157 : decode cX6_flow 157 = .ok (.bipush 11, 2) := by decide +kernel
theorem dX6_flow_159 : decode cX6_flow 159 = .ok (.invokevirtual 53, 3) := by decide +kernel
theorem dX6_flow_162 : decode cX6_flow 162 = .ok (.l2i, 1) := by decide +kernel
theorem dX6_flow_163 : decode cX6_flow 163 = .ok (.ireturn, 1) := by decide +kernel
theorem dX6_flow_164 : decode cX6_flow 164 = .ok (.aload_n 0, 1) := by decide +kernel
theorem dX6_flow_165 : decode cX6_flow 165 = .ok (.iload_n 1, 1) := by decide +kernel
theorem dX6_flow_166 : decode cX6_flow 166 = .ok (.iload_n 2, 1) := by decide +kernel
theorem dX6_flow_167 : decode cX6_flow 167 = .ok (.invokevirtual 53, 3) := by decide +kernel
theorem dX6_flow_170 : decode cX6_flow 170 = .ok (.l2i, 1) := by decide +kernel
theorem dX6_flow_171 : decode cX6_flow 171 = .ok (.ireturn, 1) := by decide +kernel
theorem dX6_amount_0 : decode cX6_amount 0 = .ok (.aload_n 0, 1) := by decide +kernel
theorem dX6_amount_1 : decode cX6_amount 1 = .ok (.iload_n 1, 1) := by decide +kernel
theorem dX6_amount_2 : decode cX6_amount 2 = .ok (.invokevirtual 72, 3) := by decide +kernel
theorem dX6_amount_5 : decode cX6_amount 5 = .ok (.ifCond .ne 7, 3) := by decide +kernel
theorem dX6_amount_8 : decode cX6_amount 8 = .ok (.ldc2_w 108, 3) := by decide +kernel
theorem dX6_amount_11 : decode cX6_amount 11 = .ok (.lreturn, 1) := by decide +kernel
theorem dX6_amount_12 : decode cX6_amount 12 = .ok (.aload_n 0, 1) := by decide +kernel
theorem dX6_amount_13 : decode cX6_amount 13 = .ok (.iload_n 1, 1) := by decide +kernel
theorem dX6_amount_14 : decode cX6_amount 14 = .ok (.invokevirtual 169, 3) := by decide +kernel
theorem dX6_amount_17 : decode cX6_amount 17 = .ok (.aload_n 0, 1) := by decide +kernel
theorem dX6_amount_18 : decode cX6_amount 18 = .ok (.getfield 7, 3) := by decide +kernel
theorem dX6_amount_21 : decode cX6_amount 21 = .ok (.iconst 1, 1) := by decide +kernel
theorem dX6_amount_22 : decode cX6_amount 22 = .ok (.laload, 1) := by decide +kernel
theorem dX6_amount_23 : decode cX6_amount 23 = .ok (.lsub, 1) := by decide +kernel
theorem dX6_amount_24 : decode cX6_amount 24 = .ok (.lstore_n 3, 1) := by decide +kernel
theorem dX6_amount_25 : decode cX6_amount 25 = .ok (.iload_n 2, 1) := by decide +kernel
theorem dX6_amount_26 : decode cX6_amount 26 = .ok (.tableswitch 110 0 7 #[46, 54, 60, 72, 80, 88, 96, 102], 46) := by decide +kernel
theorem dX6_amount_72 : decode cX6_amount 72 = .ok (.aload_n 0, 1) := by decide +kernel
theorem dX6_amount_73 : decode cX6_amount 73 = .ok (.iload_n 1, 1) := by decide +kernel
theorem dX6_amount_74 : decode cX6_amount 74 = .ok (.bipush 12, 2) := by decide +kernel
theorem dX6_amount_76 : decode cX6_amount 76 = .ok (.invokevirtual 53, 3) := by decide +kernel
theorem dX6_amount_79 : decode cX6_amount 79 = .ok (.lreturn, 1) := by decide +kernel
theorem dX6_amount_80 : decode cX6_amount 80 = .ok (.aload_n 0, 1) := by decide +kernel
theorem dX6_amount_81 : decode cX6_amount 81 = .ok (.iload_n 1, 1) := by decide +kernel
theorem dX6_amount_82 : decode cX6_amount 82 = .ok (.invokevirtual 169, 3) := by decide +kernel
theorem dX6_amount_85 : decode cX6_amount 85 = .ok (.lreturn, 1) := by decide +kernel
theorem dX6_amount_86 : decode cX6_amount 86 = .ok (.lload_n 3, 1) := by decide +kernel
theorem dX6_amount_87 : decode cX6_amount 87 = .ok (.lconst 0, 1) := by decide +kernel
theorem dX6_amount_88 : decode cX6_amount 88 = .ok (.lcmp, 1) := by decide +kernel
theorem dX6_amount_89 : decode cX6_amount 89 = .ok (.ifCond .le 7, 3) := by decide +kernel
theorem dX6_amount_92 : decode cX6_amount 92 = .ok (.lload_n 3, 1) := by decide +kernel
theorem dX6_amount_93 : decode cX6_amount 93 = .ok (.goto 4, 3) := by decide +kernel
theorem dX6_amount_96 : decode cX6_amount 96 = .ok (.lconst 0, 1) := by decide +kernel
theorem dX6_amount_97 : decode cX6_amount 97 = .ok (.lreturn, 1) := by decide +kernel
theorem dX6_amount_98 : decode cX6_amount 98 = .ok (.aload_n 0, 1) := by decide +kernel
theorem dX6_amount_99 : decode cX6_amount 99 = .ok (.iload_n 1, 1) := by decide +kernel
theorem dX6_amount_100 : decode cX6_amount 100 = .ok (.bipush 13, 2) := by decide +kernel
theorem dX6_amount_102 : decode cX6_amount 102 = .ok (.invokevirtual 53, 3) := by decide +kernel
theorem dX6_amount_105 : decode cX6_amount 105 = .ok (.lreturn, 1) := by decide +kernel
theorem dX6_amount_106 : decode cX6_amount 106 = .ok (.aload_n 0, 1) := by decide +kernel
theorem dX6_amount_107 : decode cX6_amount 107 = .ok (.iload_n 1, 1) := by decide +kernel
theorem dX6_amount_108 : decode cX6_amount 108 = .ok (.bipush 14, 2) := by decide +kernel
theorem dX6_amount_110 : decode cX6_amount 110 = .ok (.invokevirtual 53, 3) := by decide +kernel
theorem dX6_amount_113 : decode cX6_amount 113 = .ok (.lreturn, 1) := by decide +kernel
theorem dX6_amount_114 : decode cX6_amount 114 = .ok (.aload_n 0, 1) := by decide +kernel
theorem dX6_amount_115 : decode cX6_amount 115 = .ok (.iload_n 1, 1) := by decide +kernel
theorem dX6_amount_116 : decode cX6_amount 116 = .ok (.bipush 15, 2) := by decide +kernel
theorem dX6_amount_118 : decode cX6_amount 118 = .ok (.invokevirtual 53, 3) := by decide +kernel
theorem dX6_amount_121 : decode cX6_amount 121 = .ok (.lreturn, 1) := by decide +kernel
theorem dX6_amount_122 : decode cX6_amount 122 = .ok (.aload_n 0, 1) := by decide +kernel
theorem dX6_amount_123 : decode cX6_amount 123 = .ok (.iload_n 1, 1) := by decide +kernel
theorem dX6_amount_124 : decode cX6_amount 124 = .ok (.invokevirtual 193, 3) := by decide +kernel
theorem dX6_amount_127 : decode cX6_amount 127 = .ok (.lreturn, 1) := by decide +kernel
theorem dX6_amount_128 : decode cX6_amount 128 = .ok (.aload_n 0, 1) := by decide +kernel
theorem dX6_amount_129 : decode cX6_amount 129 = .ok (.iload_n 1, 1) := by decide +kernel
theorem dX6_amount_130 : decode cX6_amount 130 = .ok (.bipush 16, 2) := by decide +kernel
theorem dX6_amount_132 : decode cX6_amount 132 = .ok (.invokevirtual 53, 3) := by decide +kernel
theorem dX6_amount_135 : decode cX6_amount 135 = .ok (.lreturn, 1) := by decide +kernel
theorem dX6_amount_136 : decode cX6_amount 136 = .ok (.ldc2_w 206, 3) := by decide +kernel
theorem dX6_amount_139 : decode cX6_amount 139 = .ok (.lreturn, 1) := by decide +kernel
theorem dX6_virtualTime_0 : decode cX6_virtualTime 0 = .ok (.aload_n 0, 1) := by decide +kernel
theorem dX6_virtualTime_1 : decode cX6_virtualTime 1 = .ok (.getfield 7, 3) := by decide +kernel
theorem dX6_virtualTime_4 : decode cX6_virtualTime 4 = .ok (.iconst 1, 1) := by decide +kernel
theorem dX6_virtualTime_5 : decode cX6_virtualTime 5 = .ok (.laload, 1) := by decide +kernel
theorem dX6_virtualTime_6 : decode cX6_virtualTime 6 = .ok (.lreturn, 1) := by decide +kernel
theorem dX6_link_0 : decode cX6_link 0 = .ok (.iload_n 1, 1) := by decide +kernel
theorem dX6_link_1 : decode cX6_link 1 = .ok (.tableswitch 220 0 16 #[83, 91, 91, 91, 91, 103, 111, 120, 129, 138, 147, 156, 166, 175, 184, 189, 198], 83) := by decide +kernel
theorem dX6_link_84 : decode cX6_link 84 = .ok (.aload_n 0, 1) := by decide +kernel
theorem dX6_link_85 : decode cX6_link 85 = .ok (.getfield 7, 3) := by decide +kernel
theorem dX6_link_88 : decode cX6_link 88 = .ok (.iconst 0, 1) := by decide +kernel
theorem dX6_link_89 : decode cX6_link 89 = .ok (.laload, 1) := by decide +kernel
theorem dX6_link_90 : decode cX6_link 90 = .ok (.l2i, 1) := by decide +kernel
theorem dX6_link_91 : decode cX6_link 91 = .ok (.ireturn, 1) := by decide +kernel
theorem dX6_link_92 : decode cX6_link 92 = .ok (.aload_n 0, 1) := by decide +kernel
theorem dX6_link_93 : decode cX6_link 93 = .ok (.getfield 7, 3) := by decide +kernel
theorem dX6_link_96 : decode cX6_link 96 = .ok (.iconst 3, 1) := by decide +kernel
theorem dX6_link_97 : decode cX6_link 97 = .ok (.iload_n 1, 1) := by decide +kernel
theorem dX6_link_98 : decode cX6_link 98 = .ok (.iadd, 1) := by decide +kernel
theorem dX6_link_99 : decode cX6_link 99 = .ok (.iconst 1, 1) := by decide +kernel
theorem dX6_link_100 : decode cX6_link 100 = .ok (.isub, 1) := by decide +kernel
theorem dX6_link_101 : decode cX6_link 101 = .ok (.laload, 1) := by decide +kernel
theorem dX6_link_102 : decode cX6_link 102 = .ok (.l2i, 1) := by decide +kernel
theorem dX6_link_103 : decode cX6_link 103 = .ok (.ireturn, 1) := by decide +kernel
theorem dX6_link_104 : decode cX6_link 104 = .ok (.aload_n 0, 1) := by decide +kernel
theorem dX6_link_105 : decode cX6_link 105 = .ok (.getfield 7, 3) := by decide +kernel
theorem dX6_link_108 : decode cX6_link 108 = .ok (.iconst 2, 1) := by decide +kernel
theorem dX6_link_109 : decode cX6_link 109 = .ok (.laload, 1) := by decide +kernel
theorem dX6_link_110 : decode cX6_link 110 = .ok (.l2i, 1) := by decide +kernel
theorem dX6_link_111 : decode cX6_link 111 = .ok (.ireturn, 1) := by decide +kernel
theorem dX6_link_112 : decode cX6_link 112 = .ok (.aload_n 0, 1) := by decide +kernel
theorem dX6_link_113 : decode cX6_link 113 = .ok (.getfield 7, 3) := by decide +kernel
theorem dX6_link_116 : decode cX6_link 116 = .ok (.bipush 7, 2) := by decide +kernel
theorem dX6_link_118 : decode cX6_link 118 = .ok (.laload, 1) := by decide +kernel
theorem dX6_link_119 : decode cX6_link 119 = .ok (.l2i, 1) := by decide +kernel
theorem dX6_link_120 : decode cX6_link 120 = .ok (.ireturn, 1) := by decide +kernel
theorem dX6_link_121 : decode cX6_link 121 = .ok (.aload_n 0, 1) := by decide +kernel
theorem dX6_link_122 : decode cX6_link 122 = .ok (.getfield 7, 3) := by decide +kernel
theorem dX6_link_125 : decode cX6_link 125 = .ok (.bipush 8, 2) := by decide +kernel
theorem dX6_link_127 : decode cX6_link 127 = .ok (.laload, 1) := by decide +kernel
theorem dX6_link_128 : decode cX6_link 128 = .ok (.l2i, 1) := by decide +kernel
theorem dX6_link_129 : decode cX6_link 129 = .ok (.ireturn, 1) := by decide +kernel
theorem dX6_link_130 : decode cX6_link 130 = .ok (.aload_n 0, 1) := by decide +kernel
theorem dX6_link_131 : decode cX6_link 131 = .ok (.getfield 7, 3) := by decide +kernel
theorem dX6_link_134 : decode cX6_link 134 = .ok (.bipush 9, 2) := by decide +kernel
theorem dX6_link_136 : decode cX6_link 136 = .ok (.laload, 1) := by decide +kernel
theorem dX6_link_137 : decode cX6_link 137 = .ok (.l2i, 1) := by decide +kernel
theorem dX6_link_138 : decode cX6_link 138 = .ok (.ireturn, 1) := by decide +kernel
theorem dX6_link_139 : decode cX6_link 139 = .ok (.aload_n 0, 1) := by decide +kernel
theorem dX6_link_140 : decode cX6_link 140 = .ok (.getfield 7, 3) := by decide +kernel
theorem dX6_link_143 : decode cX6_link 143 = .ok (.bipush 10, 2) := by decide +kernel
theorem dX6_link_145 : decode cX6_link 145 = .ok (.laload, 1) := by decide +kernel
theorem dX6_link_146 : decode cX6_link 146 = .ok (.l2i, 1) := by decide +kernel
theorem dX6_link_147 : decode cX6_link 147 = .ok (.ireturn, 1) := by decide +kernel
theorem dX6_link_148 : decode cX6_link 148 = .ok (.aload_n 0, 1) := by decide +kernel
theorem dX6_link_149 : decode cX6_link 149 = .ok (.getfield 7, 3) := by decide +kernel
theorem dX6_link_152 : decode cX6_link 152 = .ok (.bipush 11, 2) := by decide +kernel
theorem dX6_link_154 : decode cX6_link 154 = .ok (.laload, 1) := by decide +kernel
theorem dX6_link_155 : decode cX6_link 155 = .ok (.l2i, 1) := by decide +kernel
theorem dX6_link_156 : decode cX6_link 156 = .ok (.ireturn, 1) := by decide +kernel
theorem dX6_link_157 : decode cX6_link 157 = .ok (.aload_n 0, 1) := by decide +kernel
theorem dX6_link_158 : decode cX6_link 158 = .ok (.getfield 7, 3) := by decide +kernel
theorem dX6_link_161 : decode cX6_link 161 = .ok (.sipush 1825, 3) := by decide +kernel
theorem dX6_link_164 : decode cX6_link 164 = .ok (.laload, 1) := by decide +kernel
theorem dX6_link_165 : decode cX6_link 165 = .ok (.l2i, 1) := by decide +kernel
theorem dX6_link_166 : decode cX6_link 166 = .ok (.ireturn, 1) := by decide +kernel
theorem dX6_link_167 : decode cX6_link 167 = .ok (.aload_n 0, 1) := by decide +kernel
theorem dX6_link_168 : decode cX6_link 168 = .ok (.getfield 7, 3) := by decide +kernel
theorem dX6_link_171 : decode cX6_link 171 = .ok (.bipush 13, 2) := by decide +kernel
theorem dX6_link_173 : decode cX6_link 173 = .ok (.laload, 1) := by decide +kernel
theorem dX6_link_174 : decode cX6_link 174 = .ok (.l2i, 1) := by decide +kernel
theorem dX6_link_175 : decode cX6_link 175 = .ok (.ireturn, 1) := by decide +kernel
theorem dX6_link_176 : decode cX6_link 176 = .ok (.aload_n 0, 1) := by decide +kernel
theorem dX6_link_177 : decode cX6_link 177 = .ok (.getfield 7, 3) := by decide +kernel
theorem dX6_link_180 : decode cX6_link 180 = .ok (.bipush 14, 2) := by decide +kernel
theorem dX6_link_182 : decode cX6_link 182 = .ok (.laload, 1) := by decide +kernel
theorem dX6_link_183 : decode cX6_link 183 = .ok (.l2i, 1) := by decide +kernel
theorem dX6_link_184 : decode cX6_link 184 = .ok (.ireturn, 1) := by decide +kernel
theorem dX6_link_185 : decode cX6_link 185 = .ok (.aload_n 0, 1) := by decide +kernel
theorem dX6_link_186 : decode cX6_link 186 = .ok (.invokevirtual 175, 3) := by decide +kernel
theorem dX6_link_189 : decode cX6_link 189 = .ok (.ireturn, 1) := by decide +kernel
theorem dX6_link_190 : decode cX6_link 190 = .ok (.aload_n 0, 1) := by decide +kernel
theorem dX6_link_191 : decode cX6_link 191 = .ok (.getfield 7, 3) := by decide +kernel
theorem dX6_link_194 : decode cX6_link 194 = .ok (.bipush 15, 2) := by decide +kernel
theorem dX6_link_196 : decode cX6_link 196 = .ok (.laload, 1) := by decide +kernel
theorem dX6_link_197 : decode cX6_link 197 = .ok (.l2i, 1) := by decide +kernel
theorem dX6_link_198 : decode cX6_link 198 = .ok (.ireturn, 1) := by decide +kernel
theorem dX6_link_199 : decode cX6_link 199 = .ok (.aload_n 0, 1) := by decide +kernel
theorem dX6_link_200 : decode cX6_link 200 = .ok (.getfield 7, 3) := by decide +kernel
theorem dX6_link_203 : decode cX6_link 203 = .ok (.bipush 7, 2) := by decide +kernel
theorem dX6_link_205 : decode cX6_link 205 = .ok (.laload, 1) := by decide +kernel
theorem dX6_link_206 : decode cX6_link 206 = .ok (.lconst 0, 1) := by decide +kernel
theorem dX6_link_207 : decode cX6_link 207 = .ok (.lcmp, 1) := by decide +kernel
theorem dX6_link_208 : decode cX6_link 208 = .ok (.ifCond .le 10, 3) := by decide +kernel
theorem dX6_link_211 : decode cX6_link 211 = .ok (.aload_n 0, 1) := by decide +kernel
theorem dX6_link_212 : decode cX6_link 212 = .ok (.invokevirtual 56, 3) := by decide +kernel
theorem dX6_link_215 : decode cX6_link 215 = .ok (.goto 5, 3) := by decide +kernel
theorem dX6_link_218 : decode cX6_link 218 = .ok (.bipush (-6), 2) := by decide +kernel
theorem dX6_link_220 : decode cX6_link 220 = .ok (.ireturn, 1) := by decide +kernel
theorem dX6_link_221 : decode cX6_link 221 = .ok (.bipush (-2), 2) := by decide +kernel
theorem dX6_link_223 : decode cX6_link 223 = .ok (.ireturn, 1) := by decide +kernel
theorem dX6_piece_0 : decode cX6_piece 0 = .ok (.iload_n 2, 1) := by decide +kernel
theorem dX6_piece_1 : decode cX6_piece 1 = .ok (.i2l, 1) := by decide +kernel
theorem dX6_piece_2 : decode cX6_piece 2 = .ok (.lconst 0, 1) := by decide +kernel
theorem dX6_piece_3 : decode cX6_piece 3 = .ok (.ldc2_w 97, 3) := by decide +kernel
theorem dX6_piece_6 : decode cX6_piece 6 = .ok (.invokestatic 36, 3) := by decide +kernel
theorem dX6_piece_9 : decode cX6_piece 9 = .ok (.ifCond .ne 6, 3) := by decide +kernel
theorem dX6_piece_12 : decode cX6_piece 12 = .ok (.bipush (-2), 2) := by decide +kernel
theorem dX6_piece_14 : decode cX6_piece 14 = .ok (.ireturn, 1) := by decide +kernel
theorem dX6_piece_15 : decode cX6_piece 15 = .ok (.iload_n 1, 1) := by decide +kernel
theorem dX6_piece_16 : decode cX6_piece 16 = .ok (.i2l, 1) := by decide +kernel
theorem dX6_piece_17 : decode cX6_piece 17 = .ok (.lconst 0, 1) := by decide +kernel
theorem dX6_piece_18 : decode cX6_piece 18 = .ok (.aload_n 0, 1) := by decide +kernel
theorem dX6_piece_19 : decode cX6_piece 19 = .ok (.getfield 7, 3) := by decide +kernel
theorem dX6_piece_22 : decode cX6_piece 22 = .ok (.bipush 15, 2) := by decide +kernel
theorem dX6_piece_24 : decode cX6_piece 24 = .ok (.laload, 1) := by decide +kernel
theorem dX6_piece_25 : decode cX6_piece 25 = .ok (.lconst 1, 1) := by decide +kernel
theorem dX6_piece_26 : decode cX6_piece 26 = .ok (.lsub, 1) := by decide +kernel
theorem dX6_piece_27 : decode cX6_piece 27 = .ok (.invokestatic 36, 3) := by decide +kernel
theorem dX6_piece_30 : decode cX6_piece 30 = .ok (.ifCond .eq 24, 3) := by decide +kernel
theorem dX6_piece_33 : decode cX6_piece 33 = .ok (.iload_n 1, 1) := by decide +kernel
theorem dX6_piece_34 : decode cX6_piece 34 = .ok (.i2l, 1) := by decide +kernel
theorem dX6_piece_35 : decode cX6_piece 35 = .ok (.aload_n 0, 1) := by decide +kernel
theorem dX6_piece_36 : decode cX6_piece 36 = .ok (.getfield 7, 3) := by decide +kernel
theorem dX6_piece_39 : decode cX6_piece 39 = .ok (.bipush 15, 2) := by decide +kernel
theorem dX6_piece_41 : decode cX6_piece 41 = .ok (.laload, 1) := by decide +kernel
theorem dX6_piece_42 : decode cX6_piece 42 = .ok (.ldc2_w 157, 3) := by decide +kernel
theorem dX6_piece_45 : decode cX6_piece 45 = .ok (.lsub, 1) := by decide +kernel
theorem dX6_piece_46 : decode cX6_piece 46 = .ok (.lcmp, 1) := by decide +kernel
theorem dX6_piece_47 : decode cX6_piece 47 = .ok (.ifCond .lt 7, 3) := by decide +kernel
theorem dX6_piece_50 : decode cX6_piece 50 = .ok (.iconst 1, 1) := by decide +kernel
theorem dX6_piece_51 : decode cX6_piece 51 = .ok (.goto 4, 3) := by decide +kernel
theorem dX6_piece_54 : decode cX6_piece 54 = .ok (.iconst 0, 1) := by decide +kernel
theorem dX6_piece_55 : decode cX6_piece 55 = .ok (.istore_n 3, 1) := by decide +kernel
theorem dX6_piece_56 : decode cX6_piece 56 = .ok (.iload_n 3, 1) := by decide +kernel
theorem dX6_piece_57 : decode cX6_piece 57 = .ok (.ifCond .eq 24, 3) := by decide +kernel
theorem dX6_piece_60 : decode cX6_piece 60 = .ok (.aload_n 0, 1) := by decide +kernel
theorem dX6_piece_61 : decode cX6_piece 61 = .ok (.getfield 7, 3) := by decide +kernel
theorem dX6_piece_64 : decode cX6_piece 64 = .ok (.sipush 1445, 3) := by decide +kernel
theorem dX6_piece_67 : decode cX6_piece 67 = .ok (.iconst 5, 1) := by decide +kernel
theorem dX6_piece_68 : decode cX6_piece 68 = .ok (.iload_n 1, 1) := by decide +kernel
theorem dX6_piece_69 : decode cX6_piece 69 = .ok (.bipush 60, 2) := by decide +kernel
theorem dX6_piece_71 : decode cX6_piece 71 = .ok (.irem, 1) := by decide +kernel
theorem dX6_piece_72 : decode cX6_piece 72 = .ok (.imul, 1) := by decide +kernel
theorem dX6_piece_73 : decode cX6_piece 73 = .ok (.iadd, 1) := by decide +kernel
theorem dX6_piece_74 : decode cX6_piece 74 = .ok (.iload_n 2, 1) := by decide +kernel
theorem dX6_piece_75 : decode cX6_piece 75 = .ok (.iadd, 1) := by decide +kernel
theorem dX6_piece_76 : decode cX6_piece 76 = .ok (.laload, 1) := by decide +kernel
theorem dX6_piece_77 : decode cX6_piece 77 = .ok (.l2i, 1) := by decide +kernel
theorem dX6_piece_78 : decode cX6_piece 78 = .ok (.goto 5, 3) := by decide +kernel
theorem dX6_piece_81 : decode cX6_piece 81 = .ok (.bipush (-6), 2) := by decide +kernel
theorem dX6_piece_83 : decode cX6_piece 83 = .ok (.ireturn, 1) := by decide +kernel
theorem dX6_apart_0 : decode cX6_apart 0 = .ok (.aload_n 0, 1) := by decide +kernel
theorem dX6_apart_1 : decode cX6_apart 1 = .ok (.iload_n 1, 1) := by decide +kernel
theorem dX6_apart_2 : decode cX6_apart 2 = .ok (.invokevirtual 72, 3) := by decide +kernel
theorem dX6_apart_5 : decode cX6_apart 5 = .ok (.ifCond .eq 11, 3) := by decide +kernel
theorem dX6_apart_8 : decode cX6_apart 8 = .ok (.aload_n 0, 1) := by decide +kernel
theorem dX6_apart_9 : decode cX6_apart 9 = .ok (.iload_n 2, 1) := by decide +kernel
theorem dX6_apart_10 : decode cX6_apart 10 = .ok (.invokevirtual 72, 3) := by decide +kernel
theorem dX6_apart_13 : decode cX6_apart 13 = .ok (.ifCond .ne 7, 3) := by decide +kernel
theorem dX6_apart_16 : decode cX6_apart 16 = .ok (.ldc2_w 108, 3) := by decide +kernel
theorem dX6_apart_19 : decode cX6_apart 19 = .ok (.lreturn, 1) := by decide +kernel
theorem dX6_apart_20 : decode cX6_apart 20 = .ok (.aload_n 0, 1) := by decide +kernel
theorem dX6_apart_21 : decode cX6_apart 21 = .ok (.iload_n 1, 1) := by decide +kernel
theorem dX6_apart_22 : decode cX6_apart 22 = .ok (.bipush 6, 2) := by decide +kernel
theorem dX6_apart_24 : decode cX6_apart 24 = .ok (.invokevirtual 53, 3) := by decide +kernel
theorem dX6_apart_27 : decode cX6_apart 27 = .ok (.ldc2_w 81, 3) := by decide +kernel
theorem dX6_apart_30 : decode cX6_apart 30 = .ok (.lmul, 1) := by decide +kernel
theorem dX6_apart_31 : decode cX6_apart 31 = .ok (.aload_n 0, 1) := by decide +kernel
theorem dX6_apart_32 : decode cX6_apart 32 = .ok (.iload_n 1, 1) := by decide +kernel
theorem dX6_apart_33 : decode cX6_apart 33 = .ok (.iconst 0, 1) := by decide +kernel
theorem dX6_apart_34 : decode cX6_apart 34 = .ok (.invokevirtual 53, 3) := by decide +kernel
theorem dX6_apart_37 : decode cX6_apart 37 = .ok (.ldiv, 1) := by decide +kernel
theorem dX6_apart_38 : decode cX6_apart 38 = .ok (.aload_n 0, 1) := by decide +kernel
theorem dX6_apart_39 : decode cX6_apart 39 = .ok (.iload_n 2, 1) := by decide +kernel
theorem dX6_apart_40 : decode cX6_apart 40 = .ok (.bipush 6, 2) := by decide +kernel
theorem dX6_apart_42 : decode cX6_apart 42 = .ok (.invokevirtual 53, 3) := by decide +kernel
theorem dX6_apart_45 : decode cX6_apart 45 = .ok (.ldc2_w 81, 3) := by decide +kernel
theorem dX6_apart_48 : decode cX6_apart 48 = .ok (.lmul, 1) := by decide +kernel
theorem dX6_apart_49 : decode cX6_apart 49 = .ok (.aload_n 0, 1) := by decide +kernel
theorem dX6_apart_50 : decode cX6_apart 50 = .ok (.iload_n 2, 1) := by decide +kernel
theorem dX6_apart_51 : decode cX6_apart 51 = .ok (.iconst 0, 1) := by decide +kernel
theorem dX6_apart_52 : decode cX6_apart 52 = .ok (.invokevirtual 53, 3) := by decide +kernel
theorem dX6_apart_55 : decode cX6_apart 55 = .ok (.ldiv, 1) := by decide +kernel
theorem dX6_apart_56 : decode cX6_apart 56 = .ok (.lsub, 1) := by decide +kernel
theorem dX6_apart_57 : decode cX6_apart 57 = .ok (.lstore_n 3, 1) := by decide +kernel
theorem dX6_apart_58 : decode cX6_apart 58 = .ok (.lload_n 3, 1) := by decide +kernel
theorem dX6_apart_59 : decode cX6_apart 59 = .ok (.lconst 0, 1) := by decide +kernel
theorem dX6_apart_60 : decode cX6_apart 60 = .ok (.lcmp, 1) := by decide +kernel
theorem dX6_apart_61 : decode cX6_apart 61 = .ok (.ifCond .ge 8, 3) := by decide +kernel
theorem dX6_apart_64 : decode cX6_apart 64 = .ok (.lload_n 3, 1) := by decide +kernel
theorem dX6_apart_65 : decode cX6_apart 65 = .ok (.lneg, 1) := by decide +kernel
theorem dX6_apart_66 : decode cX6_apart 66 = .ok (.goto 4, 3) := by decide +kernel
theorem dX6_apart_69 : decode cX6_apart 69 = .ok (.lload_n 3, 1) := by decide +kernel
theorem dX6_apart_70 : decode cX6_apart 70 = .ok (.lreturn, 1) := by decide +kernel
theorem dX6_putAside_0 : decode cX6_putAside 0 = .ok (.iconst 0, 1) := by decide +kernel
theorem dX6_putAside_1 : decode cX6_putAside 1 = .ok (.istore_n 1, 1) := by decide +kernel
theorem dX6_putAside_2 : decode cX6_putAside 2 = .ok (.iload_n 1, 1) := by decide +kernel
theorem dX6_putAside_3 : decode cX6_putAside 3 = .ok (.sipush 1826, 3) := by decide +kernel
theorem dX6_putAside_6 : decode cX6_putAside 6 = .ok (.if_icmp .ge 21, 3) := by decide +kernel
theorem dX6_putAside_9 : decode cX6_putAside 9 = .ok (.aload_n 0, 1) := by decide +kernel
theorem dX6_putAside_10 : decode cX6_putAside 10 = .ok (.getfield 13, 3) := by decide +kernel
theorem dX6_putAside_13 : decode cX6_putAside 13 = .ok (.iload_n 1, 1) := by decide +kernel
theorem dX6_putAside_14 : decode cX6_putAside 14 = .ok (.aload_n 0, 1) := by decide +kernel
theorem dX6_putAside_15 : decode cX6_putAside 15 = .ok (.getfield 7, 3) := by decide +kernel
theorem dX6_putAside_18 : decode cX6_putAside 18 = .ok (.iload_n 1, 1) := by decide +kernel
theorem dX6_putAside_19 : decode cX6_putAside 19 = .ok (.laload, 1) := by decide +kernel
theorem dX6_putAside_20 : decode cX6_putAside 20 = .ok (.lastore, 1) := by decide +kernel
theorem dX6_putAside_21 : decode cX6_putAside 21 = .ok (.iinc 1 1, 3) := by decide +kernel
theorem dX6_putAside_24 : decode cX6_putAside 24 = .ok (.goto (-22), 3) := by decide +kernel
theorem dX6_putAside_27 : decode cX6_putAside 27 = .ok (.return_, 1) := by decide +kernel
theorem dX6_putBack_0 : decode cX6_putBack 0 = .ok (.iconst 0, 1) := by decide +kernel
theorem dX6_putBack_1 : decode cX6_putBack 1 = .ok (.istore_n 1, 1) := by decide +kernel
theorem dX6_putBack_2 : decode cX6_putBack 2 = .ok (.iload_n 1, 1) := by decide +kernel
theorem dX6_putBack_3 : decode cX6_putBack 3 = .ok (.sipush 1826, 3) := by decide +kernel
theorem dX6_putBack_6 : decode cX6_putBack 6 = .ok (.if_icmp .ge 21, 3) := by decide +kernel
theorem dX6_putBack_9 : decode cX6_putBack 9 = .ok (.aload_n 0, 1) := by decide +kernel
theorem dX6_putBack_10 : decode cX6_putBack 10 = .ok (.getfield 7, 3) := by decide +kernel
theorem dX6_putBack_13 : decode cX6_putBack 13 = .ok (.iload_n 1, 1) := by decide +kernel
theorem dX6_putBack_14 : decode cX6_putBack 14 = .ok (.aload_n 0, 1) := by decide +kernel
theorem dX6_putBack_15 : decode cX6_putBack 15 = .ok (.getfield 13, 3) := by decide +kernel
theorem dX6_putBack_18 : decode cX6_putBack 18 = .ok (.iload_n 1, 1) := by decide +kernel
theorem dX6_putBack_19 : decode cX6_putBack 19 = .ok (.laload, 1) := by decide +kernel
theorem dX6_putBack_20 : decode cX6_putBack 20 = .ok (.lastore, 1) := by decide +kernel
theorem dX6_putBack_21 : decode cX6_putBack 21 = .ok (.iinc 1 1, 3) := by decide +kernel
theorem dX6_putBack_24 : decode cX6_putBack 24 = .ok (.goto (-22), 3) := by decide +kernel
theorem dX6_putBack_27 : decode cX6_putBack 27 = .ok (.return_, 1) := by decide +kernel
theorem dX6_ticksTo_0 : decode cX6_ticksTo 0 = .ok (.iconst 0, 1) := by decide +kernel
theorem dX6_ticksTo_1 : decode cX6_ticksTo 1 = .ok (.istore_n 3, 1) := by decide +kernel
theorem dX6_ticksTo_2 : decode cX6_ticksTo 2 = .ok (.aload_n 0, 1) := by decide +kernel
theorem dX6_ticksTo_3 : decode cX6_ticksTo 3 = .ok (.iload_n 1, 1) := by decide +kernel
theorem dX6_ticksTo_4 : decode cX6_ticksTo 4 = .ok (.iconst 4, 1) := by decide +kernel
theorem dX6_ticksTo_5 : decode cX6_ticksTo 5 = .ok (.invokevirtual 49, 3) := by decide +kernel
theorem dX6_ticksTo_8 : decode cX6_ticksTo 8 = .ok (.ldc2_w 152, 3) := by decide +kernel
theorem dX6_ticksTo_11 : decode cX6_ticksTo 11 = .ok (.lcmp, 1) := by decide +kernel
theorem dX6_ticksTo_12 : decode cX6_ticksTo 12 = .ok (.ifCond .eq 18, 3) := by decide +kernel
theorem dX6_ticksTo_15 : decode cX6_ticksTo 15 = .ok (.iload_n 3, 1) := by decide +kernel
theorem dX6_ticksTo_16 : decode cX6_ticksTo 16 = .ok (.iload_n 2, 1) := by decide +kernel
theorem dX6_ticksTo_17 : decode cX6_ticksTo 17 = .ok (.if_icmp .ge 13, 3) := by decide +kernel
theorem dX6_ticksTo_20 : decode cX6_ticksTo 20 = .ok (.aload_n 0, 1) := by decide +kernel
theorem dX6_ticksTo_21 : decode cX6_ticksTo 21 = .ok (.invokevirtual 198, 3) := by decide +kernel
theorem dX6_ticksTo_24 : decode cX6_ticksTo 24 = .ok (.iinc 3 1, 3) := by decide +kernel
theorem dX6_ticksTo_27 : decode cX6_ticksTo 27 = .ok (.goto (-25), 3) := by decide +kernel
theorem dX6_ticksTo_30 : decode cX6_ticksTo 30 = .ok (.aload_n 0, 1) := by decide +kernel
theorem dX6_ticksTo_31 : decode cX6_ticksTo 31 = .ok (.iload_n 1, 1) := by decide +kernel
theorem dX6_ticksTo_32 : decode cX6_ticksTo 32 = .ok (.iconst 4, 1) := by decide +kernel
theorem dX6_ticksTo_33 : decode cX6_ticksTo 33 = .ok (.invokevirtual 49, 3) := by decide +kernel
theorem dX6_ticksTo_36 : decode cX6_ticksTo 36 = .ok (.ldc2_w 152, 3) := by decide +kernel
theorem dX6_ticksTo_39 : decode cX6_ticksTo 39 = .ok (.lcmp, 1) := by decide +kernel
theorem dX6_ticksTo_40 : decode cX6_ticksTo 40 = .ok (.ifCond .ne 7, 3) := by decide +kernel
theorem dX6_ticksTo_43 : decode cX6_ticksTo 43 = .ok (.iload_n 3, 1) := by decide +kernel
theorem dX6_ticksTo_44 : decode cX6_ticksTo 44 = .ok (.goto 5, 3) := by decide +kernel
theorem dX6_ticksTo_47 : decode cX6_ticksTo 47 = .ok (.bipush (-6), 2) := by decide +kernel
theorem dX6_ticksTo_49 : decode cX6_ticksTo 49 = .ok (.ireturn, 1) := by decide +kernel
theorem dX6_forecast_0 : decode cX6_forecast 0 = .ok (.aload_n 0, 1) := by decide +kernel
theorem dX6_forecast_1 : decode cX6_forecast 1 = .ok (.iload_n 1, 1) := by decide +kernel
theorem dX6_forecast_2 : decode cX6_forecast 2 = .ok (.invokevirtual 94, 3) := by decide +kernel
theorem dX6_forecast_5 : decode cX6_forecast 5 = .ok (.ifCond .ne 5, 3) := by decide +kernel
theorem dX6_forecast_8 : decode cX6_forecast 8 = .ok (.iconst (-1), 1) := by decide +kernel
theorem dX6_forecast_9 : decode cX6_forecast 9 = .ok (.ireturn, 1) := by decide +kernel
theorem dX6_forecast_10 : decode cX6_forecast 10 = .ok (.iload_n 2, 1) := by decide +kernel
theorem dX6_forecast_11 : decode cX6_forecast 11 = .ok (.i2l, 1) := by decide +kernel
theorem dX6_forecast_12 : decode cX6_forecast 12 = .ok (.lconst 1, 1) := by decide +kernel
theorem dX6_forecast_13 : decode cX6_forecast 13 = .ok (.ldc2_w 83, 3) := by decide +kernel
theorem dX6_forecast_16 : decode cX6_forecast 16 = .ok (.invokestatic 36, 3) := by decide +kernel
theorem dX6_forecast_19 : decode cX6_forecast 19 = .ok (.ifCond .ne 6, 3) := by decide +kernel
theorem dX6_forecast_22 : decode cX6_forecast 22 = .ok (.bipush (-2), 2) := by decide +kernel
theorem dX6_forecast_24 : decode cX6_forecast 24 = .ok (.ireturn, 1) := by decide +kernel
theorem dX6_forecast_25 : decode cX6_forecast 25 = .ok (.aload_n 0, 1) := by decide +kernel
theorem dX6_forecast_26 : decode cX6_forecast 26 = .ok (.invokevirtual 208, 3) := by decide +kernel
theorem dX6_forecast_29 : decode cX6_forecast 29 = .ok (.aload_n 0, 1) := by decide +kernel
theorem dX6_forecast_30 : decode cX6_forecast 30 = .ok (.iload_n 1, 1) := by decide +kernel
theorem dX6_forecast_31 : decode cX6_forecast 31 = .ok (.iload_n 2, 1) := by decide +kernel
theorem dX6_forecast_32 : decode cX6_forecast 32 = .ok (.invokevirtual 211, 3) := by decide +kernel
theorem dX6_forecast_35 : decode cX6_forecast 35 = .ok (.istore_n 3, 1) := by decide +kernel
theorem dX6_forecast_36 : decode cX6_forecast 36 = .ok (.aload_n 0, 1) := by decide +kernel
theorem dX6_forecast_37 : decode cX6_forecast 37 = .ok (.invokevirtual 214, 3) := by decide +kernel
theorem dX6_forecast_40 : decode cX6_forecast 40 = .ok (.iload_n 3, 1) := by decide +kernel
theorem dX6_forecast_41 : decode cX6_forecast 41 = .ok (.ireturn, 1) := by decide +kernel
theorem dX6_leastWeight_0 : decode cX6_leastWeight 0 = .ok (.aload_n 0, 1) := by decide +kernel
theorem dX6_leastWeight_1 : decode cX6_leastWeight 1 = .ok (.iload_n 1, 1) := by decide +kernel
theorem dX6_leastWeight_2 : decode cX6_leastWeight 2 = .ok (.invokevirtual 94, 3) := by decide +kernel
theorem dX6_leastWeight_5 : decode cX6_leastWeight 5 = .ok (.ifCond .ne 5, 3) := by decide +kernel
theorem dX6_leastWeight_8 : decode cX6_leastWeight 8 = .ok (.iconst (-1), 1) := by decide +kernel
theorem dX6_leastWeight_9 : decode cX6_leastWeight 9 = .ok (.ireturn, 1) := by decide +kernel
theorem dX6_leastWeight_10 : decode cX6_leastWeight 10 = .ok (.iload_n 2, 1) := by decide +kernel
theorem dX6_leastWeight_11 : decode cX6_leastWeight 11 = .ok (.i2l, 1) := by decide +kernel
theorem dX6_leastWeight_12 : decode cX6_leastWeight 12 = .ok (.lconst 1, 1) := by decide +kernel
theorem dX6_leastWeight_13 : decode cX6_leastWeight 13 = .ok (.ldc2_w 70, 3) := by decide +kernel
theorem dX6_leastWeight_16 : decode cX6_leastWeight 16 = .ok (.invokestatic 36, 3) := by decide +kernel
theorem dX6_leastWeight_19 : decode cX6_leastWeight 19 = .ok (.ifCond .ne 6, 3) := by decide +kernel
theorem dX6_leastWeight_22 : decode cX6_leastWeight 22 = .ok (.bipush (-2), 2) := by decide +kernel
theorem dX6_leastWeight_24 : decode cX6_leastWeight 24 = .ok (.ireturn, 1) := by decide +kernel
theorem dX6_leastWeight_25 : decode cX6_leastWeight 25 = .ok (.aload_n 0, 1) := by decide +kernel
theorem dX6_leastWeight_26 : decode cX6_leastWeight 26 = .ok (.iload_n 1, 1) := by decide +kernel
theorem dX6_leastWeight_27 : decode cX6_leastWeight 27 = .ok (.invokevirtual 60, 3) := by decide +kernel
theorem dX6_leastWeight_30 : decode cX6_leastWeight 30 = .ok (.ifCond .ne 6, 3) := by decide +kernel
theorem dX6_leastWeight_33 : decode cX6_leastWeight 33 = .ok (.bipush (-5), 2) := by decide +kernel
theorem dX6_leastWeight_35 : decode cX6_leastWeight 35 = .ok (.ireturn, 1) := by decide +kernel
theorem dX6_leastWeight_36 : decode cX6_leastWeight 36 = .ok (.aload_n 0, 1) := by decide +kernel
theorem dX6_leastWeight_37 : decode cX6_leastWeight 37 = .ok (.invokevirtual 208, 3) := by decide +kernel
theorem dX6_leastWeight_40 : decode cX6_leastWeight 40 = .ok (.bipush (-6), 2) := by decide +kernel
theorem dX6_leastWeight_42 : decode cX6_leastWeight 42 = .ok (.istore_n 3, 1) := by decide +kernel
theorem dX6_leastWeight_43 : decode cX6_leastWeight 43 = .ok (.iconst 1, 1) := by decide +kernel
theorem dX6_leastWeight_44 : decode cX6_leastWeight 44 = .ok (.istore 4, 2) := by decide +kernel
theorem dX6_leastWeight_46 : decode cX6_leastWeight 46 = .ok (.iload 4, 2) := by decide +kernel
theorem dX6_leastWeight_48 : decode cX6_leastWeight 48 = .ok (.bipush 16, 2) := by decide +kernel
theorem dX6_leastWeight_50 : decode cX6_leastWeight 50 = .ok (.if_icmp .gt 53, 3) := by decide +kernel
theorem dX6_leastWeight_53 : decode cX6_leastWeight 53 = .ok (.iload_n 3, 1) := by decide +kernel
theorem dX6_leastWeight_54 : decode cX6_leastWeight 54 = .ok (.ifCond .ge 49, 3) := by decide +kernel
theorem dX6_leastWeight_57 : decode cX6_leastWeight 57 = .ok (.aload_n 0, 1) := by decide +kernel
theorem dX6_leastWeight_58 : decode cX6_leastWeight 58 = .ok (.getfield 7, 3) := by decide +kernel
theorem dX6_leastWeight_61 : decode cX6_leastWeight 61 = .ok (.aload_n 0, 1) := by decide +kernel
theorem dX6_leastWeight_62 : decode cX6_leastWeight 62 = .ok (.iload_n 1, 1) := by decide +kernel
theorem dX6_leastWeight_63 : decode cX6_leastWeight 63 = .ok (.iconst 0, 1) := by decide +kernel
theorem dX6_leastWeight_64 : decode cX6_leastWeight 64 = .ok (.invokevirtual 49, 3) := by decide +kernel
theorem dX6_leastWeight_67 : decode cX6_leastWeight 67 = .ok (.l2i, 1) := by decide +kernel
theorem dX6_leastWeight_68 : decode cX6_leastWeight 68 = .ok (.iconst 0, 1) := by decide +kernel
theorem dX6_leastWeight_69 : decode cX6_leastWeight 69 = .ok (.invokestatic 40, 3) := by decide +kernel
theorem dX6_leastWeight_72 : decode cX6_leastWeight 72 = .ok (.iload 4, 2) := by decide +kernel
theorem dX6_leastWeight_74 : decode cX6_leastWeight 74 = .ok (.i2l, 1) := by decide +kernel
theorem dX6_leastWeight_75 : decode cX6_leastWeight 75 = .ok (.lastore, 1) := by decide +kernel
theorem dX6_leastWeight_76 : decode cX6_leastWeight 76 = .ok (.aload_n 0, 1) := by decide +kernel
theorem dX6_leastWeight_77 : decode cX6_leastWeight 77 = .ok (.iload_n 1, 1) := by decide +kernel
theorem dX6_leastWeight_78 : decode cX6_leastWeight 78 = .ok (.iload_n 2, 1) := by decide +kernel
theorem dX6_leastWeight_79 : decode cX6_leastWeight 79 = .ok (.invokevirtual 211, 3) := by decide +kernel
theorem dX6_leastWeight_82 : decode cX6_leastWeight 82 = .ok (.ifCond .lt 8, 3) := by decide +kernel
theorem dX6_leastWeight_85 : decode cX6_leastWeight 85 = .ok (.iload 4, 2) := by decide +kernel
theorem dX6_leastWeight_87 : decode cX6_leastWeight 87 = .ok (.goto 5, 3) := by decide +kernel
theorem dX6_leastWeight_90 : decode cX6_leastWeight 90 = .ok (.bipush (-6), 2) := by decide +kernel
theorem dX6_leastWeight_92 : decode cX6_leastWeight 92 = .ok (.istore_n 3, 1) := by decide +kernel
theorem dX6_leastWeight_93 : decode cX6_leastWeight 93 = .ok (.aload_n 0, 1) := by decide +kernel
theorem dX6_leastWeight_94 : decode cX6_leastWeight 94 = .ok (.invokevirtual 214, 3) := by decide +kernel
theorem dX6_leastWeight_97 : decode cX6_leastWeight 97 = .ok (.iinc 4 1, 3) := by decide +kernel
theorem dX6_leastWeight_100 : decode cX6_leastWeight 100 = .ok (.goto (-54), 3) := by decide +kernel
theorem dX6_leastWeight_103 : decode cX6_leastWeight 103 = .ok (.iload_n 3, 1) := by decide +kernel
theorem dX6_leastWeight_104 : decode cX6_leastWeight 104 = .ok (.ireturn, 1) := by decide +kernel
theorem dX6_markQueued_0 : decode cX6_markQueued 0 = .ok (.iconst 0, 1) := by decide +kernel
theorem dX6_markQueued_1 : decode cX6_markQueued 1 = .ok (.istore_n 1, 1) := by decide +kernel
theorem dX6_markQueued_2 : decode cX6_markQueued 2 = .ok (.aload_n 0, 1) := by decide +kernel
theorem dX6_markQueued_3 : decode cX6_markQueued 3 = .ok (.invokevirtual 56, 3) := by decide +kernel
theorem dX6_markQueued_6 : decode cX6_markQueued 6 = .ok (.istore_n 2, 1) := by decide +kernel
theorem dX6_markQueued_7 : decode cX6_markQueued 7 = .ok (.iload_n 2, 1) := by decide +kernel
theorem dX6_markQueued_8 : decode cX6_markQueued 8 = .ok (.i2l, 1) := by decide +kernel
theorem dX6_markQueued_9 : decode cX6_markQueued 9 = .ok (.aload_n 0, 1) := by decide +kernel
theorem dX6_markQueued_10 : decode cX6_markQueued 10 = .ok (.getfield 7, 3) := by decide +kernel
theorem dX6_markQueued_13 : decode cX6_markQueued 13 = .ok (.bipush 7, 2) := by decide +kernel
theorem dX6_markQueued_15 : decode cX6_markQueued 15 = .ok (.laload, 1) := by decide +kernel
theorem dX6_markQueued_16 : decode cX6_markQueued 16 = .ok (.lcmp, 1) := by decide +kernel
theorem dX6_markQueued_17 : decode cX6_markQueued 17 = .ok (.ifCond .ge 39, 3) := by decide +kernel
theorem dX6_markQueued_20 : decode cX6_markQueued 20 = .ok (.aload_n 0, 1) := by decide +kernel
theorem dX6_markQueued_21 : decode cX6_markQueued 21 = .ok (.getfield 27, 3) := by decide +kernel
theorem dX6_markQueued_24 : decode cX6_markQueued 24 = .ok (.iload_n 2, 1) := by decide +kernel
theorem dX6_markQueued_25 : decode cX6_markQueued 25 = .ok (.bipush 120, 2) := by decide +kernel
theorem dX6_markQueued_27 : decode cX6_markQueued 27 = .ok (.irem, 1) := by decide +kernel
theorem dX6_markQueued_28 : decode cX6_markQueued 28 = .ok (.aload_n 0, 1) := by decide +kernel
theorem dX6_markQueued_29 : decode cX6_markQueued 29 = .ok (.iload_n 2, 1) := by decide +kernel
theorem dX6_markQueued_30 : decode cX6_markQueued 30 = .ok (.invokevirtual 60, 3) := by decide +kernel
theorem dX6_markQueued_33 : decode cX6_markQueued 33 = .ok (.bastore, 1) := by decide +kernel
theorem dX6_markQueued_34 : decode cX6_markQueued 34 = .ok (.iload_n 1, 1) := by decide +kernel
theorem dX6_markQueued_35 : decode cX6_markQueued 35 = .ok (.aload_n 0, 1) := by decide +kernel
theorem dX6_markQueued_36 : decode cX6_markQueued 36 = .ok (.iload_n 2, 1) := by decide +kernel
theorem dX6_markQueued_37 : decode cX6_markQueued 37 = .ok (.invokevirtual 60, 3) := by decide +kernel
theorem dX6_markQueued_40 : decode cX6_markQueued 40 = .ok (.ifCond .eq 7, 3) := by decide +kernel
theorem dX6_markQueued_43 : decode cX6_markQueued 43 = .ok (.iconst 1, 1) := by decide +kernel
theorem dX6_markQueued_44 : decode cX6_markQueued 44 = .ok (.goto 4, 3) := by decide +kernel
theorem dX6_markQueued_47 : decode cX6_markQueued 47 = .ok (.iconst 0, 1) := by decide +kernel
theorem dX6_markQueued_48 : decode cX6_markQueued 48 = .ok (.iadd, 1) := by decide +kernel
theorem dX6_markQueued_49 : decode cX6_markQueued 49 = .ok (.istore_n 1, 1) := by decide +kernel
theorem dX6_markQueued_50 : decode cX6_markQueued 50 = .ok (.iinc 2 1, 3) := by decide +kernel
theorem dX6_markQueued_53 : decode cX6_markQueued 53 = .ok (.goto (-46), 3) := by decide +kernel
theorem dX6_markQueued_56 : decode cX6_markQueued 56 = .ok (.iload_n 1, 1) := by decide +kernel
theorem dX6_markQueued_57 : decode cX6_markQueued 57 = .ok (.ireturn, 1) := by decide +kernel
theorem dX6_worstOfMarked_0 : decode cX6_worstOfMarked 0 = .ok (.lconst 0, 1) := by decide +kernel
theorem dX6_worstOfMarked_1 : decode cX6_worstOfMarked 1 = .ok (.lstore_n 1, 1) := by decide +kernel
theorem dX6_worstOfMarked_2 : decode cX6_worstOfMarked 2 = .ok (.aload_n 0, 1) := by decide +kernel
theorem dX6_worstOfMarked_3 : decode cX6_worstOfMarked 3 = .ok (.invokevirtual 56, 3) := by decide +kernel
theorem dX6_worstOfMarked_6 : decode cX6_worstOfMarked 6 = .ok (.istore_n 3, 1) := by decide +kernel
theorem dX6_worstOfMarked_7 : decode cX6_worstOfMarked 7 = .ok (.iload_n 3, 1) := by decide +kernel
theorem dX6_worstOfMarked_8 : decode cX6_worstOfMarked 8 = .ok (.i2l, 1) := by decide +kernel
theorem dX6_worstOfMarked_9 : decode cX6_worstOfMarked 9 = .ok (.aload_n 0, 1) := by decide +kernel
theorem dX6_worstOfMarked_10 : decode cX6_worstOfMarked 10 = .ok (.getfield 7, 3) := by decide +kernel
theorem dX6_worstOfMarked_13 : decode cX6_worstOfMarked 13 = .ok (.bipush 7, 2) := by decide +kernel
theorem dX6_worstOfMarked_15 : decode cX6_worstOfMarked 15 = .ok (.laload, 1) := by decide +kernel
theorem dX6_worstOfMarked_16 : decode cX6_worstOfMarked 16 = .ok (.lcmp, 1) := by decide +kernel
theorem dX6_worstOfMarked_17 : decode cX6_worstOfMarked 17 = .ok (.ifCond .ge 70, 3) := by decide +kernel
theorem dX6_worstOfMarked_20 : decode cX6_worstOfMarked 20 = .ok (.aload_n 0, 1) := by decide +kernel
theorem dX6_worstOfMarked_21 : decode cX6_worstOfMarked 21 = .ok (.getfield 27, 3) := by decide +kernel
theorem dX6_worstOfMarked_24 : decode cX6_worstOfMarked 24 = .ok (.iload_n 3, 1) := by decide +kernel
theorem dX6_worstOfMarked_25 : decode cX6_worstOfMarked 25 = .ok (.bipush 120, 2) := by decide +kernel
theorem dX6_worstOfMarked_27 : decode cX6_worstOfMarked 27 = .ok (.irem, 1) := by decide +kernel
theorem dX6_worstOfMarked_28 : decode cX6_worstOfMarked 28 = .ok (.baload, 1) := by decide +kernel
theorem dX6_worstOfMarked_29 : decode cX6_worstOfMarked 29 = .ok (.ifCond .eq 52, 3) := by decide +kernel
theorem dX6_worstOfMarked_32 : decode cX6_worstOfMarked 32 = .ok (.aload_n 0, 1) := by decide +kernel
theorem dX6_worstOfMarked_33 : decode cX6_worstOfMarked 33 = .ok (.iload_n 3, 1) := by decide +kernel
theorem dX6_worstOfMarked_34 : decode cX6_worstOfMarked 34 = .ok (.iconst 4, 1) := by decide +kernel
theorem dX6_worstOfMarked_35 : decode cX6_worstOfMarked 35 = .ok (.invokevirtual 49, 3) := by decide +kernel
theorem dX6_worstOfMarked_38 : decode cX6_worstOfMarked 38 = .ok (.ldc2_w 152, 3) := by decide +kernel
theorem dX6_worstOfMarked_41 : decode cX6_worstOfMarked 41 = .ok (.lcmp, 1) := by decide +kernel
theorem dX6_worstOfMarked_42 : decode cX6_worstOfMarked 42 = .ok (.ifCond .ne 20, 3) := by decide +kernel
theorem dX6_worstOfMarked_45 : decode cX6_worstOfMarked 45 = .ok (.aload_n 0, 1) := by decide +kernel
theorem dX6_worstOfMarked_46 : decode cX6_worstOfMarked 46 = .ok (.iload_n 3, 1) := by decide +kernel
theorem dX6_worstOfMarked_47 : decode cX6_worstOfMarked 47 = .ok (.bipush 8, 2) := by decide +kernel
theorem dX6_worstOfMarked_49 : decode cX6_worstOfMarked 49 = .ok (.invokevirtual 49, 3) := by decide +kernel
theorem dX6_worstOfMarked_52 : decode cX6_worstOfMarked 52 = .ok (.aload_n 0, 1) := by decide +kernel
theorem dX6_worstOfMarked_53 : decode cX6_worstOfMarked 53 = .ok (.iload_n 3, 1) := by decide +kernel
theorem dX6_worstOfMarked_54 : decode cX6_worstOfMarked 54 = .ok (.iconst 2, 1) := by decide +kernel
theorem dX6_worstOfMarked_55 : decode cX6_worstOfMarked 55 = .ok (.invokevirtual 49, 3) := by decide +kernel
theorem dX6_worstOfMarked_58 : decode cX6_worstOfMarked 58 = .ok (.lsub, 1) := by decide +kernel
theorem dX6_worstOfMarked_59 : decode cX6_worstOfMarked 59 = .ok (.goto 6, 3) := by decide +kernel
theorem dX6_worstOfMarked_62 : decode cX6_worstOfMarked 62 = .ok (.ldc2_w 217, 3) := by decide +kernel
theorem dX6_worstOfMarked_65 : decode cX6_worstOfMarked 65 = .ok (.lstore 4, 2) := by decide +kernel
theorem dX6_worstOfMarked_67 : decode cX6_worstOfMarked 67 = .ok (.lload 4, 2) := by decide +kernel
theorem dX6_worstOfMarked_69 : decode cX6_worstOfMarked 69 = .ok (.lload_n 1, 1) := by decide +kernel
theorem dX6_worstOfMarked_70 : decode cX6_worstOfMarked 70 = .ok (.lcmp, 1) := by decide +kernel
theorem dX6_worstOfMarked_71 : decode cX6_worstOfMarked 71 = .ok (.ifCond .le 8, 3) := by decide +kernel
theorem dX6_worstOfMarked_74 : decode cX6_worstOfMarked 74 = .ok (.lload 4, 2) := by decide +kernel
theorem dX6_worstOfMarked_76 : decode cX6_worstOfMarked 76 = .ok (.goto 4, 3) := by decide +kernel
theorem dX6_worstOfMarked_79 : decode cX6_worstOfMarked 79 = .ok (.lload_n 1, 1) := by decide +kernel
theorem dX6_worstOfMarked_80 : decode cX6_worstOfMarked 80 = .ok (.lstore_n 1, 1) := by decide +kernel
theorem dX6_worstOfMarked_81 : decode cX6_worstOfMarked 81 = .ok (.iinc 3 1, 3) := by decide +kernel
theorem dX6_worstOfMarked_84 : decode cX6_worstOfMarked 84 = .ok (.goto (-77), 3) := by decide +kernel
theorem dX6_worstOfMarked_87 : decode cX6_worstOfMarked 87 = .ok (.lload_n 1, 1) := by decide +kernel
theorem dX6_worstOfMarked_88 : decode cX6_worstOfMarked 88 = .ok (.lreturn, 1) := by decide +kernel
theorem dX6_bestSplit_0 : decode cX6_bestSplit 0 = .ok (.aload_n 0, 1) := by decide +kernel
theorem dX6_bestSplit_1 : decode cX6_bestSplit 1 = .ok (.iload_n 1, 1) := by decide +kernel
theorem dX6_bestSplit_2 : decode cX6_bestSplit 2 = .ok (.invokevirtual 72, 3) := by decide +kernel
theorem dX6_bestSplit_5 : decode cX6_bestSplit 5 = .ok (.ifCond .ne 5, 3) := by decide +kernel
theorem dX6_bestSplit_8 : decode cX6_bestSplit 8 = .ok (.iconst (-1), 1) := by decide +kernel
theorem dX6_bestSplit_9 : decode cX6_bestSplit 9 = .ok (.ireturn, 1) := by decide +kernel
theorem dX6_bestSplit_10 : decode cX6_bestSplit 10 = .ok (.iload_n 2, 1) := by decide +kernel
theorem dX6_bestSplit_11 : decode cX6_bestSplit 11 = .ok (.i2l, 1) := by decide +kernel
theorem dX6_bestSplit_12 : decode cX6_bestSplit 12 = .ok (.lconst 0, 1) := by decide +kernel
theorem dX6_bestSplit_13 : decode cX6_bestSplit 13 = .ok (.ldc2_w 70, 3) := by decide +kernel
theorem dX6_bestSplit_16 : decode cX6_bestSplit 16 = .ok (.invokestatic 36, 3) := by decide +kernel
theorem dX6_bestSplit_19 : decode cX6_bestSplit 19 = .ok (.ifCond .eq 45, 3) := by decide +kernel
theorem dX6_bestSplit_22 : decode cX6_bestSplit 22 = .ok (.iload_n 3, 1) := by decide +kernel
theorem dX6_bestSplit_23 : decode cX6_bestSplit 23 = .ok (.i2l, 1) := by decide +kernel
theorem dX6_bestSplit_24 : decode cX6_bestSplit 24 = .ok (.lconst 1, 1) := by decide +kernel
theorem dX6_bestSplit_25 : decode cX6_bestSplit 25 = .ok (.ldc2_w 219, 3) := by decide +kernel
theorem dX6_bestSplit_28 : decode cX6_bestSplit 28 = .ok (.invokestatic 36, 3) := by decide +kernel
theorem dX6_bestSplit_31 : decode cX6_bestSplit 31 = .ok (.ifCond .eq 33, 3) := by decide +kernel
theorem dX6_bestSplit_34 : decode cX6_bestSplit 34 = .ok (.iload 4, 2) := by decide +kernel
theorem dX6_bestSplit_36 : decode cX6_bestSplit 36 = .ok (.i2l, 1) := by decide +kernel
theorem dX6_bestSplit_37 : decode cX6_bestSplit 37 = .ok (.lconst 1, 1) := by decide +kernel
theorem dX6_bestSplit_38 : decode cX6_bestSplit 38 = .ok (.ldc2_w 66, 3) := by decide +kernel
theorem dX6_bestSplit_41 : decode cX6_bestSplit 41 = .ok (.invokestatic 36, 3) := by decide +kernel
theorem dX6_bestSplit_44 : decode cX6_bestSplit 44 = .ok (.ifCond .eq 20, 3) := by decide +kernel
theorem dX6_bestSplit_47 : decode cX6_bestSplit 47 = .ok (.iload 5, 2) := by decide +kernel
theorem dX6_bestSplit_49 : decode cX6_bestSplit 49 = .ok (.i2l, 1) := by decide +kernel
theorem dX6_bestSplit_50 : decode cX6_bestSplit 50 = .ok (.lconst 1, 1) := by decide +kernel
theorem dX6_bestSplit_51 : decode cX6_bestSplit 51 = .ok (.ldc2_w 70, 3) := by decide +kernel
theorem dX6_bestSplit_54 : decode cX6_bestSplit 54 = .ok (.invokestatic 36, 3) := by decide +kernel
theorem dX6_bestSplit_57 : decode cX6_bestSplit 57 = .ok (.ifCond .eq 7, 3) := by decide +kernel
theorem dX6_bestSplit_60 : decode cX6_bestSplit 60 = .ok (.iconst 1, 1) := by decide +kernel
theorem dX6_bestSplit_61 : decode cX6_bestSplit 61 = .ok (.goto 4, 3) := by decide +kernel
theorem dX6_bestSplit_64 : decode cX6_bestSplit 64 = .ok (.iconst 0, 1) := by decide +kernel
theorem dX6_bestSplit_65 : decode cX6_bestSplit 65 = .ok (.istore 6, 2) := by decide +kernel
theorem dX6_bestSplit_67 : decode cX6_bestSplit 67 = .ok (.iload 6, 2) := by decide +kernel
theorem dX6_bestSplit_69 : decode cX6_bestSplit 69 = .ok (.ifCond .eq 17, 3) := by decide +kernel
theorem dX6_bestSplit_72 : decode cX6_bestSplit 72 = .ok (.iload_n 2, 1) := by decide +kernel
theorem dX6_bestSplit_73 : decode cX6_bestSplit 73 = .ok (.iload_n 3, 1) := by decide +kernel
theorem dX6_bestSplit_74 : decode cX6_bestSplit 74 = .ok (.iload 4, 2) := by decide +kernel
theorem dX6_bestSplit_76 : decode cX6_bestSplit 76 = .ok (.iconst 1, 1) := by decide +kernel
theorem dX6_bestSplit_77 : decode cX6_bestSplit 77 = .ok (.isub, 1) := by decide +kernel
theorem dX6_bestSplit_78 : decode cX6_bestSplit 78 = .ok (.imul, 1) := by decide +kernel
theorem dX6_bestSplit_79 : decode cX6_bestSplit 79 = .ok (.iadd, 1) := by decide +kernel
theorem dX6_bestSplit_80 : decode cX6_bestSplit 80 = .ok (.sipush 1000, 3) := by decide +kernel
theorem dX6_bestSplit_83 : decode cX6_bestSplit 83 = .ok (.if_icmp .le 6, 3) := by decide +kernel
theorem dX6_bestSplit_86 : decode cX6_bestSplit 86 = .ok (.bipush (-2), 2) := by decide +kernel
theorem dX6_bestSplit_88 : decode cX6_bestSplit 88 = .ok (.ireturn, 1) := by decide +kernel
theorem dX6_bestSplit_89 : decode cX6_bestSplit 89 = .ok (.aload_n 0, 1) := by decide +kernel
theorem dX6_bestSplit_90 : decode cX6_bestSplit 90 = .ok (.invokevirtual 221, 3) := by decide +kernel
theorem dX6_bestSplit_93 : decode cX6_bestSplit 93 = .ok (.ifCond .ne 6, 3) := by decide +kernel
theorem dX6_bestSplit_96 : decode cX6_bestSplit 96 = .ok (.bipush (-5), 2) := by decide +kernel
theorem dX6_bestSplit_98 : decode cX6_bestSplit 98 = .ok (.ireturn, 1) := by decide +kernel
theorem dX6_bestSplit_99 : decode cX6_bestSplit 99 = .ok (.aload_n 0, 1) := by decide +kernel
theorem dX6_bestSplit_100 : decode cX6_bestSplit 100 = .ok (.invokevirtual 208, 3) := by decide +kernel
theorem dX6_bestSplit_103 : decode cX6_bestSplit 103 = .ok (.iload_n 2, 1) := by decide +kernel
theorem dX6_bestSplit_104 : decode cX6_bestSplit 104 = .ok (.istore 7, 2) := by decide +kernel
theorem dX6_bestSplit_106 : decode cX6_bestSplit 106 = .ok (.ldc2_w 224, 3) := by decide +kernel
theorem dX6_bestSplit_109 : decode cX6_bestSplit 109 = .ok (.lstore 8, 2) := by decide +kernel
theorem dX6_bestSplit_111 : decode cX6_bestSplit 111 = .ok (.iconst 0, 1) := by decide +kernel
theorem dX6_bestSplit_112 : decode cX6_bestSplit 112 = .ok (.istore 10, 2) := by decide +kernel
theorem dX6_bestSplit_114 : decode cX6_bestSplit 114 = .ok (.iload 10, 2) := by decide +kernel
theorem dX6_bestSplit_116 : decode cX6_bestSplit 116 = .ok (.iload 4, 2) := by decide +kernel
theorem dX6_bestSplit_118 : decode cX6_bestSplit 118 = .ok (.if_icmp .ge 83, 3) := by decide +kernel
theorem dX6_bestSplit_121 : decode cX6_bestSplit 121 = .ok (.aload_n 0, 1) := by decide +kernel
theorem dX6_bestSplit_122 : decode cX6_bestSplit 122 = .ok (.getfield 7, 3) := by decide +kernel
theorem dX6_bestSplit_125 : decode cX6_bestSplit 125 = .ok (.iload_n 1, 1) := by decide +kernel
theorem dX6_bestSplit_126 : decode cX6_bestSplit 126 = .ok (.iconst 2, 1) := by decide +kernel
theorem dX6_bestSplit_127 : decode cX6_bestSplit 127 = .ok (.invokestatic 40, 3) := by decide +kernel
theorem dX6_bestSplit_130 : decode cX6_bestSplit 130 = .ok (.iload_n 2, 1) := by decide +kernel
theorem dX6_bestSplit_131 : decode cX6_bestSplit 131 = .ok (.iload_n 3, 1) := by decide +kernel
theorem dX6_bestSplit_132 : decode cX6_bestSplit 132 = .ok (.iload 10, 2) := by decide +kernel
theorem dX6_bestSplit_134 : decode cX6_bestSplit 134 = .ok (.imul, 1) := by decide +kernel
theorem dX6_bestSplit_135 : decode cX6_bestSplit 135 = .ok (.iadd, 1) := by decide +kernel
theorem dX6_bestSplit_136 : decode cX6_bestSplit 136 = .ok (.i2l, 1) := by decide +kernel
theorem dX6_bestSplit_137 : decode cX6_bestSplit 137 = .ok (.lastore, 1) := by decide +kernel
theorem dX6_bestSplit_138 : decode cX6_bestSplit 138 = .ok (.iconst 0, 1) := by decide +kernel
theorem dX6_bestSplit_139 : decode cX6_bestSplit 139 = .ok (.istore 11, 2) := by decide +kernel
theorem dX6_bestSplit_141 : decode cX6_bestSplit 141 = .ok (.iload 11, 2) := by decide +kernel
theorem dX6_bestSplit_143 : decode cX6_bestSplit 143 = .ok (.iload 5, 2) := by decide +kernel
theorem dX6_bestSplit_145 : decode cX6_bestSplit 145 = .ok (.if_icmp .ge 13, 3) := by decide +kernel
theorem dX6_bestSplit_148 : decode cX6_bestSplit 148 = .ok (.aload_n 0, 1) := by decide +kernel
theorem dX6_bestSplit_149 : decode cX6_bestSplit 149 = .ok (.invokevirtual 198, 3) := by decide +kernel
theorem dX6_bestSplit_152 : decode cX6_bestSplit 152 = .ok (.iinc 11 1, 3) := by decide +kernel
theorem dX6_bestSplit_155 : decode cX6_bestSplit 155 = .ok (.goto (-14), 3) := by decide +kernel
theorem dX6_bestSplit_158 : decode cX6_bestSplit 158 = .ok (.aload_n 0, 1) := by decide +kernel
theorem dX6_bestSplit_159 : decode cX6_bestSplit 159 = .ok (.invokevirtual 226, 3) := by decide +kernel
theorem dX6_bestSplit_162 : decode cX6_bestSplit 162 = .ok (.lstore 11, 2) := by decide +kernel
theorem dX6_bestSplit_164 : decode cX6_bestSplit 164 = .ok (.aload_n 0, 1) := by decide +kernel
theorem dX6_bestSplit_165 : decode cX6_bestSplit 165 = .ok (.invokevirtual 214, 3) := by decide +kernel
theorem dX6_bestSplit_168 : decode cX6_bestSplit 168 = .ok (.lload 8, 2) := by decide +kernel
theorem dX6_bestSplit_170 : decode cX6_bestSplit 170 = .ok (.lconst 0, 1) := by decide +kernel
theorem dX6_bestSplit_171 : decode cX6_bestSplit 171 = .ok (.lcmp, 1) := by decide +kernel
theorem dX6_bestSplit_172 : decode cX6_bestSplit 172 = .ok (.ifCond .lt 11, 3) := by decide +kernel
theorem dX6_bestSplit_175 : decode cX6_bestSplit 175 = .ok (.lload 11, 2) := by decide +kernel
theorem dX6_bestSplit_177 : decode cX6_bestSplit 177 = .ok (.lload 8, 2) := by decide +kernel
theorem dX6_bestSplit_179 : decode cX6_bestSplit 179 = .ok (.lcmp, 1) := by decide +kernel
theorem dX6_bestSplit_180 : decode cX6_bestSplit 180 = .ok (.ifCond .ge 15, 3) := by decide +kernel
theorem dX6_bestSplit_183 : decode cX6_bestSplit 183 = .ok (.lload 11, 2) := by decide +kernel
theorem dX6_bestSplit_185 : decode cX6_bestSplit 185 = .ok (.lstore 8, 2) := by decide +kernel
theorem dX6_bestSplit_187 : decode cX6_bestSplit 187 = .ok (.iload_n 2, 1) := by decide +kernel
theorem dX6_bestSplit_188 : decode cX6_bestSplit 188 = .ok (.iload_n 3, 1) := by decide +kernel
theorem dX6_bestSplit_189 : decode cX6_bestSplit 189 = .ok (.iload 10, 2) := by decide +kernel
theorem dX6_bestSplit_191 : decode cX6_bestSplit 191 = .ok (.imul, 1) := by decide +kernel
theorem dX6_bestSplit_192 : decode cX6_bestSplit 192 = .ok (.iadd, 1) := by decide +kernel
theorem dX6_bestSplit_193 : decode cX6_bestSplit 193 = .ok (.istore 7, 2) := by decide +kernel
theorem dX6_bestSplit_195 : decode cX6_bestSplit 195 = .ok (.iinc 10 1, 3) := by decide +kernel
theorem dX6_bestSplit_198 : decode cX6_bestSplit 198 = .ok (.goto (-84), 3) := by decide +kernel
theorem dX6_bestSplit_201 : decode cX6_bestSplit 201 = .ok (.iload 7, 2) := by decide +kernel
theorem dX6_bestSplit_203 : decode cX6_bestSplit 203 = .ok (.ireturn, 1) := by decide +kernel
theorem dX6_save_0 : decode cX6_save 0 = .ok (.iload_n 1, 1) := by decide +kernel
theorem dX6_save_1 : decode cX6_save 1 = .ok (.i2l, 1) := by decide +kernel
theorem dX6_save_2 : decode cX6_save 2 = .ok (.lconst 0, 1) := by decide +kernel
theorem dX6_save_3 : decode cX6_save 3 = .ok (.lconst 1, 1) := by decide +kernel
theorem dX6_save_4 : decode cX6_save 4 = .ok (.invokestatic 36, 3) := by decide +kernel
theorem dX6_save_7 : decode cX6_save 7 = .ok (.ifCond .ne 6, 3) := by decide +kernel
theorem dX6_save_10 : decode cX6_save 10 = .ok (.bipush (-2), 2) := by decide +kernel
theorem dX6_save_12 : decode cX6_save 12 = .ok (.ireturn, 1) := by decide +kernel
theorem dX6_save_13 : decode cX6_save 13 = .ok (.iconst 0, 1) := by decide +kernel
theorem dX6_save_14 : decode cX6_save 14 = .ok (.istore_n 2, 1) := by decide +kernel
theorem dX6_save_15 : decode cX6_save 15 = .ok (.iload_n 2, 1) := by decide +kernel
theorem dX6_save_16 : decode cX6_save 16 = .ok (.sipush 1826, 3) := by decide +kernel
theorem dX6_save_19 : decode cX6_save 19 = .ok (.if_icmp .ge 27, 3) := by decide +kernel
theorem dX6_save_22 : decode cX6_save 22 = .ok (.aload_n 0, 1) := by decide +kernel
theorem dX6_save_23 : decode cX6_save 23 = .ok (.getfield 16, 3) := by decide +kernel
theorem dX6_save_26 : decode cX6_save 26 = .ok (.sipush 1826, 3) := by decide +kernel
theorem dX6_save_29 : decode cX6_save 29 = .ok (.iload_n 1, 1) := by decide +kernel
theorem dX6_save_30 : decode cX6_save 30 = .ok (.imul, 1) := by decide +kernel
theorem dX6_save_31 : decode cX6_save 31 = .ok (.iload_n 2, 1) := by decide +kernel
theorem dX6_save_32 : decode cX6_save 32 = .ok (.iadd, 1) := by decide +kernel
theorem dX6_save_33 : decode cX6_save 33 = .ok (.aload_n 0, 1) := by decide +kernel
theorem dX6_save_34 : decode cX6_save 34 = .ok (.getfield 7, 3) := by decide +kernel
theorem dX6_save_37 : decode cX6_save 37 = .ok (.iload_n 2, 1) := by decide +kernel
theorem dX6_save_38 : decode cX6_save 38 = .ok (.laload, 1) := by decide +kernel
theorem dX6_save_39 : decode cX6_save 39 = .ok (.lastore, 1) := by decide +kernel
theorem dX6_save_40 : decode cX6_save 40 = .ok (.iinc 2 1, 3) := by decide +kernel
theorem dX6_save_43 : decode cX6_save 43 = .ok (.goto (-28), 3) := by decide +kernel
theorem dX6_save_46 : decode cX6_save 46 = .ok (.aload_n 0, 1) := by decide +kernel
theorem dX6_save_47 : decode cX6_save 47 = .ok (.getfield 19, 3) := by decide +kernel
theorem dX6_save_50 : decode cX6_save 50 = .ok (.iload_n 1, 1) := by decide +kernel
theorem dX6_save_51 : decode cX6_save 51 = .ok (.iconst 1, 1) := by decide +kernel
theorem dX6_save_52 : decode cX6_save 52 = .ok (.bastore, 1) := by decide +kernel
theorem dX6_save_53 : decode cX6_save 53 = .ok (.aload_n 0, 1) := by decide +kernel
theorem dX6_save_54 : decode cX6_save 54 = .ok (.getfield 7, 3) := by decide +kernel
theorem dX6_save_57 : decode cX6_save 57 = .ok (.iconst 0, 1) := by decide +kernel
theorem dX6_save_58 : decode cX6_save 58 = .ok (.laload, 1) := by decide +kernel
theorem dX6_save_59 : decode cX6_save 59 = .ok (.l2i, 1) := by decide +kernel
theorem dX6_save_60 : decode cX6_save 60 = .ok (.ireturn, 1) := by decide +kernel
theorem dX6_restore_0 : decode cX6_restore 0 = .ok (.iload_n 1, 1) := by decide +kernel
theorem dX6_restore_1 : decode cX6_restore 1 = .ok (.i2l, 1) := by decide +kernel
theorem dX6_restore_2 : decode cX6_restore 2 = .ok (.lconst 0, 1) := by decide +kernel
theorem dX6_restore_3 : decode cX6_restore 3 = .ok (.lconst 1, 1) := by decide +kernel
theorem dX6_restore_4 : decode cX6_restore 4 = .ok (.invokestatic 36, 3) := by decide +kernel
theorem dX6_restore_7 : decode cX6_restore 7 = .ok (.ifCond .ne 6, 3) := by decide +kernel
theorem dX6_restore_10 : decode cX6_restore 10 = .ok (.bipush (-2), 2) := by decide +kernel
theorem dX6_restore_12 : decode cX6_restore 12 = .ok (.ireturn, 1) := by decide +kernel
theorem dX6_restore_13 : decode cX6_restore 13 = .ok (.aload_n 0, 1) := by decide +kernel
theorem dX6_restore_14 : decode cX6_restore 14 = .ok (.getfield 19, 3) := by decide +kernel
theorem dX6_restore_17 : decode cX6_restore 17 = .ok (.iload_n 1, 1) := by decide +kernel
theorem dX6_restore_18 : decode cX6_restore 18 = .ok (.baload, 1) := by decide +kernel
theorem dX6_restore_19 : decode cX6_restore 19 = .ok (.ifCond .ne 6, 3) := by decide +kernel
theorem dX6_restore_22 : decode cX6_restore 22 = .ok (.bipush (-5), 2) := by decide +kernel
theorem dX6_restore_24 : decode cX6_restore 24 = .ok (.ireturn, 1) := by decide +kernel
theorem dX6_restore_25 : decode cX6_restore 25 = .ok (.iconst 0, 1) := by decide +kernel
theorem dX6_restore_26 : decode cX6_restore 26 = .ok (.istore_n 2, 1) := by decide +kernel
theorem dX6_restore_27 : decode cX6_restore 27 = .ok (.iload_n 2, 1) := by decide +kernel
theorem dX6_restore_28 : decode cX6_restore 28 = .ok (.sipush 1826, 3) := by decide +kernel
theorem dX6_restore_31 : decode cX6_restore 31 = .ok (.if_icmp .ge 27, 3) := by decide +kernel
theorem dX6_restore_34 : decode cX6_restore 34 = .ok (.aload_n 0, 1) := by decide +kernel
theorem dX6_restore_35 : decode cX6_restore 35 = .ok (.getfield 7, 3) := by decide +kernel
theorem dX6_restore_38 : decode cX6_restore 38 = .ok (.iload_n 2, 1) := by decide +kernel
theorem dX6_restore_39 : decode cX6_restore 39 = .ok (.aload_n 0, 1) := by decide +kernel
theorem dX6_restore_40 : decode cX6_restore 40 = .ok (.getfield 16, 3) := by decide +kernel
theorem dX6_restore_43 : decode cX6_restore 43 = .ok (.sipush 1826, 3) := by decide +kernel
theorem dX6_restore_46 : decode cX6_restore 46 = .ok (.iload_n 1, 1) := by decide +kernel
theorem dX6_restore_47 : decode cX6_restore 47 = .ok (.imul, 1) := by decide +kernel
theorem dX6_restore_48 : decode cX6_restore 48 = .ok (.iload_n 2, 1) := by decide +kernel
theorem dX6_restore_49 : decode cX6_restore 49 = .ok (.iadd, 1) := by decide +kernel
theorem dX6_restore_50 : decode cX6_restore 50 = .ok (.laload, 1) := by decide +kernel
theorem dX6_restore_51 : decode cX6_restore 51 = .ok (.lastore, 1) := by decide +kernel
theorem dX6_restore_52 : decode cX6_restore 52 = .ok (.iinc 2 1, 3) := by decide +kernel
theorem dX6_restore_55 : decode cX6_restore 55 = .ok (.goto (-28), 3) := by decide +kernel
theorem dX6_restore_58 : decode cX6_restore 58 = .ok (.aload_n 0, 1) := by decide +kernel
theorem dX6_restore_59 : decode cX6_restore 59 = .ok (.getfield 7, 3) := by decide +kernel
theorem dX6_restore_62 : decode cX6_restore 62 = .ok (.iconst 0, 1) := by decide +kernel
theorem dX6_restore_63 : decode cX6_restore 63 = .ok (.laload, 1) := by decide +kernel
theorem dX6_restore_64 : decode cX6_restore 64 = .ok (.l2i, 1) := by decide +kernel
theorem dX6_restore_65 : decode cX6_restore 65 = .ok (.ireturn, 1) := by decide +kernel
theorem dJ9_floorMod_7cf53_0 : decode cJ9_floorMod_7cf53 0 = .ok (.iload_n 0, 1) := by decide +kernel
theorem dJ9_floorMod_7cf53_1 : decode cJ9_floorMod_7cf53 1 = .ok (.iload_n 1, 1) := by decide +kernel
theorem dJ9_floorMod_7cf53_2 : decode cJ9_floorMod_7cf53 2 = .ok (.irem, 1) := by decide +kernel
theorem dJ9_floorMod_7cf53_3 : decode cJ9_floorMod_7cf53 3 = .ok (.istore_n 2, 1) := by decide +kernel
theorem dJ9_floorMod_7cf53_4 : decode cJ9_floorMod_7cf53 4 = .ok (.iload_n 0, 1) := by decide +kernel
theorem dJ9_floorMod_7cf53_5 : decode cJ9_floorMod_7cf53 5 = .ok (.iload_n 1, 1) := by decide +kernel
theorem dJ9_floorMod_7cf53_6 : decode cJ9_floorMod_7cf53 6 = .ok (.ixor, 1) := by decide +kernel
theorem dJ9_floorMod_7cf53_7 : decode cJ9_floorMod_7cf53 7 = .ok (.ifCond .ge 11, 3) := by decide +kernel
theorem dJ9_floorMod_7cf53_10 : decode cJ9_floorMod_7cf53 10 = .ok (.iload_n 2, 1) := by decide +kernel
theorem dJ9_floorMod_7cf53_11 : decode cJ9_floorMod_7cf53 11 = .ok (.ifCond .eq 7, 3) := by decide +kernel
theorem dJ9_floorMod_7cf53_14 : decode cJ9_floorMod_7cf53 14 = .ok (.iload_n 2, 1) := by decide +kernel
theorem dJ9_floorMod_7cf53_15 : decode cJ9_floorMod_7cf53 15 = .ok (.iload_n 1, 1) := by decide +kernel
theorem dJ9_floorMod_7cf53_16 : decode cJ9_floorMod_7cf53 16 = .ok (.iadd, 1) := by decide +kernel
theorem dJ9_floorMod_7cf53_17 : decode cJ9_floorMod_7cf53 17 = .ok (.ireturn, 1) := by decide +kernel
theorem dJ9_floorMod_7cf53_18 : decode cJ9_floorMod_7cf53 18 = .ok (.iload_n 2, 1) := by decide +kernel
theorem dJ9_floorMod_7cf53_19 : decode cJ9_floorMod_7cf53 19 = .ok (.ireturn, 1) := by decide +kernel
theorem dJ9_abs_067f4_0 : decode cJ9_abs_067f4 0 = .ok (.lload_n 0, 1) := by decide +kernel
theorem dJ9_abs_067f4_1 : decode cJ9_abs_067f4 1 = .ok (.lconst 0, 1) := by decide +kernel
theorem dJ9_abs_067f4_2 : decode cJ9_abs_067f4 2 = .ok (.lcmp, 1) := by decide +kernel
theorem dJ9_abs_067f4_3 : decode cJ9_abs_067f4 3 = .ok (.ifCond .ge 8, 3) := by decide +kernel
theorem dJ9_abs_067f4_6 : decode cJ9_abs_067f4 6 = .ok (.lload_n 0, 1) := by decide +kernel
theorem dJ9_abs_067f4_7 : decode cJ9_abs_067f4 7 = .ok (.lneg, 1) := by decide +kernel
theorem dJ9_abs_067f4_8 : decode cJ9_abs_067f4 8 = .ok (.goto 4, 3) := by decide +kernel
theorem dJ9_abs_067f4_11 : decode cJ9_abs_067f4 11 = .ok (.lload_n 0, 1) := by decide +kernel
theorem dJ9_abs_067f4_12 : decode cJ9_abs_067f4 12 = .ok (.lreturn, 1) := by decide +kernel
theorem dJ9_max_7cf53_0 : decode cJ9_max_7cf53 0 = .ok (.iload_n 0, 1) := by decide +kernel
theorem dJ9_max_7cf53_1 : decode cJ9_max_7cf53 1 = .ok (.iload_n 1, 1) := by decide +kernel
theorem dJ9_max_7cf53_2 : decode cJ9_max_7cf53 2 = .ok (.if_icmp .lt 7, 3) := by decide +kernel
theorem dJ9_max_7cf53_5 : decode cJ9_max_7cf53 5 = .ok (.iload_n 0, 1) := by decide +kernel
theorem dJ9_max_7cf53_6 : decode cJ9_max_7cf53 6 = .ok (.goto 4, 3) := by decide +kernel
theorem dJ9_max_7cf53_9 : decode cJ9_max_7cf53 9 = .ok (.iload_n 1, 1) := by decide +kernel
theorem dJ9_max_7cf53_10 : decode cJ9_max_7cf53 10 = .ok (.ireturn, 1) := by decide +kernel
theorem dJ9_max_f86c9_0 : decode cJ9_max_f86c9 0 = .ok (.lload_n 0, 1) := by decide +kernel
theorem dJ9_max_f86c9_1 : decode cJ9_max_f86c9 1 = .ok (.lload_n 2, 1) := by decide +kernel
theorem dJ9_max_f86c9_2 : decode cJ9_max_f86c9 2 = .ok (.lcmp, 1) := by decide +kernel
theorem dJ9_max_f86c9_3 : decode cJ9_max_f86c9 3 = .ok (.ifCond .lt 7, 3) := by decide +kernel
theorem dJ9_max_f86c9_6 : decode cJ9_max_f86c9 6 = .ok (.lload_n 0, 1) := by decide +kernel
theorem dJ9_max_f86c9_7 : decode cJ9_max_f86c9 7 = .ok (.goto 4, 3) := by decide +kernel
theorem dJ9_max_f86c9_10 : decode cJ9_max_f86c9 10 = .ok (.lload_n 2, 1) := by decide +kernel
theorem dJ9_max_f86c9_11 : decode cJ9_max_f86c9 11 = .ok (.lreturn, 1) := by decide +kernel
theorem dJ9_min_7cf53_0 : decode cJ9_min_7cf53 0 = .ok (.iload_n 0, 1) := by decide +kernel
theorem dJ9_min_7cf53_1 : decode cJ9_min_7cf53 1 = .ok (.iload_n 1, 1) := by decide +kernel
theorem dJ9_min_7cf53_2 : decode cJ9_min_7cf53 2 = .ok (.if_icmp .gt 7, 3) := by decide +kernel
theorem dJ9_min_7cf53_5 : decode cJ9_min_7cf53 5 = .ok (.iload_n 0, 1) := by decide +kernel
theorem dJ9_min_7cf53_6 : decode cJ9_min_7cf53 6 = .ok (.goto 4, 3) := by decide +kernel
theorem dJ9_min_7cf53_9 : decode cJ9_min_7cf53 9 = .ok (.iload_n 1, 1) := by decide +kernel
theorem dJ9_min_7cf53_10 : decode cJ9_min_7cf53 10 = .ok (.ireturn, 1) := by decide +kernel
theorem dJ9_min_f86c9_0 : decode cJ9_min_f86c9 0 = .ok (.lload_n 0, 1) := by decide +kernel
theorem dJ9_min_f86c9_1 : decode cJ9_min_f86c9 1 = .ok (.lload_n 2, 1) := by decide +kernel
theorem dJ9_min_f86c9_2 : decode cJ9_min_f86c9 2 = .ok (.lcmp, 1) := by decide +kernel
theorem dJ9_min_f86c9_3 : decode cJ9_min_f86c9 3 = .ok (.ifCond .gt 7, 3) := by decide +kernel
theorem dJ9_min_f86c9_6 : decode cJ9_min_f86c9 6 = .ok (.lload_n 0, 1) := by decide +kernel
theorem dJ9_min_f86c9_7 : decode cJ9_min_f86c9 7 = .ok (.goto 4, 3) := by decide +kernel
theorem dJ9_min_f86c9_10 : decode cJ9_min_f86c9 10 = .ok (.lload_n 2, 1) := by decide +kernel
theorem dJ9_min_f86c9_11 : decode cJ9_min_f86c9 11 = .ok (.lreturn, 1) := by decide +kernel
theorem dL_law_0 : decode cL_law 0 = .ok (.new 7, 3) := by decide +kernel
theorem dL_law_3 : decode cL_law 3 = .ok (.dup, 1) := by decide +kernel
theorem dL_law_4 : decode cL_law 4 = .ok (.invokespecial 9, 3) := by decide +kernel
theorem dL_law_7 : decode cL_law 7 = .ok (.astore_n 1, 1) := by decide +kernel
theorem dL_law_8 : decode cL_law 8 = .ok (.new 10, 3) := by decide +kernel
theorem dL_law_11 : decode cL_law 11 = .ok (.dup, 1) := by decide +kernel
theorem dL_law_12 : decode cL_law 12 = .ok (.invokespecial 12, 3) := by decide +kernel
theorem dL_law_15 : decode cL_law 15 = .ok (.astore_n 2, 1) := by decide +kernel
theorem dL_law_16 : decode cL_law 16 = .ok (.iconst 0, 1) := by decide +kernel
theorem dL_law_17 : decode cL_law 17 = .ok (.istore_n 3, 1) := by decide +kernel
theorem dL_law_18 : decode cL_law 18 = .ok (.iload_n 3, 1) := by decide +kernel
theorem dL_law_19 : decode cL_law 19 = .ok (.aload_n 0, 1) := by decide +kernel
theorem dL_law_20 : decode cL_law 20 = .ok (.arraylength, 1) := by decide +kernel
theorem dL_law_21 : decode cL_law 21 = .ok (.bipush 6, 2) := by decide +kernel
theorem dL_law_23 : decode cL_law 23 = .ok (.isub, 1) := by decide +kernel
theorem dL_law_24 : decode cL_law 24 = .ok (.if_icmp .gt 832, 3) := by decide +kernel
theorem dL_law_27 : decode cL_law 27 = .ok (.aload_n 0, 1) := by decide +kernel
theorem dL_law_28 : decode cL_law 28 = .ok (.iload_n 3, 1) := by decide +kernel
theorem dL_law_29 : decode cL_law 29 = .ok (.iaload, 1) := by decide +kernel
theorem dL_law_30 : decode cL_law 30 = .ok (.bipush 31, 2) := by decide +kernel
theorem dL_law_32 : decode cL_law 32 = .ok (.iand, 1) := by decide +kernel
theorem dL_law_33 : decode cL_law 33 = .ok (.tableswitch 817 0 23 #[111, 134, 177, 210, 253, 276, 309, 333, 386, 399, 412, 425, 448, 471, 504, 538, 552, 575, 608, 642, 675, 708, 771, 794], 111) := by decide +kernel
theorem dL_law_144 : decode cL_law 144 = .ok (.aload_n 1, 1) := by decide +kernel
theorem dL_law_145 : decode cL_law 145 = .ok (.aload_n 0, 1) := by decide +kernel
theorem dL_law_146 : decode cL_law 146 = .ok (.iload_n 3, 1) := by decide +kernel
theorem dL_law_147 : decode cL_law 147 = .ok (.iconst 1, 1) := by decide +kernel
theorem dL_law_148 : decode cL_law 148 = .ok (.iadd, 1) := by decide +kernel
theorem dL_law_149 : decode cL_law 149 = .ok (.iaload, 1) := by decide +kernel
theorem dL_law_150 : decode cL_law 150 = .ok (.invokevirtual 13, 3) := by decide +kernel
theorem dL_law_153 : decode cL_law 153 = .ok (.aload_n 2, 1) := by decide +kernel
theorem dL_law_154 : decode cL_law 154 = .ok (.aload_n 0, 1) := by decide +kernel
theorem dL_law_155 : decode cL_law 155 = .ok (.iload_n 3, 1) := by decide +kernel
theorem dL_law_156 : decode cL_law 156 = .ok (.iconst 1, 1) := by decide +kernel
theorem dL_law_157 : decode cL_law 157 = .ok (.iadd, 1) := by decide +kernel
theorem dL_law_158 : decode cL_law 158 = .ok (.iaload, 1) := by decide +kernel
theorem dL_law_159 : decode cL_law 159 = .ok (.invokevirtual 17, 3) := by decide +kernel
theorem dL_law_162 : decode cL_law 162 = .ok (.if_icmp .eq 688, 3) := by decide +kernel
theorem dL_law_165 : decode cL_law 165 = .ok (.iconst 0, 1) := by decide +kernel
theorem dL_law_166 : decode cL_law 166 = .ok (.ireturn, 1) := by decide +kernel
theorem dL_law_167 : decode cL_law 167 = .ok (.aload_n 1, 1) := by decide +kernel
theorem dL_law_168 : decode cL_law 168 = .ok (.aload_n 0, 1) := by decide +kernel
theorem dL_law_169 : decode cL_law 169 = .ok (.iload_n 3, 1) := by decide +kernel
theorem dL_law_170 : decode cL_law 170 = .ok (.iconst 1, 1) := by decide +kernel
theorem dL_law_171 : decode cL_law 171 = .ok (.iadd, 1) := by decide +kernel
theorem dL_law_172 : decode cL_law 172 = .ok (.iaload, 1) := by decide +kernel
theorem dL_law_173 : decode cL_law 173 = .ok (.aload_n 0, 1) := by decide +kernel
theorem dL_law_174 : decode cL_law 174 = .ok (.iload_n 3, 1) := by decide +kernel
theorem dL_law_175 : decode cL_law 175 = .ok (.iconst 2, 1) := by decide +kernel
theorem dL_law_176 : decode cL_law 176 = .ok (.iadd, 1) := by decide +kernel
theorem dL_law_177 : decode cL_law 177 = .ok (.iaload, 1) := by decide +kernel
theorem dL_law_178 : decode cL_law 178 = .ok (.aload_n 0, 1) := by decide +kernel
theorem dL_law_179 : decode cL_law 179 = .ok (.iload_n 3, 1) := by decide +kernel
theorem dL_law_180 : decode cL_law 180 = .ok (.iconst 3, 1) := by decide +kernel
theorem dL_law_181 : decode cL_law 181 = .ok (.iadd, 1) := by decide +kernel
theorem dL_law_182 : decode cL_law 182 = .ok (.iaload, 1) := by decide +kernel
theorem dL_law_183 : decode cL_law 183 = .ok (.invokevirtual 18, 3) := by decide +kernel
theorem dL_law_186 : decode cL_law 186 = .ok (.aload_n 2, 1) := by decide +kernel
theorem dL_law_187 : decode cL_law 187 = .ok (.aload_n 0, 1) := by decide +kernel
theorem dL_law_188 : decode cL_law 188 = .ok (.iload_n 3, 1) := by decide +kernel
theorem dL_law_189 : decode cL_law 189 = .ok (.iconst 1, 1) := by decide +kernel
theorem dL_law_190 : decode cL_law 190 = .ok (.iadd, 1) := by decide +kernel
theorem dL_law_191 : decode cL_law 191 = .ok (.iaload, 1) := by decide +kernel
theorem dL_law_192 : decode cL_law 192 = .ok (.aload_n 0, 1) := by decide +kernel
theorem dL_law_193 : decode cL_law 193 = .ok (.iload_n 3, 1) := by decide +kernel
theorem dL_law_194 : decode cL_law 194 = .ok (.iconst 2, 1) := by decide +kernel
theorem dL_law_195 : decode cL_law 195 = .ok (.iadd, 1) := by decide +kernel
theorem dL_law_196 : decode cL_law 196 = .ok (.iaload, 1) := by decide +kernel
theorem dL_law_197 : decode cL_law 197 = .ok (.aload_n 0, 1) := by decide +kernel
theorem dL_law_198 : decode cL_law 198 = .ok (.iload_n 3, 1) := by decide +kernel
theorem dL_law_199 : decode cL_law 199 = .ok (.iconst 3, 1) := by decide +kernel
theorem dL_law_200 : decode cL_law 200 = .ok (.iadd, 1) := by decide +kernel
theorem dL_law_201 : decode cL_law 201 = .ok (.iaload, 1) := by decide +kernel
theorem dL_law_202 : decode cL_law 202 = .ok (.invokevirtual 22, 3) := by decide +kernel
theorem dL_law_205 : decode cL_law 205 = .ok (.if_icmp .eq 645, 3) := by decide +kernel
theorem dL_law_208 : decode cL_law 208 = .ok (.iconst 0, 1) := by decide +kernel
theorem dL_law_209 : decode cL_law 209 = .ok (.ireturn, 1) := by decide +kernel
theorem dL_law_210 : decode cL_law 210 = .ok (.aload_n 1, 1) := by decide +kernel
theorem dL_law_211 : decode cL_law 211 = .ok (.aload_n 0, 1) := by decide +kernel
theorem dL_law_212 : decode cL_law 212 = .ok (.iload_n 3, 1) := by decide +kernel
theorem dL_law_213 : decode cL_law 213 = .ok (.iconst 1, 1) := by decide +kernel
theorem dL_law_214 : decode cL_law 214 = .ok (.iadd, 1) := by decide +kernel
theorem dL_law_215 : decode cL_law 215 = .ok (.iaload, 1) := by decide +kernel
theorem dL_law_216 : decode cL_law 216 = .ok (.aload_n 0, 1) := by decide +kernel
theorem dL_law_217 : decode cL_law 217 = .ok (.iload_n 3, 1) := by decide +kernel
theorem dL_law_218 : decode cL_law 218 = .ok (.iconst 2, 1) := by decide +kernel
theorem dL_law_219 : decode cL_law 219 = .ok (.iadd, 1) := by decide +kernel
theorem dL_law_220 : decode cL_law 220 = .ok (.iaload, 1) := by decide +kernel
theorem dL_law_221 : decode cL_law 221 = .ok (.invokevirtual 23, 3) := by decide +kernel
theorem dL_law_224 : decode cL_law 224 = .ok (.aload_n 2, 1) := by decide +kernel
theorem dL_law_225 : decode cL_law 225 = .ok (.aload_n 0, 1) := by decide +kernel
theorem dL_law_226 : decode cL_law 226 = .ok (.iload_n 3, 1) := by decide +kernel
theorem dL_law_227 : decode cL_law 227 = .ok (.iconst 1, 1) := by decide +kernel
theorem dL_law_228 : decode cL_law 228 = .ok (.iadd, 1) := by decide +kernel
theorem dL_law_229 : decode cL_law 229 = .ok (.iaload, 1) := by decide +kernel
theorem dL_law_230 : decode cL_law 230 = .ok (.aload_n 0, 1) := by decide +kernel
theorem dL_law_231 : decode cL_law 231 = .ok (.iload_n 3, 1) := by decide +kernel
theorem dL_law_232 : decode cL_law 232 = .ok (.iconst 2, 1) := by decide +kernel
theorem dL_law_233 : decode cL_law 233 = .ok (.iadd, 1) := by decide +kernel
theorem dL_law_234 : decode cL_law 234 = .ok (.iaload, 1) := by decide +kernel
theorem dL_law_235 : decode cL_law 235 = .ok (.invokevirtual 27, 3) := by decide +kernel
theorem dL_law_238 : decode cL_law 238 = .ok (.if_icmp .eq 612, 3) := by decide +kernel
theorem dL_law_241 : decode cL_law 241 = .ok (.iconst 0, 1) := by decide +kernel
theorem dL_law_242 : decode cL_law 242 = .ok (.ireturn, 1) := by decide +kernel
theorem dL_law_243 : decode cL_law 243 = .ok (.aload_n 1, 1) := by decide +kernel
theorem dL_law_244 : decode cL_law 244 = .ok (.aload_n 0, 1) := by decide +kernel
theorem dL_law_245 : decode cL_law 245 = .ok (.iload_n 3, 1) := by decide +kernel
theorem dL_law_246 : decode cL_law 246 = .ok (.iconst 1, 1) := by decide +kernel
theorem dL_law_247 : decode cL_law 247 = .ok (.iadd, 1) := by decide +kernel
theorem dL_law_248 : decode cL_law 248 = .ok (.iaload, 1) := by decide +kernel
theorem dL_law_249 : decode cL_law 249 = .ok (.aload_n 0, 1) := by decide +kernel
theorem dL_law_250 : decode cL_law 250 = .ok (.iload_n 3, 1) := by decide +kernel
theorem dL_law_251 : decode cL_law 251 = .ok (.iconst 2, 1) := by decide +kernel
theorem dL_law_252 : decode cL_law 252 = .ok (.iadd, 1) := by decide +kernel
theorem dL_law_253 : decode cL_law 253 = .ok (.iaload, 1) := by decide +kernel
theorem dL_law_254 : decode cL_law 254 = .ok (.aload_n 0, 1) := by decide +kernel
theorem dL_law_255 : decode cL_law 255 = .ok (.iload_n 3, 1) := by decide +kernel
theorem dL_law_256 : decode cL_law 256 = .ok (.iconst 3, 1) := by decide +kernel
theorem dL_law_257 : decode cL_law 257 = .ok (.iadd, 1) := by decide +kernel
theorem dL_law_258 : decode cL_law 258 = .ok (.iaload, 1) := by decide +kernel
theorem dL_law_259 : decode cL_law 259 = .ok (.invokevirtual 28, 3) := by decide +kernel
theorem dL_law_262 : decode cL_law 262 = .ok (.aload_n 2, 1) := by decide +kernel
theorem dL_law_263 : decode cL_law 263 = .ok (.aload_n 0, 1) := by decide +kernel
theorem dL_law_264 : decode cL_law 264 = .ok (.iload_n 3, 1) := by decide +kernel
theorem dL_law_265 : decode cL_law 265 = .ok (.iconst 1, 1) := by decide +kernel
theorem dL_law_266 : decode cL_law 266 = .ok (.iadd, 1) := by decide +kernel
theorem dL_law_267 : decode cL_law 267 = .ok (.iaload, 1) := by decide +kernel
theorem dL_law_268 : decode cL_law 268 = .ok (.aload_n 0, 1) := by decide +kernel
theorem dL_law_269 : decode cL_law 269 = .ok (.iload_n 3, 1) := by decide +kernel
theorem dL_law_270 : decode cL_law 270 = .ok (.iconst 2, 1) := by decide +kernel
theorem dL_law_271 : decode cL_law 271 = .ok (.iadd, 1) := by decide +kernel
theorem dL_law_272 : decode cL_law 272 = .ok (.iaload, 1) := by decide +kernel
theorem dL_law_273 : decode cL_law 273 = .ok (.aload_n 0, 1) := by decide +kernel
theorem dL_law_274 : decode cL_law 274 = .ok (.iload_n 3, 1) := by decide +kernel
theorem dL_law_275 : decode cL_law 275 = .ok (.iconst 3, 1) := by decide +kernel
theorem dL_law_276 : decode cL_law 276 = .ok (.iadd, 1) := by decide +kernel
theorem dL_law_277 : decode cL_law 277 = .ok (.iaload, 1) := by decide +kernel
theorem dL_law_278 : decode cL_law 278 = .ok (.invokevirtual 31, 3) := by decide +kernel
theorem dL_law_281 : decode cL_law 281 = .ok (.if_icmp .eq 569, 3) := by decide +kernel
theorem dL_law_284 : decode cL_law 284 = .ok (.iconst 0, 1) := by decide +kernel
theorem dL_law_285 : decode cL_law 285 = .ok (.ireturn, 1) := by decide +kernel
theorem dL_law_286 : decode cL_law 286 = .ok (.aload_n 1, 1) := by decide +kernel
theorem dL_law_287 : decode cL_law 287 = .ok (.aload_n 0, 1) := by decide +kernel
theorem dL_law_288 : decode cL_law 288 = .ok (.iload_n 3, 1) := by decide +kernel
theorem dL_law_289 : decode cL_law 289 = .ok (.iconst 1, 1) := by decide +kernel
theorem dL_law_290 : decode cL_law 290 = .ok (.iadd, 1) := by decide +kernel
theorem dL_law_291 : decode cL_law 291 = .ok (.iaload, 1) := by decide +kernel
theorem dL_law_292 : decode cL_law 292 = .ok (.invokevirtual 32, 3) := by decide +kernel
theorem dL_law_295 : decode cL_law 295 = .ok (.aload_n 2, 1) := by decide +kernel
theorem dL_law_296 : decode cL_law 296 = .ok (.aload_n 0, 1) := by decide +kernel
theorem dL_law_297 : decode cL_law 297 = .ok (.iload_n 3, 1) := by decide +kernel
theorem dL_law_298 : decode cL_law 298 = .ok (.iconst 1, 1) := by decide +kernel
theorem dL_law_299 : decode cL_law 299 = .ok (.iadd, 1) := by decide +kernel
theorem dL_law_300 : decode cL_law 300 = .ok (.iaload, 1) := by decide +kernel
theorem dL_law_301 : decode cL_law 301 = .ok (.invokevirtual 35, 3) := by decide +kernel
theorem dL_law_304 : decode cL_law 304 = .ok (.if_icmp .eq 546, 3) := by decide +kernel
theorem dL_law_307 : decode cL_law 307 = .ok (.iconst 0, 1) := by decide +kernel
theorem dL_law_308 : decode cL_law 308 = .ok (.ireturn, 1) := by decide +kernel
theorem dL_law_309 : decode cL_law 309 = .ok (.aload_n 1, 1) := by decide +kernel
theorem dL_law_310 : decode cL_law 310 = .ok (.aload_n 0, 1) := by decide +kernel
theorem dL_law_311 : decode cL_law 311 = .ok (.iload_n 3, 1) := by decide +kernel
theorem dL_law_312 : decode cL_law 312 = .ok (.iconst 1, 1) := by decide +kernel
theorem dL_law_313 : decode cL_law 313 = .ok (.iadd, 1) := by decide +kernel
theorem dL_law_314 : decode cL_law 314 = .ok (.iaload, 1) := by decide +kernel
theorem dL_law_315 : decode cL_law 315 = .ok (.aload_n 0, 1) := by decide +kernel
theorem dL_law_316 : decode cL_law 316 = .ok (.iload_n 3, 1) := by decide +kernel
theorem dL_law_317 : decode cL_law 317 = .ok (.iconst 2, 1) := by decide +kernel
theorem dL_law_318 : decode cL_law 318 = .ok (.iadd, 1) := by decide +kernel
theorem dL_law_319 : decode cL_law 319 = .ok (.iaload, 1) := by decide +kernel
theorem dL_law_320 : decode cL_law 320 = .ok (.invokevirtual 36, 3) := by decide +kernel
theorem dL_law_323 : decode cL_law 323 = .ok (.aload_n 2, 1) := by decide +kernel
theorem dL_law_324 : decode cL_law 324 = .ok (.aload_n 0, 1) := by decide +kernel
theorem dL_law_325 : decode cL_law 325 = .ok (.iload_n 3, 1) := by decide +kernel
theorem dL_law_326 : decode cL_law 326 = .ok (.iconst 1, 1) := by decide +kernel
theorem dL_law_327 : decode cL_law 327 = .ok (.iadd, 1) := by decide +kernel
theorem dL_law_328 : decode cL_law 328 = .ok (.iaload, 1) := by decide +kernel
theorem dL_law_329 : decode cL_law 329 = .ok (.aload_n 0, 1) := by decide +kernel
theorem dL_law_330 : decode cL_law 330 = .ok (.iload_n 3, 1) := by decide +kernel
theorem dL_law_331 : decode cL_law 331 = .ok (.iconst 2, 1) := by decide +kernel
theorem dL_law_332 : decode cL_law 332 = .ok (.iadd, 1) := by decide +kernel
theorem dL_law_333 : decode cL_law 333 = .ok (.iaload, 1) := by decide +kernel
theorem dL_law_334 : decode cL_law 334 = .ok (.invokevirtual 39, 3) := by decide +kernel
theorem dL_law_337 : decode cL_law 337 = .ok (.if_icmp .eq 513, 3) := by decide +kernel
theorem dL_law_340 : decode cL_law 340 = .ok (.iconst 0, 1) := by decide +kernel
theorem dL_law_341 : decode cL_law 341 = .ok (.ireturn, 1) := by decide +kernel
theorem dL_law_342 : decode cL_law 342 = .ok (.aload_n 1, 1) := by decide +kernel
theorem dL_law_343 : decode cL_law 343 = .ok (.aload_n 0, 1) := by decide +kernel
theorem dL_law_344 : decode cL_law 344 = .ok (.iload_n 3, 1) := by decide +kernel
theorem dL_law_345 : decode cL_law 345 = .ok (.iconst 1, 1) := by decide +kernel
theorem dL_law_346 : decode cL_law 346 = .ok (.iadd, 1) := by decide +kernel
theorem dL_law_347 : decode cL_law 347 = .ok (.iaload, 1) := by decide +kernel
theorem dL_law_348 : decode cL_law 348 = .ok (.invokevirtual 40, 3) := by decide +kernel
theorem dL_law_351 : decode cL_law 351 = .ok (.aload_n 2, 1) := by decide +kernel
theorem dL_law_352 : decode cL_law 352 = .ok (.aload_n 0, 1) := by decide +kernel
theorem dL_law_353 : decode cL_law 353 = .ok (.iload_n 3, 1) := by decide +kernel
theorem dL_law_354 : decode cL_law 354 = .ok (.iconst 1, 1) := by decide +kernel
theorem dL_law_355 : decode cL_law 355 = .ok (.iadd, 1) := by decide +kernel
theorem dL_law_356 : decode cL_law 356 = .ok (.iaload, 1) := by decide +kernel
theorem dL_law_357 : decode cL_law 357 = .ok (.invokevirtual 44, 3) := by decide +kernel
theorem dL_law_360 : decode cL_law 360 = .ok (.lcmp, 1) := by decide +kernel
theorem dL_law_361 : decode cL_law 361 = .ok (.ifCond .eq 489, 3) := by decide +kernel
theorem dL_law_364 : decode cL_law 364 = .ok (.iconst 0, 1) := by decide +kernel
theorem dL_law_365 : decode cL_law 365 = .ok (.ireturn, 1) := by decide +kernel
theorem dL_law_366 : decode cL_law 366 = .ok (.aload_n 1, 1) := by decide +kernel
theorem dL_law_367 : decode cL_law 367 = .ok (.aload_n 0, 1) := by decide +kernel
theorem dL_law_368 : decode cL_law 368 = .ok (.iload_n 3, 1) := by decide +kernel
theorem dL_law_369 : decode cL_law 369 = .ok (.iconst 1, 1) := by decide +kernel
theorem dL_law_370 : decode cL_law 370 = .ok (.iadd, 1) := by decide +kernel
theorem dL_law_371 : decode cL_law 371 = .ok (.iaload, 1) := by decide +kernel
theorem dL_law_372 : decode cL_law 372 = .ok (.i2l, 1) := by decide +kernel
theorem dL_law_373 : decode cL_law 373 = .ok (.bipush 32, 2) := by decide +kernel
theorem dL_law_375 : decode cL_law 375 = .ok (.lshl, 1) := by decide +kernel
theorem dL_law_376 : decode cL_law 376 = .ok (.aload_n 0, 1) := by decide +kernel
theorem dL_law_377 : decode cL_law 377 = .ok (.iload_n 3, 1) := by decide +kernel
theorem dL_law_378 : decode cL_law 378 = .ok (.iconst 2, 1) := by decide +kernel
theorem dL_law_379 : decode cL_law 379 = .ok (.iadd, 1) := by decide +kernel
theorem dL_law_380 : decode cL_law 380 = .ok (.iaload, 1) := by decide +kernel
theorem dL_law_381 : decode cL_law 381 = .ok (.i2l, 1) := by decide +kernel
theorem dL_law_382 : decode cL_law 382 = .ok (.ldc2_w 45, 3) := by decide +kernel
theorem dL_law_385 : decode cL_law 385 = .ok (.land, 1) := by decide +kernel
theorem dL_law_386 : decode cL_law 386 = .ok (.lor, 1) := by decide +kernel
theorem dL_law_387 : decode cL_law 387 = .ok (.invokevirtual 47, 3) := by decide +kernel
theorem dL_law_390 : decode cL_law 390 = .ok (.aload_n 2, 1) := by decide +kernel
theorem dL_law_391 : decode cL_law 391 = .ok (.aload_n 0, 1) := by decide +kernel
theorem dL_law_392 : decode cL_law 392 = .ok (.iload_n 3, 1) := by decide +kernel
theorem dL_law_393 : decode cL_law 393 = .ok (.iconst 1, 1) := by decide +kernel
theorem dL_law_394 : decode cL_law 394 = .ok (.iadd, 1) := by decide +kernel
theorem dL_law_395 : decode cL_law 395 = .ok (.iaload, 1) := by decide +kernel
theorem dL_law_396 : decode cL_law 396 = .ok (.i2l, 1) := by decide +kernel
theorem dL_law_397 : decode cL_law 397 = .ok (.bipush 32, 2) := by decide +kernel
theorem dL_law_399 : decode cL_law 399 = .ok (.lshl, 1) := by decide +kernel
theorem dL_law_400 : decode cL_law 400 = .ok (.aload_n 0, 1) := by decide +kernel
theorem dL_law_401 : decode cL_law 401 = .ok (.iload_n 3, 1) := by decide +kernel
theorem dL_law_402 : decode cL_law 402 = .ok (.iconst 2, 1) := by decide +kernel
theorem dL_law_403 : decode cL_law 403 = .ok (.iadd, 1) := by decide +kernel
theorem dL_law_404 : decode cL_law 404 = .ok (.iaload, 1) := by decide +kernel
theorem dL_law_405 : decode cL_law 405 = .ok (.i2l, 1) := by decide +kernel
theorem dL_law_406 : decode cL_law 406 = .ok (.ldc2_w 45, 3) := by decide +kernel
theorem dL_law_409 : decode cL_law 409 = .ok (.land, 1) := by decide +kernel
theorem dL_law_410 : decode cL_law 410 = .ok (.lor, 1) := by decide +kernel
theorem dL_law_411 : decode cL_law 411 = .ok (.invokevirtual 51, 3) := by decide +kernel
theorem dL_law_414 : decode cL_law 414 = .ok (.if_icmp .eq 436, 3) := by decide +kernel
theorem dL_law_417 : decode cL_law 417 = .ok (.iconst 0, 1) := by decide +kernel
theorem dL_law_418 : decode cL_law 418 = .ok (.ireturn, 1) := by decide +kernel
theorem dL_law_419 : decode cL_law 419 = .ok (.aload_n 1, 1) := by decide +kernel
theorem dL_law_420 : decode cL_law 420 = .ok (.invokevirtual 52, 3) := by decide +kernel
theorem dL_law_423 : decode cL_law 423 = .ok (.aload_n 2, 1) := by decide +kernel
theorem dL_law_424 : decode cL_law 424 = .ok (.invokevirtual 56, 3) := by decide +kernel
theorem dL_law_427 : decode cL_law 427 = .ok (.if_icmp .eq 423, 3) := by decide +kernel
theorem dL_law_430 : decode cL_law 430 = .ok (.iconst 0, 1) := by decide +kernel
theorem dL_law_431 : decode cL_law 431 = .ok (.ireturn, 1) := by decide +kernel
theorem dL_law_432 : decode cL_law 432 = .ok (.aload_n 1, 1) := by decide +kernel
theorem dL_law_433 : decode cL_law 433 = .ok (.invokevirtual 57, 3) := by decide +kernel
theorem dL_law_436 : decode cL_law 436 = .ok (.aload_n 2, 1) := by decide +kernel
theorem dL_law_437 : decode cL_law 437 = .ok (.invokevirtual 60, 3) := by decide +kernel
theorem dL_law_440 : decode cL_law 440 = .ok (.if_icmp .eq 410, 3) := by decide +kernel
theorem dL_law_443 : decode cL_law 443 = .ok (.iconst 0, 1) := by decide +kernel
theorem dL_law_444 : decode cL_law 444 = .ok (.ireturn, 1) := by decide +kernel
theorem dL_law_445 : decode cL_law 445 = .ok (.aload_n 1, 1) := by decide +kernel
theorem dL_law_446 : decode cL_law 446 = .ok (.invokevirtual 61, 3) := by decide +kernel
theorem dL_law_449 : decode cL_law 449 = .ok (.aload_n 2, 1) := by decide +kernel
theorem dL_law_450 : decode cL_law 450 = .ok (.invokevirtual 64, 3) := by decide +kernel
theorem dL_law_453 : decode cL_law 453 = .ok (.if_icmp .eq 397, 3) := by decide +kernel
theorem dL_law_456 : decode cL_law 456 = .ok (.iconst 0, 1) := by decide +kernel
theorem dL_law_457 : decode cL_law 457 = .ok (.ireturn, 1) := by decide +kernel
theorem dL_law_458 : decode cL_law 458 = .ok (.aload_n 1, 1) := by decide +kernel
theorem dL_law_459 : decode cL_law 459 = .ok (.aload_n 0, 1) := by decide +kernel
theorem dL_law_460 : decode cL_law 460 = .ok (.iload_n 3, 1) := by decide +kernel
theorem dL_law_461 : decode cL_law 461 = .ok (.iconst 1, 1) := by decide +kernel
theorem dL_law_462 : decode cL_law 462 = .ok (.iadd, 1) := by decide +kernel
theorem dL_law_463 : decode cL_law 463 = .ok (.iaload, 1) := by decide +kernel
theorem dL_law_464 : decode cL_law 464 = .ok (.invokevirtual 65, 3) := by decide +kernel
theorem dL_law_467 : decode cL_law 467 = .ok (.aload_n 2, 1) := by decide +kernel
theorem dL_law_468 : decode cL_law 468 = .ok (.aload_n 0, 1) := by decide +kernel
theorem dL_law_469 : decode cL_law 469 = .ok (.iload_n 3, 1) := by decide +kernel
theorem dL_law_470 : decode cL_law 470 = .ok (.iconst 1, 1) := by decide +kernel
theorem dL_law_471 : decode cL_law 471 = .ok (.iadd, 1) := by decide +kernel
theorem dL_law_472 : decode cL_law 472 = .ok (.iaload, 1) := by decide +kernel
theorem dL_law_473 : decode cL_law 473 = .ok (.invokevirtual 68, 3) := by decide +kernel
theorem dL_law_476 : decode cL_law 476 = .ok (.if_icmp .eq 374, 3) := by decide +kernel
theorem dL_law_479 : decode cL_law 479 = .ok (.iconst 0, 1) := by decide +kernel
theorem dL_law_480 : decode cL_law 480 = .ok (.ireturn, 1) := by decide +kernel
theorem dL_law_481 : decode cL_law 481 = .ok (.aload_n 1, 1) := by decide +kernel
theorem dL_law_482 : decode cL_law 482 = .ok (.aload_n 0, 1) := by decide +kernel
theorem dL_law_483 : decode cL_law 483 = .ok (.iload_n 3, 1) := by decide +kernel
theorem dL_law_484 : decode cL_law 484 = .ok (.iconst 1, 1) := by decide +kernel
theorem dL_law_485 : decode cL_law 485 = .ok (.iadd, 1) := by decide +kernel
theorem dL_law_486 : decode cL_law 486 = .ok (.iaload, 1) := by decide +kernel
theorem dL_law_487 : decode cL_law 487 = .ok (.invokevirtual 69, 3) := by decide +kernel
theorem dL_law_490 : decode cL_law 490 = .ok (.aload_n 2, 1) := by decide +kernel
theorem dL_law_491 : decode cL_law 491 = .ok (.aload_n 0, 1) := by decide +kernel
theorem dL_law_492 : decode cL_law 492 = .ok (.iload_n 3, 1) := by decide +kernel
theorem dL_law_493 : decode cL_law 493 = .ok (.iconst 1, 1) := by decide +kernel
theorem dL_law_494 : decode cL_law 494 = .ok (.iadd, 1) := by decide +kernel
theorem dL_law_495 : decode cL_law 495 = .ok (.iaload, 1) := by decide +kernel
theorem dL_law_496 : decode cL_law 496 = .ok (.invokevirtual 72, 3) := by decide +kernel
theorem dL_law_499 : decode cL_law 499 = .ok (.if_icmp .eq 351, 3) := by decide +kernel
theorem dL_law_502 : decode cL_law 502 = .ok (.iconst 0, 1) := by decide +kernel
theorem dL_law_503 : decode cL_law 503 = .ok (.ireturn, 1) := by decide +kernel
theorem dL_law_504 : decode cL_law 504 = .ok (.aload_n 1, 1) := by decide +kernel
theorem dL_law_505 : decode cL_law 505 = .ok (.aload_n 0, 1) := by decide +kernel
theorem dL_law_506 : decode cL_law 506 = .ok (.iload_n 3, 1) := by decide +kernel
theorem dL_law_507 : decode cL_law 507 = .ok (.iconst 1, 1) := by decide +kernel
theorem dL_law_508 : decode cL_law 508 = .ok (.iadd, 1) := by decide +kernel
theorem dL_law_509 : decode cL_law 509 = .ok (.iaload, 1) := by decide +kernel
theorem dL_law_510 : decode cL_law 510 = .ok (.aload_n 0, 1) := by decide +kernel
theorem dL_law_511 : decode cL_law 511 = .ok (.iload_n 3, 1) := by decide +kernel
theorem dL_law_512 : decode cL_law 512 = .ok (.iconst 2, 1) := by decide +kernel
theorem dL_law_513 : decode cL_law 513 = .ok (.iadd, 1) := by decide +kernel
theorem dL_law_514 : decode cL_law 514 = .ok (.iaload, 1) := by decide +kernel
theorem dL_law_515 : decode cL_law 515 = .ok (.invokevirtual 73, 3) := by decide +kernel
theorem dL_law_518 : decode cL_law 518 = .ok (.aload_n 2, 1) := by decide +kernel
theorem dL_law_519 : decode cL_law 519 = .ok (.aload_n 0, 1) := by decide +kernel
theorem dL_law_520 : decode cL_law 520 = .ok (.iload_n 3, 1) := by decide +kernel
theorem dL_law_521 : decode cL_law 521 = .ok (.iconst 1, 1) := by decide +kernel
theorem dL_law_522 : decode cL_law 522 = .ok (.iadd, 1) := by decide +kernel
theorem dL_law_523 : decode cL_law 523 = .ok (.iaload, 1) := by decide +kernel
theorem dL_law_524 : decode cL_law 524 = .ok (.aload_n 0, 1) := by decide +kernel
theorem dL_law_525 : decode cL_law 525 = .ok (.iload_n 3, 1) := by decide +kernel
theorem dL_law_526 : decode cL_law 526 = .ok (.iconst 2, 1) := by decide +kernel
theorem dL_law_527 : decode cL_law 527 = .ok (.iadd, 1) := by decide +kernel
theorem dL_law_528 : decode cL_law 528 = .ok (.iaload, 1) := by decide +kernel
theorem dL_law_529 : decode cL_law 529 = .ok (.invokevirtual 76, 3) := by decide +kernel
theorem dL_law_532 : decode cL_law 532 = .ok (.if_icmp .eq 318, 3) := by decide +kernel
theorem dL_law_535 : decode cL_law 535 = .ok (.iconst 0, 1) := by decide +kernel
theorem dL_law_536 : decode cL_law 536 = .ok (.ireturn, 1) := by decide +kernel
theorem dL_law_537 : decode cL_law 537 = .ok (.aload_n 1, 1) := by decide +kernel
theorem dL_law_538 : decode cL_law 538 = .ok (.aload_n 0, 1) := by decide +kernel
theorem dL_law_539 : decode cL_law 539 = .ok (.iload_n 3, 1) := by decide +kernel
theorem dL_law_540 : decode cL_law 540 = .ok (.iconst 1, 1) := by decide +kernel
theorem dL_law_541 : decode cL_law 541 = .ok (.iadd, 1) := by decide +kernel
theorem dL_law_542 : decode cL_law 542 = .ok (.iaload, 1) := by decide +kernel
theorem dL_law_543 : decode cL_law 543 = .ok (.aload_n 0, 1) := by decide +kernel
theorem dL_law_544 : decode cL_law 544 = .ok (.iload_n 3, 1) := by decide +kernel
theorem dL_law_545 : decode cL_law 545 = .ok (.iconst 2, 1) := by decide +kernel
theorem dL_law_546 : decode cL_law 546 = .ok (.iadd, 1) := by decide +kernel
theorem dL_law_547 : decode cL_law 547 = .ok (.iaload, 1) := by decide +kernel
theorem dL_law_548 : decode cL_law 548 = .ok (.invokevirtual 77, 3) := by decide +kernel
theorem dL_law_551 : decode cL_law 551 = .ok (.aload_n 2, 1) := by decide +kernel
theorem dL_law_552 : decode cL_law 552 = .ok (.aload_n 0, 1) := by decide +kernel
theorem dL_law_553 : decode cL_law 553 = .ok (.iload_n 3, 1) := by decide +kernel
theorem dL_law_554 : decode cL_law 554 = .ok (.iconst 1, 1) := by decide +kernel
theorem dL_law_555 : decode cL_law 555 = .ok (.iadd, 1) := by decide +kernel
theorem dL_law_556 : decode cL_law 556 = .ok (.iaload, 1) := by decide +kernel
theorem dL_law_557 : decode cL_law 557 = .ok (.aload_n 0, 1) := by decide +kernel
theorem dL_law_558 : decode cL_law 558 = .ok (.iload_n 3, 1) := by decide +kernel
theorem dL_law_559 : decode cL_law 559 = .ok (.iconst 2, 1) := by decide +kernel
theorem dL_law_560 : decode cL_law 560 = .ok (.iadd, 1) := by decide +kernel
theorem dL_law_561 : decode cL_law 561 = .ok (.iaload, 1) := by decide +kernel
theorem dL_law_562 : decode cL_law 562 = .ok (.invokevirtual 81, 3) := by decide +kernel
theorem dL_law_565 : decode cL_law 565 = .ok (.lcmp, 1) := by decide +kernel
theorem dL_law_566 : decode cL_law 566 = .ok (.ifCond .eq 284, 3) := by decide +kernel
theorem dL_law_569 : decode cL_law 569 = .ok (.iconst 0, 1) := by decide +kernel
theorem dL_law_570 : decode cL_law 570 = .ok (.ireturn, 1) := by decide +kernel
theorem dL_law_571 : decode cL_law 571 = .ok (.aload_n 1, 1) := by decide +kernel
theorem dL_law_572 : decode cL_law 572 = .ok (.invokevirtual 82, 3) := by decide +kernel
theorem dL_law_575 : decode cL_law 575 = .ok (.aload_n 2, 1) := by decide +kernel
theorem dL_law_576 : decode cL_law 576 = .ok (.invokevirtual 86, 3) := by decide +kernel
theorem dL_law_579 : decode cL_law 579 = .ok (.lcmp, 1) := by decide +kernel
theorem dL_law_580 : decode cL_law 580 = .ok (.ifCond .eq 270, 3) := by decide +kernel
theorem dL_law_583 : decode cL_law 583 = .ok (.iconst 0, 1) := by decide +kernel
theorem dL_law_584 : decode cL_law 584 = .ok (.ireturn, 1) := by decide +kernel
theorem dL_law_585 : decode cL_law 585 = .ok (.aload_n 1, 1) := by decide +kernel
theorem dL_law_586 : decode cL_law 586 = .ok (.aload_n 0, 1) := by decide +kernel
theorem dL_law_587 : decode cL_law 587 = .ok (.iload_n 3, 1) := by decide +kernel
theorem dL_law_588 : decode cL_law 588 = .ok (.iconst 1, 1) := by decide +kernel
theorem dL_law_589 : decode cL_law 589 = .ok (.iadd, 1) := by decide +kernel
theorem dL_law_590 : decode cL_law 590 = .ok (.iaload, 1) := by decide +kernel
theorem dL_law_591 : decode cL_law 591 = .ok (.invokevirtual 87, 3) := by decide +kernel
theorem dL_law_594 : decode cL_law 594 = .ok (.aload_n 2, 1) := by decide +kernel
theorem dL_law_595 : decode cL_law 595 = .ok (.aload_n 0, 1) := by decide +kernel
theorem dL_law_596 : decode cL_law 596 = .ok (.iload_n 3, 1) := by decide +kernel
theorem dL_law_597 : decode cL_law 597 = .ok (.iconst 1, 1) := by decide +kernel
theorem dL_law_598 : decode cL_law 598 = .ok (.iadd, 1) := by decide +kernel
theorem dL_law_599 : decode cL_law 599 = .ok (.iaload, 1) := by decide +kernel
theorem dL_law_600 : decode cL_law 600 = .ok (.invokevirtual 90, 3) := by decide +kernel
theorem dL_law_603 : decode cL_law 603 = .ok (.if_icmp .eq 247, 3) := by decide +kernel
theorem dL_law_606 : decode cL_law 606 = .ok (.iconst 0, 1) := by decide +kernel
theorem dL_law_607 : decode cL_law 607 = .ok (.ireturn, 1) := by decide +kernel
theorem dL_law_608 : decode cL_law 608 = .ok (.aload_n 1, 1) := by decide +kernel
theorem dL_law_609 : decode cL_law 609 = .ok (.aload_n 0, 1) := by decide +kernel
theorem dL_law_610 : decode cL_law 610 = .ok (.iload_n 3, 1) := by decide +kernel
theorem dL_law_611 : decode cL_law 611 = .ok (.iconst 1, 1) := by decide +kernel
theorem dL_law_612 : decode cL_law 612 = .ok (.iadd, 1) := by decide +kernel
theorem dL_law_613 : decode cL_law 613 = .ok (.iaload, 1) := by decide +kernel
theorem dL_law_614 : decode cL_law 614 = .ok (.aload_n 0, 1) := by decide +kernel
theorem dL_law_615 : decode cL_law 615 = .ok (.iload_n 3, 1) := by decide +kernel
theorem dL_law_616 : decode cL_law 616 = .ok (.iconst 2, 1) := by decide +kernel
theorem dL_law_617 : decode cL_law 617 = .ok (.iadd, 1) := by decide +kernel
theorem dL_law_618 : decode cL_law 618 = .ok (.iaload, 1) := by decide +kernel
theorem dL_law_619 : decode cL_law 619 = .ok (.invokevirtual 91, 3) := by decide +kernel
theorem dL_law_622 : decode cL_law 622 = .ok (.aload_n 2, 1) := by decide +kernel
theorem dL_law_623 : decode cL_law 623 = .ok (.aload_n 0, 1) := by decide +kernel
theorem dL_law_624 : decode cL_law 624 = .ok (.iload_n 3, 1) := by decide +kernel
theorem dL_law_625 : decode cL_law 625 = .ok (.iconst 1, 1) := by decide +kernel
theorem dL_law_626 : decode cL_law 626 = .ok (.iadd, 1) := by decide +kernel
theorem dL_law_627 : decode cL_law 627 = .ok (.iaload, 1) := by decide +kernel
theorem dL_law_628 : decode cL_law 628 = .ok (.aload_n 0, 1) := by decide +kernel
theorem dL_law_629 : decode cL_law 629 = .ok (.iload_n 3, 1) := by decide +kernel
theorem dL_law_630 : decode cL_law 630 = .ok (.iconst 2, 1) := by decide +kernel
theorem dL_law_631 : decode cL_law 631 = .ok (.iadd, 1) := by decide +kernel
theorem dL_law_632 : decode cL_law 632 = .ok (.iaload, 1) := by decide +kernel
theorem dL_law_633 : decode cL_law 633 = .ok (.invokevirtual 94, 3) := by decide +kernel
theorem dL_law_636 : decode cL_law 636 = .ok (.if_icmp .eq 214, 3) := by decide +kernel
theorem dL_law_639 : decode cL_law 639 = .ok (.iconst 0, 1) := by decide +kernel
theorem dL_law_640 : decode cL_law 640 = .ok (.ireturn, 1) := by decide +kernel
theorem dL_law_641 : decode cL_law 641 = .ok (.aload_n 1, 1) := by decide +kernel
theorem dL_law_642 : decode cL_law 642 = .ok (.aload_n 0, 1) := by decide +kernel
theorem dL_law_643 : decode cL_law 643 = .ok (.iload_n 3, 1) := by decide +kernel
theorem dL_law_644 : decode cL_law 644 = .ok (.iconst 1, 1) := by decide +kernel
theorem dL_law_645 : decode cL_law 645 = .ok (.iadd, 1) := by decide +kernel
theorem dL_law_646 : decode cL_law 646 = .ok (.iaload, 1) := by decide +kernel
theorem dL_law_647 : decode cL_law 647 = .ok (.aload_n 0, 1) := by decide +kernel
theorem dL_law_648 : decode cL_law 648 = .ok (.iload_n 3, 1) := by decide +kernel
theorem dL_law_649 : decode cL_law 649 = .ok (.iconst 2, 1) := by decide +kernel
theorem dL_law_650 : decode cL_law 650 = .ok (.iadd, 1) := by decide +kernel
theorem dL_law_651 : decode cL_law 651 = .ok (.iaload, 1) := by decide +kernel
theorem dL_law_652 : decode cL_law 652 = .ok (.invokevirtual 95, 3) := by decide +kernel
theorem dL_law_655 : decode cL_law 655 = .ok (.aload_n 2, 1) := by decide +kernel
theorem dL_law_656 : decode cL_law 656 = .ok (.aload_n 0, 1) := by decide +kernel
theorem dL_law_657 : decode cL_law 657 = .ok (.iload_n 3, 1) := by decide +kernel
theorem dL_law_658 : decode cL_law 658 = .ok (.iconst 1, 1) := by decide +kernel
theorem dL_law_659 : decode cL_law 659 = .ok (.iadd, 1) := by decide +kernel
theorem dL_law_660 : decode cL_law 660 = .ok (.iaload, 1) := by decide +kernel
theorem dL_law_661 : decode cL_law 661 = .ok (.aload_n 0, 1) := by decide +kernel
theorem dL_law_662 : decode cL_law 662 = .ok (.iload_n 3, 1) := by decide +kernel
theorem dL_law_663 : decode cL_law 663 = .ok (.iconst 2, 1) := by decide +kernel
theorem dL_law_664 : decode cL_law 664 = .ok (.iadd, 1) := by decide +kernel
theorem dL_law_665 : decode cL_law 665 = .ok (.iaload, 1) := by decide +kernel
theorem dL_law_666 : decode cL_law 666 = .ok (.invokevirtual 98, 3) := by decide +kernel
theorem dL_law_669 : decode cL_law 669 = .ok (.lcmp, 1) := by decide +kernel
theorem dL_law_670 : decode cL_law 670 = .ok (.ifCond .eq 180, 3) := by decide +kernel
theorem dL_law_673 : decode cL_law 673 = .ok (.iconst 0, 1) := by decide +kernel
theorem dL_law_674 : decode cL_law 674 = .ok (.ireturn, 1) := by decide +kernel
theorem dL_law_675 : decode cL_law 675 = .ok (.aload_n 1, 1) := by decide +kernel
theorem dL_law_676 : decode cL_law 676 = .ok (.aload_n 0, 1) := by decide +kernel
theorem dL_law_677 : decode cL_law 677 = .ok (.iload_n 3, 1) := by decide +kernel
theorem dL_law_678 : decode cL_law 678 = .ok (.iconst 1, 1) := by decide +kernel
theorem dL_law_679 : decode cL_law 679 = .ok (.iadd, 1) := by decide +kernel
theorem dL_law_680 : decode cL_law 680 = .ok (.iaload, 1) := by decide +kernel
theorem dL_law_681 : decode cL_law 681 = .ok (.aload_n 0, 1) := by decide +kernel
theorem dL_law_682 : decode cL_law 682 = .ok (.iload_n 3, 1) := by decide +kernel
theorem dL_law_683 : decode cL_law 683 = .ok (.iconst 2, 1) := by decide +kernel
theorem dL_law_684 : decode cL_law 684 = .ok (.iadd, 1) := by decide +kernel
theorem dL_law_685 : decode cL_law 685 = .ok (.iaload, 1) := by decide +kernel
theorem dL_law_686 : decode cL_law 686 = .ok (.invokevirtual 99, 3) := by decide +kernel
theorem dL_law_689 : decode cL_law 689 = .ok (.aload_n 2, 1) := by decide +kernel
theorem dL_law_690 : decode cL_law 690 = .ok (.aload_n 0, 1) := by decide +kernel
theorem dL_law_691 : decode cL_law 691 = .ok (.iload_n 3, 1) := by decide +kernel
theorem dL_law_692 : decode cL_law 692 = .ok (.iconst 1, 1) := by decide +kernel
theorem dL_law_693 : decode cL_law 693 = .ok (.iadd, 1) := by decide +kernel
theorem dL_law_694 : decode cL_law 694 = .ok (.iaload, 1) := by decide +kernel
theorem dL_law_695 : decode cL_law 695 = .ok (.aload_n 0, 1) := by decide +kernel
theorem dL_law_696 : decode cL_law 696 = .ok (.iload_n 3, 1) := by decide +kernel
theorem dL_law_697 : decode cL_law 697 = .ok (.iconst 2, 1) := by decide +kernel
theorem dL_law_698 : decode cL_law 698 = .ok (.iadd, 1) := by decide +kernel
theorem dL_law_699 : decode cL_law 699 = .ok (.iaload, 1) := by decide +kernel
theorem dL_law_700 : decode cL_law 700 = .ok (.invokevirtual 102, 3) := by decide +kernel
theorem dL_law_703 : decode cL_law 703 = .ok (.if_icmp .eq 147, 3) := by decide +kernel
theorem dL_law_706 : decode cL_law 706 = .ok (.iconst 0, 1) := by decide +kernel
theorem dL_law_707 : decode cL_law 707 = .ok (.ireturn, 1) := by decide +kernel
theorem dL_law_708 : decode cL_law 708 = .ok (.aload_n 1, 1) := by decide +kernel
theorem dL_law_709 : decode cL_law 709 = .ok (.aload_n 0, 1) := by decide +kernel
theorem dL_law_710 : decode cL_law 710 = .ok (.iload_n 3, 1) := by decide +kernel
theorem dL_law_711 : decode cL_law 711 = .ok (.iconst 1, 1) := by decide +kernel
theorem dL_law_712 : decode cL_law 712 = .ok (.iadd, 1) := by decide +kernel
theorem dL_law_713 : decode cL_law 713 = .ok (.iaload, 1) := by decide +kernel
theorem dL_law_714 : decode cL_law 714 = .ok (.aload_n 0, 1) := by decide +kernel
theorem dL_law_715 : decode cL_law 715 = .ok (.iload_n 3, 1) := by decide +kernel
theorem dL_law_716 : decode cL_law 716 = .ok (.iconst 2, 1) := by decide +kernel
theorem dL_law_717 : decode cL_law 717 = .ok (.iadd, 1) := by decide +kernel
theorem dL_law_718 : decode cL_law 718 = .ok (.iaload, 1) := by decide +kernel
theorem dL_law_719 : decode cL_law 719 = .ok (.invokevirtual 103, 3) := by decide +kernel
theorem dL_law_722 : decode cL_law 722 = .ok (.aload_n 2, 1) := by decide +kernel
theorem dL_law_723 : decode cL_law 723 = .ok (.aload_n 0, 1) := by decide +kernel
theorem dL_law_724 : decode cL_law 724 = .ok (.iload_n 3, 1) := by decide +kernel
theorem dL_law_725 : decode cL_law 725 = .ok (.iconst 1, 1) := by decide +kernel
theorem dL_law_726 : decode cL_law 726 = .ok (.iadd, 1) := by decide +kernel
theorem dL_law_727 : decode cL_law 727 = .ok (.iaload, 1) := by decide +kernel
theorem dL_law_728 : decode cL_law 728 = .ok (.aload_n 0, 1) := by decide +kernel
theorem dL_law_729 : decode cL_law 729 = .ok (.iload_n 3, 1) := by decide +kernel
theorem dL_law_730 : decode cL_law 730 = .ok (.iconst 2, 1) := by decide +kernel
theorem dL_law_731 : decode cL_law 731 = .ok (.iadd, 1) := by decide +kernel
theorem dL_law_732 : decode cL_law 732 = .ok (.iaload, 1) := by decide +kernel
theorem dL_law_733 : decode cL_law 733 = .ok (.invokevirtual 106, 3) := by decide +kernel
theorem dL_law_736 : decode cL_law 736 = .ok (.if_icmp .eq 114, 3) := by decide +kernel
theorem dL_law_739 : decode cL_law 739 = .ok (.iconst 0, 1) := by decide +kernel
theorem dL_law_740 : decode cL_law 740 = .ok (.ireturn, 1) := by decide +kernel
theorem dL_law_741 : decode cL_law 741 = .ok (.aload_n 1, 1) := by decide +kernel
theorem dL_law_742 : decode cL_law 742 = .ok (.aload_n 0, 1) := by decide +kernel
theorem dL_law_743 : decode cL_law 743 = .ok (.iload_n 3, 1) := by decide +kernel
theorem dL_law_744 : decode cL_law 744 = .ok (.iconst 1, 1) := by decide +kernel
theorem dL_law_745 : decode cL_law 745 = .ok (.iadd, 1) := by decide +kernel
theorem dL_law_746 : decode cL_law 746 = .ok (.iaload, 1) := by decide +kernel
theorem dL_law_747 : decode cL_law 747 = .ok (.aload_n 0, 1) := by decide +kernel
theorem dL_law_748 : decode cL_law 748 = .ok (.iload_n 3, 1) := by decide +kernel
theorem dL_law_749 : decode cL_law 749 = .ok (.iconst 2, 1) := by decide +kernel
theorem dL_law_750 : decode cL_law 750 = .ok (.iadd, 1) := by decide +kernel
theorem dL_law_751 : decode cL_law 751 = .ok (.iaload, 1) := by decide +kernel
theorem dL_law_752 : decode cL_law 752 = .ok (.aload_n 0, 1) := by decide +kernel
theorem dL_law_753 : decode cL_law 753 = .ok (.iload_n 3, 1) := by decide +kernel
theorem dL_law_754 : decode cL_law 754 = .ok (.iconst 3, 1) := by decide +kernel
theorem dL_law_755 : decode cL_law 755 = .ok (.iadd, 1) := by decide +kernel
theorem dL_law_756 : decode cL_law 756 = .ok (.iaload, 1) := by decide +kernel
theorem dL_law_757 : decode cL_law 757 = .ok (.aload_n 0, 1) := by decide +kernel
theorem dL_law_758 : decode cL_law 758 = .ok (.iload_n 3, 1) := by decide +kernel
theorem dL_law_759 : decode cL_law 759 = .ok (.iconst 4, 1) := by decide +kernel
theorem dL_law_760 : decode cL_law 760 = .ok (.iadd, 1) := by decide +kernel
theorem dL_law_761 : decode cL_law 761 = .ok (.iaload, 1) := by decide +kernel
theorem dL_law_762 : decode cL_law 762 = .ok (.aload_n 0, 1) := by decide +kernel
theorem dL_law_763 : decode cL_law 763 = .ok (.iload_n 3, 1) := by decide +kernel
theorem dL_law_764 : decode cL_law 764 = .ok (.iconst 5, 1) := by decide +kernel
theorem dL_law_765 : decode cL_law 765 = .ok (.iadd, 1) := by decide +kernel
theorem dL_law_766 : decode cL_law 766 = .ok (.iaload, 1) := by decide +kernel
theorem dL_law_767 : decode cL_law 767 = .ok (.invokevirtual 107, 3) := by decide +kernel
theorem dL_law_770 : decode cL_law 770 = .ok (.aload_n 2, 1) := by decide +kernel
theorem dL_law_771 : decode cL_law 771 = .ok (.aload_n 0, 1) := by decide +kernel
theorem dL_law_772 : decode cL_law 772 = .ok (.iload_n 3, 1) := by decide +kernel
theorem dL_law_773 : decode cL_law 773 = .ok (.iconst 1, 1) := by decide +kernel
theorem dL_law_774 : decode cL_law 774 = .ok (.iadd, 1) := by decide +kernel
theorem dL_law_775 : decode cL_law 775 = .ok (.iaload, 1) := by decide +kernel
theorem dL_law_776 : decode cL_law 776 = .ok (.aload_n 0, 1) := by decide +kernel
theorem dL_law_777 : decode cL_law 777 = .ok (.iload_n 3, 1) := by decide +kernel
theorem dL_law_778 : decode cL_law 778 = .ok (.iconst 2, 1) := by decide +kernel
theorem dL_law_779 : decode cL_law 779 = .ok (.iadd, 1) := by decide +kernel
theorem dL_law_780 : decode cL_law 780 = .ok (.iaload, 1) := by decide +kernel
theorem dL_law_781 : decode cL_law 781 = .ok (.aload_n 0, 1) := by decide +kernel
theorem dL_law_782 : decode cL_law 782 = .ok (.iload_n 3, 1) := by decide +kernel
theorem dL_law_783 : decode cL_law 783 = .ok (.iconst 3, 1) := by decide +kernel
theorem dL_law_784 : decode cL_law 784 = .ok (.iadd, 1) := by decide +kernel
theorem dL_law_785 : decode cL_law 785 = .ok (.iaload, 1) := by decide +kernel
theorem dL_law_786 : decode cL_law 786 = .ok (.aload_n 0, 1) := by decide +kernel
theorem dL_law_787 : decode cL_law 787 = .ok (.iload_n 3, 1) := by decide +kernel
theorem dL_law_788 : decode cL_law 788 = .ok (.iconst 4, 1) := by decide +kernel
theorem dL_law_789 : decode cL_law 789 = .ok (.iadd, 1) := by decide +kernel
theorem dL_law_790 : decode cL_law 790 = .ok (.iaload, 1) := by decide +kernel
theorem dL_law_791 : decode cL_law 791 = .ok (.aload_n 0, 1) := by decide +kernel
theorem dL_law_792 : decode cL_law 792 = .ok (.iload_n 3, 1) := by decide +kernel
theorem dL_law_793 : decode cL_law 793 = .ok (.iconst 5, 1) := by decide +kernel
theorem dL_law_794 : decode cL_law 794 = .ok (.iadd, 1) := by decide +kernel
theorem dL_law_795 : decode cL_law 795 = .ok (.iaload, 1) := by decide +kernel
theorem dL_law_796 : decode cL_law 796 = .ok (.invokevirtual 111, 3) := by decide +kernel
theorem dL_law_799 : decode cL_law 799 = .ok (.if_icmp .eq 51, 3) := by decide +kernel
theorem dL_law_802 : decode cL_law 802 = .ok (.iconst 0, 1) := by decide +kernel
theorem dL_law_803 : decode cL_law 803 = .ok (.ireturn, 1) := by decide +kernel
theorem dL_law_804 : decode cL_law 804 = .ok (.aload_n 1, 1) := by decide +kernel
theorem dL_law_805 : decode cL_law 805 = .ok (.aload_n 0, 1) := by decide +kernel
theorem dL_law_806 : decode cL_law 806 = .ok (.iload_n 3, 1) := by decide +kernel
theorem dL_law_807 : decode cL_law 807 = .ok (.iconst 1, 1) := by decide +kernel
theorem dL_law_808 : decode cL_law 808 = .ok (.iadd, 1) := by decide +kernel
theorem dL_law_809 : decode cL_law 809 = .ok (.iaload, 1) := by decide +kernel
theorem dL_law_810 : decode cL_law 810 = .ok (.invokevirtual 112, 3) := by decide +kernel
theorem dL_law_813 : decode cL_law 813 = .ok (.aload_n 2, 1) := by decide +kernel
theorem dL_law_814 : decode cL_law 814 = .ok (.aload_n 0, 1) := by decide +kernel
theorem dL_law_815 : decode cL_law 815 = .ok (.iload_n 3, 1) := by decide +kernel
theorem dL_law_816 : decode cL_law 816 = .ok (.iconst 1, 1) := by decide +kernel
theorem dL_law_817 : decode cL_law 817 = .ok (.iadd, 1) := by decide +kernel
theorem dL_law_818 : decode cL_law 818 = .ok (.iaload, 1) := by decide +kernel
theorem dL_law_819 : decode cL_law 819 = .ok (.invokevirtual 115, 3) := by decide +kernel
theorem dL_law_822 : decode cL_law 822 = .ok (.if_icmp .eq 28, 3) := by decide +kernel
theorem dL_law_825 : decode cL_law 825 = .ok (.iconst 0, 1) := by decide +kernel
theorem dL_law_826 : decode cL_law 826 = .ok (.ireturn, 1) := by decide +kernel
theorem dL_law_827 : decode cL_law 827 = .ok (.aload_n 1, 1) := by decide +kernel
theorem dL_law_828 : decode cL_law 828 = .ok (.aload_n 0, 1) := by decide +kernel
theorem dL_law_829 : decode cL_law 829 = .ok (.iload_n 3, 1) := by decide +kernel
theorem dL_law_830 : decode cL_law 830 = .ok (.iconst 1, 1) := by decide +kernel
theorem dL_law_831 : decode cL_law 831 = .ok (.iadd, 1) := by decide +kernel
theorem dL_law_832 : decode cL_law 832 = .ok (.iaload, 1) := by decide +kernel
theorem dL_law_833 : decode cL_law 833 = .ok (.invokevirtual 116, 3) := by decide +kernel
theorem dL_law_836 : decode cL_law 836 = .ok (.aload_n 2, 1) := by decide +kernel
theorem dL_law_837 : decode cL_law 837 = .ok (.aload_n 0, 1) := by decide +kernel
theorem dL_law_838 : decode cL_law 838 = .ok (.iload_n 3, 1) := by decide +kernel
theorem dL_law_839 : decode cL_law 839 = .ok (.iconst 1, 1) := by decide +kernel
theorem dL_law_840 : decode cL_law 840 = .ok (.iadd, 1) := by decide +kernel
theorem dL_law_841 : decode cL_law 841 = .ok (.iaload, 1) := by decide +kernel
theorem dL_law_842 : decode cL_law 842 = .ok (.invokevirtual 119, 3) := by decide +kernel
theorem dL_law_845 : decode cL_law 845 = .ok (.if_icmp .eq 5, 3) := by decide +kernel
theorem dL_law_848 : decode cL_law 848 = .ok (.iconst 0, 1) := by decide +kernel
theorem dL_law_849 : decode cL_law 849 = .ok (.ireturn, 1) := by decide +kernel
theorem dL_law_850 : decode cL_law 850 = .ok (.iinc 3 6, 3) := by decide +kernel
theorem dL_law_853 : decode cL_law 853 = .ok (.goto (-835), 3) := by decide +kernel
theorem dL_law_856 : decode cL_law 856 = .ok (.iconst 1, 1) := by decide +kernel
theorem dL_law_857 : decode cL_law 857 = .ok (.ireturn, 1) := by decide +kernel
end
section
abbrev Kd : Type := Nat ⊕ (Nat × Nat)
abbrev MI : Type := Nat → Nat → Int32
abbrev ML : Type := Nat → Nat → Int64
abbrev MR : Type := Nat → Nat → Option Nat
abbrev MY : Type := Nat × (Nat → Kd) × MR
abbrev Gd : Type := va_G × (Nat → ClassId) × (Nat → Nat)
def up1 {α : Type} (f : Nat → α) (k : Nat) (v : α) : Nat → α := fun j => if j = k then v else f j
def up2 {α : Type} (f : Nat → Nat → α) (a k : Nat) (v : α) : Nat → Nat → α := up1 f a (up1 (f a) k v)
theorem up1_s {α : Type} {f : Nat → α} {k : Nat} {v : α} : up1 f k v k = v := if_pos rfl
theorem up1_n {α : Type} {f : Nat → α} {k j : Nat} {v : α} (h : j ≠ k) : up1 f k v j = f j := if_neg h
theorem up2_row {α : Type} {f : Nat → Nat → α} {a k : Nat} {v : α} : up2 f a k v a = up1 (f a) k v := up1_s
theorem up2_rown {α : Type} {f : Nat → Nat → α} {a b k : Nat} {v : α} (h : b ≠ a) : up2 f a k v b = f b := up1_n h
theorem up2_s {α : Type} {f : Nat → Nat → α} {a k : Nat} {v : α} : up2 f a k v a k = v := by rw [up2_row, up1_s]
theorem up2_na {α : Type} {f : Nat → Nat → α} {a k b j : Nat} {v : α} (h : b ≠ a) : up2 f a k v b j = f b j := by rw [up2_rown h]
theorem up2_nk {α : Type} {f : Nat → Nat → α} {a k b j : Nat} {v : α} (h : j ≠ k) : up2 f a k v b j = f b j := by
  by_cases hb : b = a
  · subst hb; rw [up2_row, up1_n h]
  · rw [up2_rown hb]
def tyf (ci : Nat) : Nat → FieldType := match ci with
  | 0 => tyX0
  | 1 => tyX1
  | 2 => tyX2
  | 3 => tyX3
  | 4 => tyX4
  | 5 => tyX5
  | _ => tyX6
def nfl (ci : Nat) : Nat := match ci with
  | 0 => 15
  | 1 => 11
  | 2 => 7
  | 3 => 7
  | 4 => 15
  | 5 => 3
  | _ => 11
def ftc (t : FieldType) : Nat := match t with
  | .long => 1
  | .object _ => 2
  | .array _ => 2
  | _ => 0
def fv (t : Nat) (i : Int32) (l : Int64) (r : Option Nat) : Value := match t with
  | 0 => .int i
  | 1 => .long l
  | _ => va_rf r
def tc (ci k : Nat) : Nat := ftc (tyf ci k)
def aty (t : Nat) : FieldType := match t with
  | 0 => .int
  | 1 => .long
  | 2 => .boolean
  | 3 => .char
  | 4 => .object "FairLink$Flow"
  | 5 => .object "FairLink$Packet"
  | 6 => .object "FairLink$Piece"
  | _ => .object "FairLink$State"
abbrev atys (G : Gd) : List (ClassId × FieldType) := (List.range 8).map fun t => (G.2.1 t, aty t)
def KN (G : Gd) (s : State) : Prop := va_K G.1 vwCl (atys G) s
abbrev Ab (base : Nat) : Nat → Prop := fun q => base ≤ q
/-- the cell at a: of kind d, with these ints, longs and references -/
def hc (G : Gd) (d : Kd) (a : Nat) (i : Nat → Int32) (l : Nat → Int64) (r : Nat → Option Nat) (H : Heap) : Prop := match d with
  | .inl ci => ∃ q : vw_C, vwCl[ci]? = some q ∧ t_OB a (G.1.1 ci) q.2.2 (G.1.2 ci) H (fun k => fv (tc ci k) (i k) (l k) (r k))
  | .inr (t, n) => H[a]? = some (arrV (G.2.1 t) n (fun j => fv (ftc (aty t)) (i j) (l j) (r j)))
def Is (base : Nat) (Y : MY) (a : Nat) (d : Kd) : Prop := (base ≤ a ∧ a < base + Y.1) ∧ Y.2.1 a = d
def HP (G : Gd) (base : Nat) (Y : MY) (I : MI) (L : ML) (H : Heap) : Prop := H.size = base + Y.1 ∧ ∀ a d, Is base Y a d → hc G d a (I a) (L a) (Y.2.2 a) H
def snm (j : Nat) : String := match j with
  | 0 => "FLOW_LEAST"
  | 1 => "FLOW_GREATEST"
  | 2 => "FLOW_FIRST"
  | 3 => "LINK_GREATEST"
  | _ => "LINK_FIRST"
def scl (j : Nat) : List Int32 := match j with
  | 0 => [1, 1, 0, 0, 0]
  | 1 => [16, 20, 1000, 1000, 2]
  | 2 => [1, 20, 0, 0, 2]
  | 3 => [50, 50, 1000, 1]
  | _ => [2, 1, 10, 1]
abbrev ncl : List String := ["FairLink$Flow", "FairLink$Packet", "FairLink$Piece", "FairLink$State"]
/-- what the start gives of static arrays, arrays of own objects and nest mates -/
def ST (G : Gd) (base : Nat) (s : State) (H : Heap) : Prop :=
  (∀ j, j < 5 → va_Z "FairLink" (snm j) "[I" (.ref (G.2.2 j)) (Ab base) s H ∧ va_T .int (G.2.2 j) (scl j).length (fun k => .int ((scl j).getD k 0)) (Ab base) s H)
  ∧ (∀ C, C ∈ ncl → va_AO C s)
  ∧ va_Nw (.fieldLinkNest RX0 9 RX5 "FLOW_FIRST" "[I" RX5) s ∧ va_Nw (.fieldLinkNest RX4 9 RX5 "LINK_FIRST" "[I" RX5) s ∧ va_Nw (.methodLinkNest RX4 37 yX1_init RX5) s
theorem ST.moved {G : Gd} {base : Nat} {s t : State} {H : Heap} (h : ST G base s H) (hW : s.WarmedH t.vm) : ST G base t H :=
  ⟨fun j hj => ⟨(h.1 j hj).1.moved hW.alike, (h.1 j hj).2.moved hW.alike⟩, fun C hC => (h.2.1 C hC).moved hW.alike, h.2.2.1.warmF hW, h.2.2.2.1.warmF hW, h.2.2.2.2.warmM hW⟩
theorem ST.kept {G : Gd} {base : Nat} {s : State} {H H1 : Heap} (h : ST G base s H) (hq : ∀ a : Nat, a < H.size → ¬ Ab base a → H1[a]? = H[a]?) : ST G base s H1 :=
  ⟨fun j hj => ⟨(h.1 j hj).1.kept hq, (h.1 j hj).2.kept hq⟩, h.2⟩
def tW : List Cond := lw_tbl.filter goodWord
theorem tW_in {w : Cond} (i : Nat) (h : lw_tbl[i]? = some w) (hg : goodWord w = true) : w ∈ tW := List.mem_filter.mpr ⟨List.mem_of_getElem? h, hg⟩
/-- inside a method: the machine, the code, the tables' words, the classes, the statics -/
def Cx (p : Program) (s : State) (m : MethodId) (args : Array Value) (c : Code) (cc : ByteArray) (nL : Nat) (own : String) (G : Gd) (base : Nat) : Prop :=
  p.tables.exec = Jvm.exec ∧ c.code = cc ∧ c.maxLocals = nL ∧ s.vm.findClass own = some m.cls ∧ (∀ w ∈ tW, w.before args s = true) ∧ KN G s ∧ base ≤ s.heap.size ∧ ST G base s s.heap
/-- the machine comes from here to Q -/
def Rn (p : Program) (l : Launch) (e : Env) (R : Room) (s : State) (m : MethodId) (args : Array Value) (below : List Frame) (meth : Method) (c : Code) (nL : Nat) (G : Gd) (base : Nat) (Q : State → Prop) (pc : Nat) (lo : List (Nat × Value)) (st : List Value) (Y : MY) (I : MI) (L : ML) (cells slots : Nat) : Prop :=
  ∀ (ls : Array Slot) (H : Heap) (locs : List Loc), lv_has ls nL lo → HP G base Y I L H → va_S (Ab base) s.heap H locs → W p l e R s m args below meth c H locs cells slots Q (F0 m pc ls st)
section FW
variable {p : Program} {l : Launch} {e : Env} {R : Room} {s : State} {m : MethodId} {args : Array Value} {below : List Frame} {meth : Method} {c : Code} {cc : ByteArray} {nL : Nat} {own : String} {G : Gd} {base : Nat} {Q : State → Prop} {pc : Nat} {lo lo' : List (Nat × Value)} {st : List Value} {Y : MY} {I : MI} {L : ML} {cells slots : Nat}

theorem r_iconst (C : Cx p s m args c cc nL own G base) {n : Int} {v : Int32} (hd : decode cc pc = .ok (.iconst n, 1)) (hv : Int32.ofInt n = v) (kk : Rn p l e R s m args below meth c nL G base Q (pc + 1) lo (.int v :: st) Y I L cells slots) : Rn p l e R s m args below meth c nL G base Q pc lo st Y I L cells slots := fun ls H locs hl hP hS => lv_iconst C.1 C.2.1 hd hv (kk ls H locs hl hP hS)
theorem r_bipush (C : Cx p s m args c cc nL own G base) {n : Int} {v : Int32} (hd : decode cc pc = .ok (.bipush n, 2)) (hv : (Int8.ofInt n).toInt32 = v) (kk : Rn p l e R s m args below meth c nL G base Q (pc + 2) lo (.int v :: st) Y I L cells slots) : Rn p l e R s m args below meth c nL G base Q pc lo st Y I L cells slots := fun ls H locs hl hP hS => lv_bipush C.1 C.2.1 hd hv (kk ls H locs hl hP hS)
theorem r_sipush (C : Cx p s m args c cc nL own G base) {n : Int} {v : Int32} (hd : decode cc pc = .ok (.sipush n, 3)) (hv : (Int16.ofInt n).toInt32 = v) (kk : Rn p l e R s m args below meth c nL G base Q (pc + 3) lo (.int v :: st) Y I L cells slots) : Rn p l e R s m args below meth c nL G base Q pc lo st Y I L cells slots := fun ls H locs hl hP hS => lv_sipush C.1 C.2.1 hd hv (kk ls H locs hl hP hS)
theorem r_lconst (C : Cx p s m args c cc nL own G base) {n : Fin 2} {v : Int64} (hd : decode cc pc = .ok (.lconst n, 1)) (hv : Int64.ofNat (n : Nat) = v) (kk : Rn p l e R s m args below meth c nL G base Q (pc + 1) lo (.long v :: st) Y I L cells slots) : Rn p l e R s m args below meth c nL G base Q pc lo st Y I L cells slots := fun ls H locs hl hP hS => lv_lconst C.1 C.2.1 hd hv (kk ls H locs hl hP hS)
theorem r_iload_n (C : Cx p s m args c cc nL own G base) {k : Fin 4} {i : Nat} {x : Int32} (pl : Nat) (hd : decode cc pc = .ok (.iload_n k, 1)) (hi : (k : Nat) = i) (hp : lo[pl]? = some (i, .int x)) (kk : Rn p l e R s m args below meth c nL G base Q (pc + 1) lo (.int x :: st) Y I L cells slots) : Rn p l e R s m args below meth c nL G base Q pc lo st Y I L cells slots := fun ls H locs hl hP hS => lv_iload_n C.1 C.2.1 hd hi (lv_at hl pl hp) (kk ls H locs hl hP hS)
theorem r_iload (C : Cx p s m args c cc nL own G base) {i : Nat} {x : Int32} (pl : Nat) (hd : decode cc pc = .ok (.iload i, 2)) (hp : lo[pl]? = some (i, .int x)) (kk : Rn p l e R s m args below meth c nL G base Q (pc + 2) lo (.int x :: st) Y I L cells slots) : Rn p l e R s m args below meth c nL G base Q pc lo st Y I L cells slots := fun ls H locs hl hP hS => lv_iload C.1 C.2.1 hd (lv_at hl pl hp) (kk ls H locs hl hP hS)
theorem r_istore_n (C : Cx p s m args c cc nL own G base) {k : Fin 4} {i : Nat} {x : Int32} (hd : decode cc pc = .ok (.istore_n k, 1)) (hi : (k : Nat) = i) (hn : i < nL) (hx : (i, Value.int x) :: lo.filter (fun q => !(q.1 == i) && !(q.1 + 1 == i && q.2.category == 2)) = lo') (kk : Rn p l e R s m args below meth c nL G base Q (pc + 1) lo' st Y I L cells slots) : Rn p l e R s m args below meth c nL G base Q pc lo (.int x :: st) Y I L cells slots := fun ls H locs hl hP hS => lv_istore_n C.1 C.2.1 hd hi hl hn hx (fun ls hl => (kk ls H locs hl hP hS))
theorem r_istore (C : Cx p s m args c cc nL own G base) {i : Nat} {x : Int32} (hd : decode cc pc = .ok (.istore i, 2)) (hn : i < nL) (hx : (i, Value.int x) :: lo.filter (fun q => !(q.1 == i) && !(q.1 + 1 == i && q.2.category == 2)) = lo') (kk : Rn p l e R s m args below meth c nL G base Q (pc + 2) lo' st Y I L cells slots) : Rn p l e R s m args below meth c nL G base Q pc lo (.int x :: st) Y I L cells slots := fun ls H locs hl hP hS => lv_istore C.1 C.2.1 hd hl hn hx (fun ls hl => (kk ls H locs hl hP hS))
theorem r_lload_n (C : Cx p s m args c cc nL own G base) {k : Fin 4} {i : Nat} {x : Int64} (pl : Nat) (hd : decode cc pc = .ok (.lload_n k, 1)) (hi : (k : Nat) = i) (hp : lo[pl]? = some (i, .long x)) (kk : Rn p l e R s m args below meth c nL G base Q (pc + 1) lo (.long x :: st) Y I L cells slots) : Rn p l e R s m args below meth c nL G base Q pc lo st Y I L cells slots := fun ls H locs hl hP hS => lv_lload_n C.1 C.2.1 hd hi (lv_at hl pl hp) (kk ls H locs hl hP hS)
theorem r_lload (C : Cx p s m args c cc nL own G base) {i : Nat} {x : Int64} (pl : Nat) (hd : decode cc pc = .ok (.lload i, 2)) (hp : lo[pl]? = some (i, .long x)) (kk : Rn p l e R s m args below meth c nL G base Q (pc + 2) lo (.long x :: st) Y I L cells slots) : Rn p l e R s m args below meth c nL G base Q pc lo st Y I L cells slots := fun ls H locs hl hP hS => lv_lload C.1 C.2.1 hd (lv_at hl pl hp) (kk ls H locs hl hP hS)
theorem r_lstore_n (C : Cx p s m args c cc nL own G base) {k : Fin 4} {i : Nat} {x : Int64} (hd : decode cc pc = .ok (.lstore_n k, 1)) (hi : (k : Nat) = i) (hn : i + 1 < nL) (hx : (i, Value.long x) :: lo.filter (fun q => !(q.1 == i) && (!(q.1 == i + 1) && !(q.1 + 1 == i && q.2.category == 2))) = lo') (kk : Rn p l e R s m args below meth c nL G base Q (pc + 1) lo' st Y I L cells slots) : Rn p l e R s m args below meth c nL G base Q pc lo (.long x :: st) Y I L cells slots := fun ls H locs hl hP hS => lv_lstore_n C.1 C.2.1 hd hi hl hn hx (fun ls hl => (kk ls H locs hl hP hS))
theorem r_lstore (C : Cx p s m args c cc nL own G base) {i : Nat} {x : Int64} (hd : decode cc pc = .ok (.lstore i, 2)) (hn : i + 1 < nL) (hx : (i, Value.long x) :: lo.filter (fun q => !(q.1 == i) && (!(q.1 == i + 1) && !(q.1 + 1 == i && q.2.category == 2))) = lo') (kk : Rn p l e R s m args below meth c nL G base Q (pc + 2) lo' st Y I L cells slots) : Rn p l e R s m args below meth c nL G base Q pc lo (.long x :: st) Y I L cells slots := fun ls H locs hl hP hS => lv_lstore C.1 C.2.1 hd hl hn hx (fun ls hl => (kk ls H locs hl hP hS))
theorem r_aload_n (C : Cx p s m args c cc nL own G base) {k : Fin 4} {i : Nat} {x : Nat} (pl : Nat) (hd : decode cc pc = .ok (.aload_n k, 1)) (hi : (k : Nat) = i) (hp : lo[pl]? = some (i, .ref x)) (kk : Rn p l e R s m args below meth c nL G base Q (pc + 1) lo (.ref x :: st) Y I L cells slots) : Rn p l e R s m args below meth c nL G base Q pc lo st Y I L cells slots := fun ls H locs hl hP hS => lv_aload_n C.1 C.2.1 hd hi (lv_at hl pl hp) (kk ls H locs hl hP hS)
theorem r_aload (C : Cx p s m args c cc nL own G base) {i : Nat} {x : Nat} (pl : Nat) (hd : decode cc pc = .ok (.aload i, 2)) (hp : lo[pl]? = some (i, .ref x)) (kk : Rn p l e R s m args below meth c nL G base Q (pc + 2) lo (.ref x :: st) Y I L cells slots) : Rn p l e R s m args below meth c nL G base Q pc lo st Y I L cells slots := fun ls H locs hl hP hS => lv_aload C.1 C.2.1 hd (lv_at hl pl hp) (kk ls H locs hl hP hS)
theorem r_astore_n (C : Cx p s m args c cc nL own G base) {k : Fin 4} {i : Nat} {x : Nat} (hd : decode cc pc = .ok (.astore_n k, 1)) (hi : (k : Nat) = i) (hn : i < nL) (hx : (i, Value.ref x) :: lo.filter (fun q => !(q.1 == i) && !(q.1 + 1 == i && q.2.category == 2)) = lo') (kk : Rn p l e R s m args below meth c nL G base Q (pc + 1) lo' st Y I L cells slots) : Rn p l e R s m args below meth c nL G base Q pc lo (.ref x :: st) Y I L cells slots := fun ls H locs hl hP hS => lv_astore_n C.1 C.2.1 hd hi hl hn hx (fun ls hl => (kk ls H locs hl hP hS))
theorem r_astore (C : Cx p s m args c cc nL own G base) {i : Nat} {x : Nat} (hd : decode cc pc = .ok (.astore i, 2)) (hn : i < nL) (hx : (i, Value.ref x) :: lo.filter (fun q => !(q.1 == i) && !(q.1 + 1 == i && q.2.category == 2)) = lo') (kk : Rn p l e R s m args below meth c nL G base Q (pc + 2) lo' st Y I L cells slots) : Rn p l e R s m args below meth c nL G base Q pc lo (.ref x :: st) Y I L cells slots := fun ls H locs hl hP hS => lv_astore C.1 C.2.1 hd hl hn hx (fun ls hl => (kk ls H locs hl hP hS))
theorem r_iinc (C : Cx p s m args c cc nL own G base) {i : Nat} {n : Int} {x v : Int32} (pl : Nat) (hd : decode cc pc = .ok (.iinc i n, 3)) (hp : lo[pl]? = some (i, .int x)) (hv : x + Int32.ofInt n = v) (hn : i < nL) (hx : (i, Value.int v) :: lo.filter (fun q => !(q.1 == i) && !(q.1 + 1 == i && q.2.category == 2)) = lo') (kk : Rn p l e R s m args below meth c nL G base Q (pc + 3) lo' st Y I L cells slots) : Rn p l e R s m args below meth c nL G base Q pc lo st Y I L cells slots := fun ls H locs hl hP hS => lv_iinc C.1 C.2.1 hd hl hp hv hn hx (fun ls hl => (kk ls H locs hl hP hS))
theorem r_iadd (C : Cx p s m args c cc nL own G base) {x y : Int32} (hd : decode cc pc = .ok (.iadd, 1))  (kk : Rn p l e R s m args below meth c nL G base Q (pc + 1) lo (.int (x + y) :: st) Y I L cells slots) : Rn p l e R s m args below meth c nL G base Q pc lo (.int y :: .int x :: st) Y I L cells slots := fun ls H locs hl hP hS => lv_iadd C.1 C.2.1 hd  (kk ls H locs hl hP hS)
theorem r_ladd (C : Cx p s m args c cc nL own G base) {x y : Int64} (hd : decode cc pc = .ok (.ladd, 1))  (kk : Rn p l e R s m args below meth c nL G base Q (pc + 1) lo (.long (x + y) :: st) Y I L cells slots) : Rn p l e R s m args below meth c nL G base Q pc lo (.long y :: .long x :: st) Y I L cells slots := fun ls H locs hl hP hS => lv_ladd C.1 C.2.1 hd  (kk ls H locs hl hP hS)
theorem r_isub (C : Cx p s m args c cc nL own G base) {x y : Int32} (hd : decode cc pc = .ok (.isub, 1))  (kk : Rn p l e R s m args below meth c nL G base Q (pc + 1) lo (.int (x - y) :: st) Y I L cells slots) : Rn p l e R s m args below meth c nL G base Q pc lo (.int y :: .int x :: st) Y I L cells slots := fun ls H locs hl hP hS => lv_isub C.1 C.2.1 hd  (kk ls H locs hl hP hS)
theorem r_lsub (C : Cx p s m args c cc nL own G base) {x y : Int64} (hd : decode cc pc = .ok (.lsub, 1))  (kk : Rn p l e R s m args below meth c nL G base Q (pc + 1) lo (.long (x - y) :: st) Y I L cells slots) : Rn p l e R s m args below meth c nL G base Q pc lo (.long y :: .long x :: st) Y I L cells slots := fun ls H locs hl hP hS => lv_lsub C.1 C.2.1 hd  (kk ls H locs hl hP hS)
theorem r_imul (C : Cx p s m args c cc nL own G base) {x y : Int32} (hd : decode cc pc = .ok (.imul, 1))  (kk : Rn p l e R s m args below meth c nL G base Q (pc + 1) lo (.int (x * y) :: st) Y I L cells slots) : Rn p l e R s m args below meth c nL G base Q pc lo (.int y :: .int x :: st) Y I L cells slots := fun ls H locs hl hP hS => lv_imul C.1 C.2.1 hd  (kk ls H locs hl hP hS)
theorem r_lmul (C : Cx p s m args c cc nL own G base) {x y : Int64} (hd : decode cc pc = .ok (.lmul, 1))  (kk : Rn p l e R s m args below meth c nL G base Q (pc + 1) lo (.long (x * y) :: st) Y I L cells slots) : Rn p l e R s m args below meth c nL G base Q pc lo (.long y :: .long x :: st) Y I L cells slots := fun ls H locs hl hP hS => lv_lmul C.1 C.2.1 hd  (kk ls H locs hl hP hS)
theorem r_iand (C : Cx p s m args c cc nL own G base) {x y : Int32} (hd : decode cc pc = .ok (.iand, 1))  (kk : Rn p l e R s m args below meth c nL G base Q (pc + 1) lo (.int (x &&& y) :: st) Y I L cells slots) : Rn p l e R s m args below meth c nL G base Q pc lo (.int y :: .int x :: st) Y I L cells slots := fun ls H locs hl hP hS => lv_iand C.1 C.2.1 hd  (kk ls H locs hl hP hS)
theorem r_ixor (C : Cx p s m args c cc nL own G base) {x y : Int32} (hd : decode cc pc = .ok (.ixor, 1))  (kk : Rn p l e R s m args below meth c nL G base Q (pc + 1) lo (.int (x ^^^ y) :: st) Y I L cells slots) : Rn p l e R s m args below meth c nL G base Q pc lo (.int y :: .int x :: st) Y I L cells slots := fun ls H locs hl hP hS => lv_ixor C.1 C.2.1 hd  (kk ls H locs hl hP hS)
theorem r_land (C : Cx p s m args c cc nL own G base) {x y : Int64} (hd : decode cc pc = .ok (.land, 1))  (kk : Rn p l e R s m args below meth c nL G base Q (pc + 1) lo (.long (x &&& y) :: st) Y I L cells slots) : Rn p l e R s m args below meth c nL G base Q pc lo (.long y :: .long x :: st) Y I L cells slots := fun ls H locs hl hP hS => lv_land C.1 C.2.1 hd  (kk ls H locs hl hP hS)
theorem r_lor (C : Cx p s m args c cc nL own G base) {x y : Int64} (hd : decode cc pc = .ok (.lor, 1))  (kk : Rn p l e R s m args below meth c nL G base Q (pc + 1) lo (.long (x ||| y) :: st) Y I L cells slots) : Rn p l e R s m args below meth c nL G base Q pc lo (.long y :: .long x :: st) Y I L cells slots := fun ls H locs hl hP hS => lv_lor C.1 C.2.1 hd  (kk ls H locs hl hP hS)
theorem r_lneg (C : Cx p s m args c cc nL own G base) {x : Int64} (hd : decode cc pc = .ok (.lneg, 1))  (kk : Rn p l e R s m args below meth c nL G base Q (pc + 1) lo (.long (-x) :: st) Y I L cells slots) : Rn p l e R s m args below meth c nL G base Q pc lo (.long x :: st) Y I L cells slots := fun ls H locs hl hP hS => lv_lneg C.1 C.2.1 hd  (kk ls H locs hl hP hS)
theorem r_idiv (C : Cx p s m args c cc nL own G base) {x y : Int32} (hd : decode cc pc = .ok (.idiv, 1)) (hne : ¬ y = 0) (kk : Rn p l e R s m args below meth c nL G base Q (pc + 1) lo (.int (x / y) :: st) Y I L cells slots) : Rn p l e R s m args below meth c nL G base Q pc lo (.int y :: .int x :: st) Y I L cells slots := fun ls H locs hl hP hS => lv_idiv C.1 C.2.1 hd hne (kk ls H locs hl hP hS)
theorem r_ldiv (C : Cx p s m args c cc nL own G base) {x y : Int64} (hd : decode cc pc = .ok (.ldiv, 1)) (hne : ¬ y = 0) (kk : Rn p l e R s m args below meth c nL G base Q (pc + 1) lo (.long (x / y) :: st) Y I L cells slots) : Rn p l e R s m args below meth c nL G base Q pc lo (.long y :: .long x :: st) Y I L cells slots := fun ls H locs hl hP hS => lv_ldiv C.1 C.2.1 hd hne (kk ls H locs hl hP hS)
theorem r_irem (C : Cx p s m args c cc nL own G base) {x y : Int32} (hd : decode cc pc = .ok (.irem, 1)) (hne : ¬ y = 0) (kk : Rn p l e R s m args below meth c nL G base Q (pc + 1) lo (.int (x - x / y * y) :: st) Y I L cells slots) : Rn p l e R s m args below meth c nL G base Q pc lo (.int y :: .int x :: st) Y I L cells slots := fun ls H locs hl hP hS => lv_irem C.1 C.2.1 hd hne (kk ls H locs hl hP hS)
theorem r_lrem (C : Cx p s m args c cc nL own G base) {x y : Int64} (hd : decode cc pc = .ok (.lrem, 1)) (hne : ¬ y = 0) (kk : Rn p l e R s m args below meth c nL G base Q (pc + 1) lo (.long (x - x / y * y) :: st) Y I L cells slots) : Rn p l e R s m args below meth c nL G base Q pc lo (.long y :: .long x :: st) Y I L cells slots := fun ls H locs hl hP hS => lv_lrem C.1 C.2.1 hd hne (kk ls H locs hl hP hS)
theorem r_lushr (C : Cx p s m args c cc nL own G base) {x : Int64} {y : Int32} (hd : decode cc pc = .ok (.lushr, 1))  (kk : Rn p l e R s m args below meth c nL G base Q (pc + 1) lo (.long ((x.toUInt64 >>> (y.toInt64.toUInt64 &&& Int64.toUInt64 63)).toInt64) :: st) Y I L cells slots) : Rn p l e R s m args below meth c nL G base Q pc lo (.int y :: .long x :: st) Y I L cells slots := fun ls H locs hl hP hS => lv_lushr C.1 C.2.1 hd rfl (kk ls H locs hl hP hS)
theorem r_lshr (C : Cx p s m args c cc nL own G base) {x : Int64} {y : Int32} (hd : decode cc pc = .ok (.lshr, 1))  (kk : Rn p l e R s m args below meth c nL G base Q (pc + 1) lo (.long (x >>> (y.toInt64 &&& 63)) :: st) Y I L cells slots) : Rn p l e R s m args below meth c nL G base Q pc lo (.int y :: .long x :: st) Y I L cells slots := fun ls H locs hl hP hS => lv_lshr C.1 C.2.1 hd rfl (kk ls H locs hl hP hS)
theorem r_lshl (C : Cx p s m args c cc nL own G base) {x : Int64} {y : Int32} (hd : decode cc pc = .ok (.lshl, 1))  (kk : Rn p l e R s m args below meth c nL G base Q (pc + 1) lo (.long (x <<< (y.toInt64 &&& 63)) :: st) Y I L cells slots) : Rn p l e R s m args below meth c nL G base Q pc lo (.int y :: .long x :: st) Y I L cells slots := fun ls H locs hl hP hS => lv_lshl C.1 C.2.1 hd rfl (kk ls H locs hl hP hS)
theorem r_i2l (C : Cx p s m args c cc nL own G base) {x : Int32} (hd : decode cc pc = .ok (.i2l, 1))  (kk : Rn p l e R s m args below meth c nL G base Q (pc + 1) lo (.long x.toInt64 :: st) Y I L cells slots) : Rn p l e R s m args below meth c nL G base Q pc lo (.int x :: st) Y I L cells slots := fun ls H locs hl hP hS => lv_i2l C.1 C.2.1 hd rfl (kk ls H locs hl hP hS)
theorem r_l2i (C : Cx p s m args c cc nL own G base) {x : Int64} (hd : decode cc pc = .ok (.l2i, 1))  (kk : Rn p l e R s m args below meth c nL G base Q (pc + 1) lo (.int x.toInt32 :: st) Y I L cells slots) : Rn p l e R s m args below meth c nL G base Q pc lo (.long x :: st) Y I L cells slots := fun ls H locs hl hP hS => lv_l2i C.1 C.2.1 hd rfl (kk ls H locs hl hP hS)
theorem r_i2c (C : Cx p s m args c cc nL own G base) {x : Int32} (hd : decode cc pc = .ok (.i2c, 1))  (kk : Rn p l e R s m args below meth c nL G base Q (pc + 1) lo (.int (x.toUInt32 % 65536).toInt32 :: st) Y I L cells slots) : Rn p l e R s m args below meth c nL G base Q pc lo (.int x :: st) Y I L cells slots := fun ls H locs hl hP hS => lv_i2c C.1 C.2.1 hd rfl (kk ls H locs hl hP hS)
theorem r_dup (C : Cx p s m args c cc nL own G base) {v : Value} (hd : decode cc pc = .ok (.dup, 1)) (h1 : v.category = 1) (kk : Rn p l e R s m args below meth c nL G base Q (pc + 1) lo (v :: v :: st) Y I L cells slots) : Rn p l e R s m args below meth c nL G base Q pc lo (v :: st) Y I L cells slots := fun ls H locs hl hP hS => lv_dup C.1 C.2.1 hd h1 (kk ls H locs hl hP hS)
theorem r_pop (C : Cx p s m args c cc nL own G base) {v : Value} (hd : decode cc pc = .ok (.pop, 1)) (h1 : v.category = 1) (kk : Rn p l e R s m args below meth c nL G base Q (pc + 1) lo st Y I L cells slots) : Rn p l e R s m args below meth c nL G base Q pc lo (v :: st) Y I L cells slots := fun ls H locs hl hP hS => lv_pop C.1 C.2.1 hd h1 (kk ls H locs hl hP hS)
theorem r_dup2 (C : Cx p s m args c cc nL own G base) {v w : Value} (hd : decode cc pc = .ok (.dup2, 1)) (h1 : v.category = 1) (h2 : w.category = 1) (kk : Rn p l e R s m args below meth c nL G base Q (pc + 1) lo (v :: w :: v :: w :: st) Y I L cells slots) : Rn p l e R s m args below meth c nL G base Q pc lo (v :: w :: st) Y I L cells slots := fun ls H locs hl hP hS => lv_dup2_11 C.1 C.2.1 hd h1 h2 (kk ls H locs hl hP hS)
theorem r_dup2l (C : Cx p s m args c cc nL own G base) {v : Value} (hd : decode cc pc = .ok (.dup2, 1)) (h1 : v.category = 2) (kk : Rn p l e R s m args below meth c nL G base Q (pc + 1) lo (v :: v :: st) Y I L cells slots) : Rn p l e R s m args below meth c nL G base Q pc lo (v :: st) Y I L cells slots := fun ls H locs hl hP hS => lv_dup2_2 C.1 C.2.1 hd h1 (kk ls H locs hl hP hS)
theorem r_null (C : Cx p s m args c cc nL own G base)  (hd : decode cc pc = .ok (.aconst_null, 1))  (kk : Rn p l e R s m args below meth c nL G base Q (pc + 1) lo (.null :: st) Y I L cells slots) : Rn p l e R s m args below meth c nL G base Q pc lo st Y I L cells slots := fun ls H locs hl hP hS => lv_null C.1 C.2.1 hd  (kk ls H locs hl hP hS)
theorem r_goto (C : Cx p s m args c cc nL own G base) {off : Int} {tgt : Nat} (hd : decode cc pc = .ok (.goto off, 3)) (ht : (pc : Int) + off = (tgt : Int)) (kk : Rn p l e R s m args below meth c nL G base Q tgt lo st Y I L cells slots) : Rn p l e R s m args below meth c nL G base Q pc lo st Y I L cells slots := fun ls H locs hl hP hS => lv_goto C.1 C.2.1 hd ht (kk ls H locs hl hP hS)
theorem r_if_eq (C : Cx p s m args c cc nL own G base) {x : Int32} {off : Int} {tgt : Nat} (hd : decode cc pc = .ok (.ifCond .eq off, 3)) (ht : (pc : Int) + off = (tgt : Int)) (kt : x = 0 → Rn p l e R s m args below meth c nL G base Q tgt lo st Y I L cells slots) (kf : ¬ x = 0 → Rn p l e R s m args below meth c nL G base Q (pc + 3) lo st Y I L cells slots) : Rn p l e R s m args below meth c nL G base Q pc lo (.int x :: st) Y I L cells slots := fun ls H locs hl hP hS => lv_if_eq C.1 C.2.1 hd ht (fun h => kt h ls H locs hl hP hS) (fun h => kf h ls H locs hl hP hS)
theorem r_if_ne (C : Cx p s m args c cc nL own G base) {x : Int32} {off : Int} {tgt : Nat} (hd : decode cc pc = .ok (.ifCond .ne off, 3)) (ht : (pc : Int) + off = (tgt : Int)) (kt : ¬ x = 0 → Rn p l e R s m args below meth c nL G base Q tgt lo st Y I L cells slots) (kf : x = 0 → Rn p l e R s m args below meth c nL G base Q (pc + 3) lo st Y I L cells slots) : Rn p l e R s m args below meth c nL G base Q pc lo (.int x :: st) Y I L cells slots := fun ls H locs hl hP hS => lv_if_ne C.1 C.2.1 hd ht (fun h => kt h ls H locs hl hP hS) (fun h => kf h ls H locs hl hP hS)
theorem r_if_lt (C : Cx p s m args c cc nL own G base) {x : Int32} {off : Int} {tgt : Nat} (hd : decode cc pc = .ok (.ifCond .lt off, 3)) (ht : (pc : Int) + off = (tgt : Int)) (kt : x < 0 → Rn p l e R s m args below meth c nL G base Q tgt lo st Y I L cells slots) (kf : ¬ x < 0 → Rn p l e R s m args below meth c nL G base Q (pc + 3) lo st Y I L cells slots) : Rn p l e R s m args below meth c nL G base Q pc lo (.int x :: st) Y I L cells slots := fun ls H locs hl hP hS => lv_if_lt C.1 C.2.1 hd ht (fun h => kt h ls H locs hl hP hS) (fun h => kf h ls H locs hl hP hS)
theorem r_if_ge (C : Cx p s m args c cc nL own G base) {x : Int32} {off : Int} {tgt : Nat} (hd : decode cc pc = .ok (.ifCond .ge off, 3)) (ht : (pc : Int) + off = (tgt : Int)) (kt : 0 ≤ x → Rn p l e R s m args below meth c nL G base Q tgt lo st Y I L cells slots) (kf : ¬ 0 ≤ x → Rn p l e R s m args below meth c nL G base Q (pc + 3) lo st Y I L cells slots) : Rn p l e R s m args below meth c nL G base Q pc lo (.int x :: st) Y I L cells slots := fun ls H locs hl hP hS => lv_if_ge C.1 C.2.1 hd ht (fun h => kt h ls H locs hl hP hS) (fun h => kf h ls H locs hl hP hS)
theorem r_if_gt (C : Cx p s m args c cc nL own G base) {x : Int32} {off : Int} {tgt : Nat} (hd : decode cc pc = .ok (.ifCond .gt off, 3)) (ht : (pc : Int) + off = (tgt : Int)) (kt : 0 < x → Rn p l e R s m args below meth c nL G base Q tgt lo st Y I L cells slots) (kf : ¬ 0 < x → Rn p l e R s m args below meth c nL G base Q (pc + 3) lo st Y I L cells slots) : Rn p l e R s m args below meth c nL G base Q pc lo (.int x :: st) Y I L cells slots := fun ls H locs hl hP hS => lv_if_gt C.1 C.2.1 hd ht (fun h => kt h ls H locs hl hP hS) (fun h => kf h ls H locs hl hP hS)
theorem r_if_le (C : Cx p s m args c cc nL own G base) {x : Int32} {off : Int} {tgt : Nat} (hd : decode cc pc = .ok (.ifCond .le off, 3)) (ht : (pc : Int) + off = (tgt : Int)) (kt : x ≤ 0 → Rn p l e R s m args below meth c nL G base Q tgt lo st Y I L cells slots) (kf : ¬ x ≤ 0 → Rn p l e R s m args below meth c nL G base Q (pc + 3) lo st Y I L cells slots) : Rn p l e R s m args below meth c nL G base Q pc lo (.int x :: st) Y I L cells slots := fun ls H locs hl hP hS => lv_if_le C.1 C.2.1 hd ht (fun h => kt h ls H locs hl hP hS) (fun h => kf h ls H locs hl hP hS)
theorem r_icmp_eq (C : Cx p s m args c cc nL own G base) {x y : Int32} {off : Int} {tgt : Nat} (hd : decode cc pc = .ok (.if_icmp .eq off, 3)) (ht : (pc : Int) + off = (tgt : Int)) (kt : x = y → Rn p l e R s m args below meth c nL G base Q tgt lo st Y I L cells slots) (kf : ¬ x = y → Rn p l e R s m args below meth c nL G base Q (pc + 3) lo st Y I L cells slots) : Rn p l e R s m args below meth c nL G base Q pc lo (.int y :: .int x :: st) Y I L cells slots := fun ls H locs hl hP hS => lv_icmp_eq C.1 C.2.1 hd ht (fun h => kt h ls H locs hl hP hS) (fun h => kf h ls H locs hl hP hS)
theorem r_lcmp_eq (C : Cx p s m args c cc nL own G base) {x y : Int64} {off : Int} {tgt pc1 pc4 : Nat} (hd : decode cc pc = .ok (.lcmp, 1)) (hd2 : decode cc pc1 = .ok (.ifCond .eq off, 3)) (h1 : pc + 1 = pc1) (h4 : pc1 + 3 = pc4) (ht : (pc1 : Int) + off = (tgt : Int)) (kt : x = y → Rn p l e R s m args below meth c nL G base Q tgt lo st Y I L cells slots) (kf : ¬ x = y → Rn p l e R s m args below meth c nL G base Q pc4 lo st Y I L cells slots) : Rn p l e R s m args below meth c nL G base Q pc lo (.long y :: .long x :: st) Y I L cells slots := by
  subst h1; subst h4
  exact fun ls H locs hl hP hS => W.lcmp C.1 C.2.1 hd (lv_if_eq C.1 C.2.1 hd2 ht (fun h => kt ((lg_cmp_eq x y).mp h) ls H locs hl hP hS) (fun h => kf (fun z => h ((lg_cmp_eq x y).mpr z)) ls H locs hl hP hS))
theorem r_icmp_ne (C : Cx p s m args c cc nL own G base) {x y : Int32} {off : Int} {tgt : Nat} (hd : decode cc pc = .ok (.if_icmp .ne off, 3)) (ht : (pc : Int) + off = (tgt : Int)) (kt : ¬ x = y → Rn p l e R s m args below meth c nL G base Q tgt lo st Y I L cells slots) (kf : x = y → Rn p l e R s m args below meth c nL G base Q (pc + 3) lo st Y I L cells slots) : Rn p l e R s m args below meth c nL G base Q pc lo (.int y :: .int x :: st) Y I L cells slots := fun ls H locs hl hP hS => lv_icmp_ne C.1 C.2.1 hd ht (fun h => kt h ls H locs hl hP hS) (fun h => kf h ls H locs hl hP hS)
theorem r_lcmp_ne (C : Cx p s m args c cc nL own G base) {x y : Int64} {off : Int} {tgt pc1 pc4 : Nat} (hd : decode cc pc = .ok (.lcmp, 1)) (hd2 : decode cc pc1 = .ok (.ifCond .ne off, 3)) (h1 : pc + 1 = pc1) (h4 : pc1 + 3 = pc4) (ht : (pc1 : Int) + off = (tgt : Int)) (kt : ¬ x = y → Rn p l e R s m args below meth c nL G base Q tgt lo st Y I L cells slots) (kf : x = y → Rn p l e R s m args below meth c nL G base Q pc4 lo st Y I L cells slots) : Rn p l e R s m args below meth c nL G base Q pc lo (.long y :: .long x :: st) Y I L cells slots := by
  subst h1; subst h4
  exact fun ls H locs hl hP hS => W.lcmp C.1 C.2.1 hd (lv_if_ne C.1 C.2.1 hd2 ht (fun h => kt ((not_congr (lg_cmp_eq x y)).mp h) ls H locs hl hP hS) (fun h => kf ((lg_cmp_eq x y).mp h) ls H locs hl hP hS))
theorem r_icmp_lt (C : Cx p s m args c cc nL own G base) {x y : Int32} {off : Int} {tgt : Nat} (hd : decode cc pc = .ok (.if_icmp .lt off, 3)) (ht : (pc : Int) + off = (tgt : Int)) (kt : x < y → Rn p l e R s m args below meth c nL G base Q tgt lo st Y I L cells slots) (kf : ¬ x < y → Rn p l e R s m args below meth c nL G base Q (pc + 3) lo st Y I L cells slots) : Rn p l e R s m args below meth c nL G base Q pc lo (.int y :: .int x :: st) Y I L cells slots := fun ls H locs hl hP hS => lv_icmp_lt C.1 C.2.1 hd ht (fun h => kt h ls H locs hl hP hS) (fun h => kf h ls H locs hl hP hS)
theorem r_lcmp_lt (C : Cx p s m args c cc nL own G base) {x y : Int64} {off : Int} {tgt pc1 pc4 : Nat} (hd : decode cc pc = .ok (.lcmp, 1)) (hd2 : decode cc pc1 = .ok (.ifCond .lt off, 3)) (h1 : pc + 1 = pc1) (h4 : pc1 + 3 = pc4) (ht : (pc1 : Int) + off = (tgt : Int)) (kt : x < y → Rn p l e R s m args below meth c nL G base Q tgt lo st Y I L cells slots) (kf : ¬ x < y → Rn p l e R s m args below meth c nL G base Q pc4 lo st Y I L cells slots) : Rn p l e R s m args below meth c nL G base Q pc lo (.long y :: .long x :: st) Y I L cells slots := by
  subst h1; subst h4
  exact fun ls H locs hl hP hS => W.lcmp C.1 C.2.1 hd (lv_if_lt C.1 C.2.1 hd2 ht (fun h => kt ((lg_cmp_lt x y).mp h) ls H locs hl hP hS) (fun h => kf (fun z => h ((lg_cmp_lt x y).mpr z)) ls H locs hl hP hS))
theorem r_icmp_ge (C : Cx p s m args c cc nL own G base) {x y : Int32} {off : Int} {tgt : Nat} (hd : decode cc pc = .ok (.if_icmp .ge off, 3)) (ht : (pc : Int) + off = (tgt : Int)) (kt : y ≤ x → Rn p l e R s m args below meth c nL G base Q tgt lo st Y I L cells slots) (kf : ¬ y ≤ x → Rn p l e R s m args below meth c nL G base Q (pc + 3) lo st Y I L cells slots) : Rn p l e R s m args below meth c nL G base Q pc lo (.int y :: .int x :: st) Y I L cells slots := fun ls H locs hl hP hS => lv_icmp_ge C.1 C.2.1 hd ht (fun h => kt h ls H locs hl hP hS) (fun h => kf h ls H locs hl hP hS)
theorem r_lcmp_ge (C : Cx p s m args c cc nL own G base) {x y : Int64} {off : Int} {tgt pc1 pc4 : Nat} (hd : decode cc pc = .ok (.lcmp, 1)) (hd2 : decode cc pc1 = .ok (.ifCond .ge off, 3)) (h1 : pc + 1 = pc1) (h4 : pc1 + 3 = pc4) (ht : (pc1 : Int) + off = (tgt : Int)) (kt : y ≤ x → Rn p l e R s m args below meth c nL G base Q tgt lo st Y I L cells slots) (kf : ¬ y ≤ x → Rn p l e R s m args below meth c nL G base Q pc4 lo st Y I L cells slots) : Rn p l e R s m args below meth c nL G base Q pc lo (.long y :: .long x :: st) Y I L cells slots := by
  subst h1; subst h4
  exact fun ls H locs hl hP hS => W.lcmp C.1 C.2.1 hd (lv_if_ge C.1 C.2.1 hd2 ht (fun h => kt ((lg_cmp_ge x y).mp h) ls H locs hl hP hS) (fun h => kf (fun z => h ((lg_cmp_ge x y).mpr z)) ls H locs hl hP hS))
theorem r_icmp_gt (C : Cx p s m args c cc nL own G base) {x y : Int32} {off : Int} {tgt : Nat} (hd : decode cc pc = .ok (.if_icmp .gt off, 3)) (ht : (pc : Int) + off = (tgt : Int)) (kt : y < x → Rn p l e R s m args below meth c nL G base Q tgt lo st Y I L cells slots) (kf : ¬ y < x → Rn p l e R s m args below meth c nL G base Q (pc + 3) lo st Y I L cells slots) : Rn p l e R s m args below meth c nL G base Q pc lo (.int y :: .int x :: st) Y I L cells slots := fun ls H locs hl hP hS => lv_icmp_gt C.1 C.2.1 hd ht (fun h => kt h ls H locs hl hP hS) (fun h => kf h ls H locs hl hP hS)
theorem r_lcmp_gt (C : Cx p s m args c cc nL own G base) {x y : Int64} {off : Int} {tgt pc1 pc4 : Nat} (hd : decode cc pc = .ok (.lcmp, 1)) (hd2 : decode cc pc1 = .ok (.ifCond .gt off, 3)) (h1 : pc + 1 = pc1) (h4 : pc1 + 3 = pc4) (ht : (pc1 : Int) + off = (tgt : Int)) (kt : y < x → Rn p l e R s m args below meth c nL G base Q tgt lo st Y I L cells slots) (kf : ¬ y < x → Rn p l e R s m args below meth c nL G base Q pc4 lo st Y I L cells slots) : Rn p l e R s m args below meth c nL G base Q pc lo (.long y :: .long x :: st) Y I L cells slots := by
  subst h1; subst h4
  exact fun ls H locs hl hP hS => W.lcmp C.1 C.2.1 hd (lv_if_gt C.1 C.2.1 hd2 ht (fun h => kt ((lg_cmp_gt x y).mp h) ls H locs hl hP hS) (fun h => kf (fun z => h ((lg_cmp_gt x y).mpr z)) ls H locs hl hP hS))
theorem r_icmp_le (C : Cx p s m args c cc nL own G base) {x y : Int32} {off : Int} {tgt : Nat} (hd : decode cc pc = .ok (.if_icmp .le off, 3)) (ht : (pc : Int) + off = (tgt : Int)) (kt : x ≤ y → Rn p l e R s m args below meth c nL G base Q tgt lo st Y I L cells slots) (kf : ¬ x ≤ y → Rn p l e R s m args below meth c nL G base Q (pc + 3) lo st Y I L cells slots) : Rn p l e R s m args below meth c nL G base Q pc lo (.int y :: .int x :: st) Y I L cells slots := fun ls H locs hl hP hS => lv_icmp_le C.1 C.2.1 hd ht (fun h => kt h ls H locs hl hP hS) (fun h => kf h ls H locs hl hP hS)
theorem r_lcmp_le (C : Cx p s m args c cc nL own G base) {x y : Int64} {off : Int} {tgt pc1 pc4 : Nat} (hd : decode cc pc = .ok (.lcmp, 1)) (hd2 : decode cc pc1 = .ok (.ifCond .le off, 3)) (h1 : pc + 1 = pc1) (h4 : pc1 + 3 = pc4) (ht : (pc1 : Int) + off = (tgt : Int)) (kt : x ≤ y → Rn p l e R s m args below meth c nL G base Q tgt lo st Y I L cells slots) (kf : ¬ x ≤ y → Rn p l e R s m args below meth c nL G base Q pc4 lo st Y I L cells slots) : Rn p l e R s m args below meth c nL G base Q pc lo (.long y :: .long x :: st) Y I L cells slots := by
  subst h1; subst h4
  exact fun ls H locs hl hP hS => W.lcmp C.1 C.2.1 hd (lv_if_le C.1 C.2.1 hd2 ht (fun h => kt ((lg_cmp_le x y).mp h) ls H locs hl hP hS) (fun h => kf (fun z => h ((lg_cmp_le x y).mpr z)) ls H locs hl hP hS))
theorem r_tableIn (C : Cx p s m args c cc nL own G base) {d lw hg : Int} {offs : Array Int} {len : Nat} {x : Int32} {off : Int} {tgt : Nat} (hd : decode cc pc = .ok (.tableswitch d lw hg offs, len)) (h1 : ¬ x.toInt < lw) (h2 : ¬ hg < x.toInt) (ho : offs[(x.toInt - lw).toNat]? = some off) (ht : (pc : Int) + off = (tgt : Int)) (kk : Rn p l e R s m args below meth c nL G base Q tgt lo st Y I L cells slots) : Rn p l e R s m args below meth c nL G base Q pc lo (.int x :: st) Y I L cells slots := fun ls H locs hl hP hS => lv_tableIn C.1 C.2.1 hd h1 h2 ho ht (kk ls H locs hl hP hS)
theorem r_tableOut (C : Cx p s m args c cc nL own G base) {d lw hg : Int} {offs : Array Int} {len : Nat} {x : Int32} {tgt : Nat} (hd : decode cc pc = .ok (.tableswitch d lw hg offs, len)) (h1 : x.toInt < lw ∨ hg < x.toInt) (ht : (pc : Int) + d = (tgt : Int)) (kk : Rn p l e R s m args below meth c nL G base Q tgt lo st Y I L cells slots) : Rn p l e R s m args below meth c nL G base Q pc lo (.int x :: st) Y I L cells slots := fun ls H locs hl hP hS => lv_tableOut C.1 C.2.1 hd h1 ht (kk ls H locs hl hP hS)
theorem r_ldc (C : Cx p s m args c cc nL own G base) {idx : Nat} {v : Int32} (hw : Cond.constant own idx v ∈ tW) (hd : decode cc pc = .ok (.ldc idx, 2)) (kk : Rn p l e R s m args below meth c nL G base Q (pc + 2) lo (.int v :: st) Y I L cells slots) : Rn p l e R s m args below meth c nL G base Q pc lo st Y I L cells slots := fun ls H locs hl hP hS => lv_ldc C.1 C.2.1 C.2.2.2.1 (C.2.2.2.2.1 _ hw) hd (kk ls H locs hl hP hS)
theorem r_ldcw (C : Cx p s m args c cc nL own G base) {idx : Nat} {v : Int32} (hw : Cond.constant own idx v ∈ tW) (hd : decode cc pc = .ok (.ldc_w idx, 3)) (kk : Rn p l e R s m args below meth c nL G base Q (pc + 3) lo (.int v :: st) Y I L cells slots) : Rn p l e R s m args below meth c nL G base Q pc lo st Y I L cells slots := fun ls H locs hl hP hS => lv_ldcw C.1 C.2.1 C.2.2.2.1 (C.2.2.2.2.1 _ hw) hd (kk ls H locs hl hP hS)
theorem r_ldc2 (C : Cx p s m args c cc nL own G base) {idx : Nat} {v : Int64} (hw : Cond.constantLong own idx v ∈ tW) (hd : decode cc pc = .ok (.ldc2_w idx, 3)) (kk : Rn p l e R s m args below meth c nL G base Q (pc + 3) lo (.long v :: st) Y I L cells slots) : Rn p l e R s m args below meth c nL G base Q pc lo st Y I L cells slots := fun ls H locs hl hP hS => lv_ldc2 C.1 C.2.1 C.2.2.2.1 (C.2.2.2.2.1 _ hw) hd (kk ls H locs hl hP hS)
theorem r_ifnonnull (C : Cx p s m args c cc nL own G base) {x : Nat} {off : Int} {tgt : Nat} (hd : decode cc pc = .ok (.ifnonnull off, 3)) (ht : (pc : Int) + off = (tgt : Int)) (kk : Rn p l e R s m args below meth c nL G base Q tgt lo st Y I L cells slots) : Rn p l e R s m args below meth c nL G base Q pc lo (.ref x :: st) Y I L cells slots := fun ls H locs hl hP hS => lv_ifnonnull C.1 C.2.1 hd ht (kk ls H locs hl hP hS)
theorem r_ifnonnullN (C : Cx p s m args c cc nL own G base) {off : Int} (hd : decode cc pc = .ok (.ifnonnull off, 3)) (kk : Rn p l e R s m args below meth c nL G base Q (pc + 3) lo st Y I L cells slots) : Rn p l e R s m args below meth c nL G base Q pc lo (.null :: st) Y I L cells slots := fun ls H locs hl hP hS => lv_ifnonnullN C.1 C.2.1 hd (kk ls H locs hl hP hS)
theorem r_topi {x : Int32} (kk : ∀ y : Int32, y = x → Rn p l e R s m args below meth c nL G base Q pc lo (.int y :: st) Y I L cells slots) : Rn p l e R s m args below meth c nL G base Q pc lo (.int x :: st) Y I L cells slots := kk x rfl
theorem r_topl {x : Int64} (kk : ∀ y : Int64, y = x → Rn p l e R s m args below meth c nL G base Q pc lo (.long y :: st) Y I L cells slots) : Rn p l e R s m args below meth c nL G base Q pc lo (.long x :: st) Y I L cells slots := kk x rfl
theorem r_lo (ks : List Nat) (h : lv_pick lo ks = lo') (kk : Rn p l e R s m args below meth c nL G base Q pc lo' st Y I L cells slots) : Rn p l e R s m args below meth c nL G base Q pc lo st Y I L cells slots := fun ls H locs hl hP hS => kk ls H locs (lv_sub hl ks h) hP hS
end FW
end
section
def iI (z : Int) : Int32 := Int32.ofInt z
def lI (z : Int) : Int64 := Int64.ofInt z
theorem iI_toInt {z : Int} (h1 : -2147483648 ≤ z) (h2 : z < 2147483648) : (iI z).toInt = z := by
  unfold iI
  rw [Int32.toInt_ofInt, show Int32.size = 4294967296 from rfl]
  exact Int.bmod_eq_of_le (by omega) (by omega)
theorem lI_toInt {z : Int} (h1 : -9223372036854775808 ≤ z) (h2 : z < 9223372036854775808) : (lI z).toInt = z := by
  unfold lI
  rw [Int64.toInt_ofInt, show Int64.size = 18446744073709551616 from rfl]
  exact Int.bmod_eq_of_le (by omega) (by omega)
theorem iI_nat {n : Nat} (h : n < 2147483648) : (iI n).toNatClampNeg = n := by
  unfold Int32.toNatClampNeg
  rw [iI_toInt (by omega) (by omega)]
  rfl
/-- x is the index i, within n -/
def Ix (x : Int32) (i n : Nat) : Prop := x = iI i ∧ i < n ∧ n < 2147483648
theorem Ix.nat {x : Int32} {i n : Nat} (h : Ix x i n) : x.toNatClampNeg = i := by
  obtain ⟨rfl, h1, h2⟩ := h
  exact iI_nat (by omega)
theorem Ix.in {x : Int32} {i n : Nat} (h : Ix x i n) : vp_in x n := by
  have h3 := h.nat
  obtain ⟨rfl, h1, h2⟩ := h
  intro q
  rcases q with q | q
  · rw [Int32.lt_iff_toInt_lt, iI_toInt (by omega) (by omega)] at q
    have : (0 : Int32).toInt = 0 := rfl
    omega
  · omega
theorem atys_at (G : Gd) {t : Nat} (h : t < 8) : (atys G)[t]? = some (G.2.1 t, aty t) := by
  rw [List.getElem?_map, List.getElem?_range h]; rfl
def CK (ci : Nat) (C : String) (T : u_T) (N : Nat) : Prop := vwCl[ci]? = some (C, T, N) ∧ N = nfl ci ∧ (∀ w ∈ u_ws C T N, w ∈ tW) ∧ (∀ k, k < N → parseFieldDescriptor (T k).2.2.1 = some (tyf ci k)) ∧ (∀ a, a < N → ∀ b, b < N → a ≠ b → (T a).2.1 ≠ (T b).2.1)
/-- the pool entry idx of own is the field k of the class ci; fin: it is final -/
def FL (own : String) (idx ci k : Nat) (fin : Bool) : Prop := ∃ (C : String) (T : u_T) (N : Nat), CK ci C T N ∧ k < N ∧ Cond.fieldLink own idx (T k).1 (T k).2.1 (T k).2.2.1 ∈ tW ∧ (T k).2.2.2 = fin ∧ (T k).1 = C
theorem hc.kept {G : Gd} {d : Kd} {a : Nat} {i : Nat → Int32} {l : Nat → Int64} {r : Nat → Option Nat} {H H1 : Heap} (h : hc G d a i l r H) (hq : H1[a]? = H[a]?) : hc G d a i l r H1 := by
  cases d with
  | inl ci =>
    obtain ⟨q, h1, h2⟩ := h
    exact ⟨q, h1, h2.kept hq⟩
  | inr x => exact hq.trans h
theorem hc.lt {G : Gd} {d : Kd} {a : Nat} {i : Nat → Int32} {l : Nat → Int64} {r : Nat → Option Nat} {H : Heap} (h : hc G d a i l r H) : a < H.size := by
  cases d with
  | inl ci =>
    obtain ⟨q, h1, cell, h2, -⟩ := h
    exact (Array.getElem?_eq_some_iff.mp h2).1
  | inr x => exact (Array.getElem?_eq_some_iff.mp h).1
/-- a cell is changed -/
theorem HP.set {G : Gd} {base : Nat} {Y : MY} {I : MI} {L : ML} {H H1 : Heap} {a : Nat} {d : Kd} (h : HP G base Y I L H) (ha : Is base Y a d) (i : Nat → Int32) (l : Nat → Int64) (r : Nat → Option Nat) (hn : hc G d a i l r H1) (z : H1.size = H.size) (o : ∀ q : Nat, q ≠ a → H1[q]? = H[q]?) : HP G base (Y.1, Y.2.1, up1 Y.2.2 a r) (up1 I a i) (up1 L a l) H1 := by
  refine ⟨z.trans h.1, fun b d' hb => ?_⟩
  by_cases hba : b = a
  · subst hba
    have e : d' = d := hb.2.symm.trans ha.2
    subst e
    rw [up1_s, up1_s]
    show hc G d' b i l (up1 Y.2.2 b r b) H1
    rw [up1_s]
    exact hn
  · rw [up1_n hba, up1_n hba]
    show hc G d' b (I b) (L b) (up1 Y.2.2 a r b) H1
    rw [up1_n hba]
    exact (h.2 b d' hb).kept (o b hba)
theorem up1_id {α : Type} (f : Nat → α) (a : Nat) : up1 f a (f a) = f := by
  funext b
  by_cases h : b = a
  · subst h; rw [up1_s]
  · rw [up1_n h]
theorem HP.setI {G : Gd} {base : Nat} {Y : MY} {I : MI} {L : ML} {H H1 : Heap} {a : Nat} {d : Kd} (h : HP G base Y I L H) (ha : Is base Y a d) (i : Nat → Int32) (hn : hc G d a i (L a) (Y.2.2 a) H1) (z : H1.size = H.size) (o : ∀ q : Nat, q ≠ a → H1[q]? = H[q]?) : HP G base Y (up1 I a i) L H1 := by
  have := h.set ha i (L a) (Y.2.2 a) hn z o
  rw [up1_id, up1_id] at this
  exact this
theorem HP.setL {G : Gd} {base : Nat} {Y : MY} {I : MI} {L : ML} {H H1 : Heap} {a : Nat} {d : Kd} (h : HP G base Y I L H) (ha : Is base Y a d) (l : Nat → Int64) (hn : hc G d a (I a) l (Y.2.2 a) H1) (z : H1.size = H.size) (o : ∀ q : Nat, q ≠ a → H1[q]? = H[q]?) : HP G base Y I (up1 L a l) H1 := by
  have := h.set ha (I a) l (Y.2.2 a) hn z o
  rw [up1_id, up1_id] at this
  exact this
theorem HP.setR {G : Gd} {base : Nat} {Y : MY} {I : MI} {L : ML} {H H1 : Heap} {a : Nat} {d : Kd} (h : HP G base Y I L H) (ha : Is base Y a d) (r : Nat → Option Nat) (hn : hc G d a (I a) (L a) r H1) (z : H1.size = H.size) (o : ∀ q : Nat, q ≠ a → H1[q]? = H[q]?) : HP G base (Y.1, Y.2.1, up1 Y.2.2 a r) I L H1 := by
  have := h.set ha (I a) (L a) r hn z o
  rw [up1_id, up1_id] at this
  exact this
/-- a cell is made -/
theorem HP.new {G : Gd} {base : Nat} {Y : MY} {I : MI} {L : ML} {H H1 : Heap} (h : HP G base Y I L H) (d : Kd) (i : Nat → Int32) (l : Nat → Int64) (r : Nat → Option Nat) (hn : hc G d H.size i l r H1) (z : H1.size = H.size + 1) (o : ∀ q : Nat, q < H.size → H1[q]? = H[q]?) : HP G base (Y.1 + 1, up1 Y.2.1 (base + Y.1) d, up1 Y.2.2 (base + Y.1) r) (up1 I (base + Y.1) i) (up1 L (base + Y.1) l) H1 := by
  have hz := h.1
  rw [hz] at hn z o
  refine ⟨by rw [z]; rfl, fun b d' hb => ?_⟩
  by_cases hba : b = base + Y.1
  · subst hba
    have e : up1 Y.2.1 (base + Y.1) d (base + Y.1) = d' := hb.2
    rw [up1_s] at e
    subst e
    rw [up1_s, up1_s]
    show hc G d (base + Y.1) i l (up1 Y.2.2 (base + Y.1) r (base + Y.1)) H1
    rw [up1_s]
    exact hn
  · have hb1 : base ≤ b ∧ b < base + (Y.1 + 1) := hb.1
    have e : up1 Y.2.1 (base + Y.1) d b = d' := hb.2
    rw [up1_n hba] at e
    rw [up1_n hba, up1_n hba]
    show hc G d' b (I b) (L b) (up1 Y.2.2 (base + Y.1) r b) H1
    rw [up1_n hba]
    exact (h.2 b d' ⟨⟨hb1.1, by omega⟩, e⟩).kept (o b (by omega))
theorem Sput {base : Nat} {s : State} {Y : MY} {a : Nat} {d : Kd} {H H1 : Heap} {locs : List Loc} {k : Nat} (h : va_S (Ab base) s.heap H locs) (ha : Is base Y a d) (z : H1.size = H.size) (o : ∀ q : Nat, q ≠ a → H1[q]? = H[q]?) : va_S (Ab base) s.heap H1 (locs ++ [⟨a, k⟩]) := h.put z o ha.1.1
theorem Snew {base : Nat} {s : State} {H H1 : Heap} {locs : List Loc} (h : va_S (Ab base) s.heap H locs) (z : H1.size = H.size + 1) (o : ∀ q : Nat, q < H.size → H1[q]? = H[q]?) : va_S (Ab base) s.heap H1 locs :=
  ⟨Nat.le_trans h.1 (by omega), fun x h1 h2 => (o x (Nat.lt_of_lt_of_le h1 h.1)).trans (h.2.1 x h1 h2), h.2.2⟩
section MEM
variable {p : Program} {l : Launch} {e : Env} {R : Room} {s : State} {m : MethodId} {args : Array Value} {below : List Frame} {meth : Method} {c : Code} {cc : ByteArray} {nL : Nat} {own : String} {G : Gd} {base : Nat} {Q : State → Prop} {pc : Nat} {lo lo' : List (Nat × Value)} {st : List Value} {Y : MY} {I : MI} {L : ML} {cells slots : Nat}
theorem r_getI (C : Cx p s m args c cc nL own G base) {idx ci k a : Nat} {fin : Bool} (hF : FL own idx ci k fin) (ht : tc ci k = 0) (hd : decode cc pc = .ok (.getfield idx, 3)) (hA : Is base Y a (.inl ci))  (kk : Rn p l e R s m args below meth c nL G base Q (pc + 3) lo (.int (I a k) :: st) Y I L cells slots) : Rn p l e R s m args below meth c nL G base Q pc lo (.ref a :: st) Y I L cells slots := by
  intro ls H locs hl hP hS
  obtain ⟨hx, hb, hml, hown, hts, hK, hbs, hST⟩ := C
  obtain ⟨C', T, N, ⟨h1, h2, h3, h4, h5⟩, hk, hlk, hfin, -⟩ := hF
  obtain ⟨q, hq, cell, q1, q2, q3, q4⟩ := hP.2 a _ hA
  have hr : q = (C', T, N) := Option.some.inj (hq.symm.trans h1)
  subst hr
  obtain ⟨hS', hfc, kC, hkC, hkind⟩ := hK.1 ci _ h1
  obtain ⟨cf, kf, fi, f, hi, hsl⟩ := hS' k hk
  refine W.getf hx hb hown (hts _ hlk) hi (u_facts hfc hkC (u_lays hts h3 hk) hi).1 q1 (by rw [q3]; exact fun h => by cases h) (v := .int (I a k)) ?_ rfl rfl hd (kk ls H locs hl hP hS)
  rw [hsl, q4 k hk]
  dsimp only
  rw [ht]
  rfl
theorem r_getL (C : Cx p s m args c cc nL own G base) {idx ci k a : Nat} {fin : Bool} (hF : FL own idx ci k fin) (ht : tc ci k = 1) (hd : decode cc pc = .ok (.getfield idx, 3)) (hA : Is base Y a (.inl ci))  (kk : Rn p l e R s m args below meth c nL G base Q (pc + 3) lo (.long (L a k) :: st) Y I L cells slots) : Rn p l e R s m args below meth c nL G base Q pc lo (.ref a :: st) Y I L cells slots := by
  intro ls H locs hl hP hS
  obtain ⟨hx, hb, hml, hown, hts, hK, hbs, hST⟩ := C
  obtain ⟨C', T, N, ⟨h1, h2, h3, h4, h5⟩, hk, hlk, hfin, -⟩ := hF
  obtain ⟨q, hq, cell, q1, q2, q3, q4⟩ := hP.2 a _ hA
  have hr : q = (C', T, N) := Option.some.inj (hq.symm.trans h1)
  subst hr
  obtain ⟨hS', hfc, kC, hkC, hkind⟩ := hK.1 ci _ h1
  obtain ⟨cf, kf, fi, f, hi, hsl⟩ := hS' k hk
  refine W.getf hx hb hown (hts _ hlk) hi (u_facts hfc hkC (u_lays hts h3 hk) hi).1 q1 (by rw [q3]; exact fun h => by cases h) (v := .long (L a k)) ?_ rfl rfl hd (kk ls H locs hl hP hS)
  rw [hsl, q4 k hk]
  dsimp only
  rw [ht]
  rfl
theorem r_getR (C : Cx p s m args c cc nL own G base) {idx ci k a : Nat} {fin : Bool} (hF : FL own idx ci k fin) (ht : tc ci k = 2) (hd : decode cc pc = .ok (.getfield idx, 3)) (hA : Is base Y a (.inl ci)) {x : Nat} (hr : Y.2.2 a k = some x) (kk : Rn p l e R s m args below meth c nL G base Q (pc + 3) lo (.ref x :: st) Y I L cells slots) : Rn p l e R s m args below meth c nL G base Q pc lo (.ref a :: st) Y I L cells slots := by
  intro ls H locs hl hP hS
  obtain ⟨hx, hb, hml, hown, hts, hK, hbs, hST⟩ := C
  obtain ⟨C', T, N, ⟨h1, h2, h3, h4, h5⟩, hk, hlk, hfin, -⟩ := hF
  obtain ⟨q, hq, cell, q1, q2, q3, q4⟩ := hP.2 a _ hA
  have hr : q = (C', T, N) := Option.some.inj (hq.symm.trans h1)
  subst hr
  obtain ⟨hS', hfc, kC, hkC, hkind⟩ := hK.1 ci _ h1
  obtain ⟨cf, kf, fi, f, hi, hsl⟩ := hS' k hk
  refine W.getf hx hb hown (hts _ hlk) hi (u_facts hfc hkC (u_lays hts h3 hk) hi).1 q1 (by rw [q3]; exact fun h => by cases h) (v := .ref x) ?_ rfl rfl hd (kk ls H locs hl hP hS)
  rw [hsl, q4 k hk]
  dsimp only
  rw [ht, hr]
  rfl
theorem r_getN (C : Cx p s m args c cc nL own G base) {idx ci k a : Nat} {fin : Bool} (hF : FL own idx ci k fin) (ht : tc ci k = 2) (hd : decode cc pc = .ok (.getfield idx, 3)) (hA : Is base Y a (.inl ci)) (hr : Y.2.2 a k = none) (kk : Rn p l e R s m args below meth c nL G base Q (pc + 3) lo (.null :: st) Y I L cells slots) : Rn p l e R s m args below meth c nL G base Q pc lo (.ref a :: st) Y I L cells slots := by
  intro ls H locs hl hP hS
  obtain ⟨hx, hb, hml, hown, hts, hK, hbs, hST⟩ := C
  obtain ⟨C', T, N, ⟨h1, h2, h3, h4, h5⟩, hk, hlk, hfin, -⟩ := hF
  obtain ⟨q, hq, cell, q1, q2, q3, q4⟩ := hP.2 a _ hA
  have hr : q = (C', T, N) := Option.some.inj (hq.symm.trans h1)
  subst hr
  obtain ⟨hS', hfc, kC, hkC, hkind⟩ := hK.1 ci _ h1
  obtain ⟨cf, kf, fi, f, hi, hsl⟩ := hS' k hk
  refine W.getf hx hb hown (hts _ hlk) hi (u_facts hfc hkC (u_lays hts h3 hk) hi).1 q1 (by rw [q3]; exact fun h => by cases h) (v := .null) ?_ rfl rfl hd (kk ls H locs hl hP hS)
  rw [hsl, q4 k hk]
  dsimp only
  rw [ht, hr]
  rfl
theorem r_putI (C : Cx p s m args c cc nL own G base) {idx ci k a : Nat} {x : Int32} (hF : FL own idx ci k false) (ht : tyf ci k = .int) (hd : decode cc pc = .ok (.putfield idx, 3)) (hA : Is base Y a (.inl ci))   (kk : ∀ I', I' = up2 I a k x → Rn p l e R s m args below meth c nL G base Q (pc + 3) lo st Y I' L cells slots) : Rn p l e R s m args below meth c nL G base Q pc lo (.int x :: .ref a :: st) Y I L cells slots := by
  intro ls H locs hl hP hS
  obtain ⟨hx, hb, hml, hown, hts, hK, hbs, hST⟩ := C
  obtain ⟨C', T, N, ⟨h1, h2, h3, h4, h5⟩, hk, hlk, hfin, hTC⟩ := hF
  have hap := va_apart (own := own) hts h3 (tyf ci) h4 h5 hK h1
  obtain ⟨q, hq, cell, q1, q2, q3, q4⟩ := hP.2 a _ hA
  have hr : q = (C', T, N) := Option.some.inj (hq.symm.trans h1)
  subst hr
  obtain ⟨hS', hfc, kC, hkC, hkind⟩ := hK.1 ci _ h1
  obtain ⟨cf, kf, fi, f, hi, hsl⟩ := hS' k hk
  have hlay := hts _ (h3 _ (u_in_lay hk))
  unfold u_lay at hlay
  rw [if_neg (by rw [hfin]; decide)] at hlay
  have hst := (u_facts hfc hkC (u_lays hts h3 hk) hi).1
  have htc : tc ci k = 0 := by unfold tc; rw [ht]; rfl
  have hn : narrow (tyf ci k) (.int x) = .int x := by rw [ht]; rfl
  have hfit : fits (tyf ci k) (.int x) = true := by rw [ht]; rfl
  have h6 := u_store hfc hkC hkind hlay hi (h4 k hk) hn hfit
  refine W.putK hx hb (f := f) ⟨hown, hts _ hlk, ⟨_, _, _, hi⟩, hst⟩ (by rw [q2]; exact h6) q1 q3 (by rw [hsl]; exact k2_hasslot (q4 k hk)) rfl rfl hd fun H' e1 e2 e3 => ?_
  rw [hsl] at e1 ⊢
  refine kk _ rfl ls H' _ hl (HP.setI hP hA (up1 (I a) k x) ⟨_, h1, t_OB.to (V := updV (fun k => fv (tc ci k) (I a k) (L a k) (Y.2.2 a k)) k (.int x)) ⟨_, e1, q2, q3, t_set q4 hap hk _⟩ (fun j _ => ?_)⟩ e2 e3) (Sput hS hA e2 e3)
  by_cases hj : j = k
  · subst hj
    simp only [updV, if_pos, up1_s, htc]
    rfl
  · simp only [updV, if_neg hj, up1_n hj]
theorem r_putZ (C : Cx p s m args c cc nL own G base) {idx ci k a : Nat} {x : Int32} (hF : FL own idx ci k false) (ht : tyf ci k = .boolean) (hd : decode cc pc = .ok (.putfield idx, 3)) (hA : Is base Y a (.inl ci)) (hz : x = 0 ∨ x = 1)  (kk : ∀ I', I' = up2 I a k x → Rn p l e R s m args below meth c nL G base Q (pc + 3) lo st Y I' L cells slots) : Rn p l e R s m args below meth c nL G base Q pc lo (.int x :: .ref a :: st) Y I L cells slots := by
  intro ls H locs hl hP hS
  obtain ⟨hx, hb, hml, hown, hts, hK, hbs, hST⟩ := C
  obtain ⟨C', T, N, ⟨h1, h2, h3, h4, h5⟩, hk, hlk, hfin, hTC⟩ := hF
  have hap := va_apart (own := own) hts h3 (tyf ci) h4 h5 hK h1
  obtain ⟨q, hq, cell, q1, q2, q3, q4⟩ := hP.2 a _ hA
  have hr : q = (C', T, N) := Option.some.inj (hq.symm.trans h1)
  subst hr
  obtain ⟨hS', hfc, kC, hkC, hkind⟩ := hK.1 ci _ h1
  obtain ⟨cf, kf, fi, f, hi, hsl⟩ := hS' k hk
  have hlay := hts _ (h3 _ (u_in_lay hk))
  unfold u_lay at hlay
  rw [if_neg (by rw [hfin]; decide)] at hlay
  have hst := (u_facts hfc hkC (u_lays hts h3 hk) hi).1
  have htc : tc ci k = 0 := by unfold tc; rw [ht]; rfl
  have hn : narrow (tyf ci k) (.int x) = .int x := by rw [ht]; rcases hz with rfl | rfl <;> rfl
  have hfit : fits (tyf ci k) (.int x) = true := by rw [ht]; rcases hz with rfl | rfl <;> rfl
  have h6 := u_store hfc hkC hkind hlay hi (h4 k hk) hn hfit
  refine W.putK hx hb (f := f) ⟨hown, hts _ hlk, ⟨_, _, _, hi⟩, hst⟩ (by rw [q2]; exact h6) q1 q3 (by rw [hsl]; exact k2_hasslot (q4 k hk)) rfl rfl hd fun H' e1 e2 e3 => ?_
  rw [hsl] at e1 ⊢
  refine kk _ rfl ls H' _ hl (HP.setI hP hA (up1 (I a) k x) ⟨_, h1, t_OB.to (V := updV (fun k => fv (tc ci k) (I a k) (L a k) (Y.2.2 a k)) k (.int x)) ⟨_, e1, q2, q3, t_set q4 hap hk _⟩ (fun j _ => ?_)⟩ e2 e3) (Sput hS hA e2 e3)
  by_cases hj : j = k
  · subst hj
    simp only [updV, if_pos, up1_s, htc]
    rfl
  · simp only [updV, if_neg hj, up1_n hj]
theorem r_putL (C : Cx p s m args c cc nL own G base) {idx ci k a : Nat} {x : Int64} (hF : FL own idx ci k false) (ht : tyf ci k = .long) (hd : decode cc pc = .ok (.putfield idx, 3)) (hA : Is base Y a (.inl ci))   (kk : ∀ L', L' = up2 L a k x → Rn p l e R s m args below meth c nL G base Q (pc + 3) lo st Y I L' cells slots) : Rn p l e R s m args below meth c nL G base Q pc lo (.long x :: .ref a :: st) Y I L cells slots := by
  intro ls H locs hl hP hS
  obtain ⟨hx, hb, hml, hown, hts, hK, hbs, hST⟩ := C
  obtain ⟨C', T, N, ⟨h1, h2, h3, h4, h5⟩, hk, hlk, hfin, hTC⟩ := hF
  have hap := va_apart (own := own) hts h3 (tyf ci) h4 h5 hK h1
  obtain ⟨q, hq, cell, q1, q2, q3, q4⟩ := hP.2 a _ hA
  have hr : q = (C', T, N) := Option.some.inj (hq.symm.trans h1)
  subst hr
  obtain ⟨hS', hfc, kC, hkC, hkind⟩ := hK.1 ci _ h1
  obtain ⟨cf, kf, fi, f, hi, hsl⟩ := hS' k hk
  have hlay := hts _ (h3 _ (u_in_lay hk))
  unfold u_lay at hlay
  rw [if_neg (by rw [hfin]; decide)] at hlay
  have hst := (u_facts hfc hkC (u_lays hts h3 hk) hi).1
  have htc : tc ci k = 1 := by unfold tc; rw [ht]; rfl
  have hn : narrow (tyf ci k) (.long x) = .long x := by rw [ht]; rfl
  have hfit : fits (tyf ci k) (.long x) = true := by rw [ht]; rfl
  have h6 := u_store hfc hkC hkind hlay hi (h4 k hk) hn hfit
  refine W.putK hx hb (f := f) ⟨hown, hts _ hlk, ⟨_, _, _, hi⟩, hst⟩ (by rw [q2]; exact h6) q1 q3 (by rw [hsl]; exact k2_hasslot (q4 k hk)) rfl rfl hd fun H' e1 e2 e3 => ?_
  rw [hsl] at e1 ⊢
  refine kk _ rfl ls H' _ hl (HP.setL hP hA (up1 (L a) k x) ⟨_, h1, t_OB.to (V := updV (fun k => fv (tc ci k) (I a k) (L a k) (Y.2.2 a k)) k (.long x)) ⟨_, e1, q2, q3, t_set q4 hap hk _⟩ (fun j _ => ?_)⟩ e2 e3) (Sput hS hA e2 e3)
  by_cases hj : j = k
  · subst hj
    simp only [updV, if_pos, up1_s, htc]
    rfl
  · simp only [updV, if_neg hj, up1_n hj]
theorem r_putR (C : Cx p s m args c cc nL own G base) {idx ci k a : Nat} {x : Nat} (hF : FL own idx ci k false) (ht : tc ci k = 2) (hd : decode cc pc = .ok (.putfield idx, 3)) (hA : Is base Y a (.inl ci))   (kk :  Rn p l e R s m args below meth c nL G base Q (pc + 3) lo st (Y.1, Y.2.1, up2 Y.2.2 a k (some x)) I L cells slots) : Rn p l e R s m args below meth c nL G base Q pc lo (.ref x :: .ref a :: st) Y I L cells slots := by
  intro ls H locs hl hP hS
  obtain ⟨hx, hb, hml, hown, hts, hK, hbs, hST⟩ := C
  obtain ⟨C', T, N, ⟨h1, h2, h3, h4, h5⟩, hk, hlk, hfin, hTC⟩ := hF
  have hap := va_apart (own := own) hts h3 (tyf ci) h4 h5 hK h1
  obtain ⟨q, hq, cell, q1, q2, q3, q4⟩ := hP.2 a _ hA
  have hr : q = (C', T, N) := Option.some.inj (hq.symm.trans h1)
  subst hr
  obtain ⟨hS', hfc, kC, hkC, hkind⟩ := hK.1 ci _ h1
  obtain ⟨cf, kf, fi, f, hi, hsl⟩ := hS' k hk
  have hlay := hts _ (h3 _ (u_in_lay hk))
  unfold u_lay at hlay
  rw [if_neg (by rw [hfin]; decide)] at hlay
  have hst := (u_facts hfc hkC (u_lays hts h3 hk) hi).1
  have htc : tc ci k = 2 := by exact ht
  have hn : narrow (tyf ci k) (.ref x) = .ref x := by cases h : tyf ci k <;> rfl
  have hfit : fits (tyf ci k) (.ref x) = true := by
    unfold tc at ht
    cases h : tyf ci k <;> rw [h] at ht <;> first | rfl | cases ht
  have h6 := u_store hfc hkC hkind hlay hi (h4 k hk) hn hfit
  refine W.putK hx hb (f := f) ⟨hown, hts _ hlk, ⟨_, _, _, hi⟩, hst⟩ (by rw [q2]; exact h6) q1 q3 (by rw [hsl]; exact k2_hasslot (q4 k hk)) rfl rfl hd fun H' e1 e2 e3 => ?_
  rw [hsl] at e1 ⊢
  refine kk ls H' _ hl (HP.setR hP hA (up1 (Y.2.2 a) k (some x)) ⟨_, h1, t_OB.to (V := updV (fun k => fv (tc ci k) (I a k) (L a k) (Y.2.2 a k)) k (.ref x)) ⟨_, e1, q2, q3, t_set q4 hap hk _⟩ (fun j _ => ?_)⟩ e2 e3) (Sput hS hA e2 e3)
  by_cases hj : j = k
  · subst hj
    simp only [updV, if_pos, up1_s, htc]
    rfl
  · simp only [updV, if_neg hj, up1_n hj]
theorem r_putRF (C : Cx p s m args c cc nL own G base) {idx ci k a : Nat} {x : Nat} (hF : FL own idx ci k true) (ht : tc ci k = 2) (hd : decode cc pc = .ok (.putfield idx, 3)) (hA : Is base Y a (.inl ci))  (hin : meth.name = "<init>") (hoc : (vwCl[ci]?).map (fun q => q.1) = some own) (kk :  Rn p l e R s m args below meth c nL G base Q (pc + 3) lo st (Y.1, Y.2.1, up2 Y.2.2 a k (some x)) I L cells slots) : Rn p l e R s m args below meth c nL G base Q pc lo (.ref x :: .ref a :: st) Y I L cells slots := by
  intro ls H locs hl hP hS
  obtain ⟨hx, hb, hml, hown, hts, hK, hbs, hST⟩ := C
  obtain ⟨C', T, N, ⟨h1, h2, h3, h4, h5⟩, hk, hlk, hfin, hTC⟩ := hF
  have hap := va_apart (own := own) hts h3 (tyf ci) h4 h5 hK h1
  obtain ⟨q, hq, cell, q1, q2, q3, q4⟩ := hP.2 a _ hA
  have hr : q = (C', T, N) := Option.some.inj (hq.symm.trans h1)
  subst hr
  obtain ⟨hS', hfc, kC, hkC, hkind⟩ := hK.1 ci _ h1
  obtain ⟨cf, kf, fi, f, hi, hsl⟩ := hS' k hk
  have hlay := hts _ (h3 _ (u_in_lay hk))
  unfold u_lay at hlay
  rw [if_pos hfin] at hlay
  have hst := (u_facts hfc hkC (u_lays hts h3 hk) hi).1
  have htc : tc ci k = 2 := by exact ht
  have hn : narrow (tyf ci k) (.ref x) = .ref x := by cases h : tyf ci k <;> rfl
  have hfit : fits (tyf ci k) (.ref x) = true := by
    unfold tc at ht
    cases h : tyf ci k <;> rw [h] at ht <;> first | rfl | cases ht
  have hcf : m.cls = cf := by
    obtain ⟨_, _, c', _, _, _, -, -, hf', -, -, -, hown2, -⟩ := Cond.laysFinal_spec hlay
    have e1 : c' = cf := by have := hi.symm.trans hf'; simp at this; exact this.1.symm
    rw [h1] at hoc
    have e2 : C' = own := Option.some.inj hoc
    rw [hTC, e2] at hown2
    rw [← e1]; exact Option.some.inj (hown.symm.trans hown2)
  have h6 := u_fits hfc hkC hkind (Or.inr hlay) hi (h4 k hk) hn hfit
  refine W.putFinK hx hb hown (hts _ hlk) hi hst hcf hin (by rw [q2]; exact h6) q1 q3 (by rw [hsl]; exact k2_hasslot (q4 k hk)) rfl rfl hd fun H' e1 e2 e3 => ?_
  rw [hsl] at e1 ⊢
  refine kk ls H' _ hl (HP.setR hP hA (up1 (Y.2.2 a) k (some x)) ⟨_, h1, t_OB.to (V := updV (fun k => fv (tc ci k) (I a k) (L a k) (Y.2.2 a k)) k (.ref x)) ⟨_, e1, q2, q3, t_set q4 hap hk _⟩ (fun j _ => ?_)⟩ e2 e3) (Sput hS hA e2 e3)
  by_cases hj : j = k
  · subst hj
    simp only [updV, if_pos, up1_s, htc]
    rfl
  · simp only [updV, if_neg hj, up1_n hj]
theorem r_iald (C : Cx p s m args c cc nL own G base) {a n : Nat} {x : Int32} (i : Nat) (hd : decode cc pc = .ok (.iaload, 1)) (hA : Is base Y a (.inr (0, n))) (hi : Ix x i n)  (kk : Rn p l e R s m args below meth c nL G base Q (pc + 1) lo (.int (I a i) :: st) Y I L cells slots) : Rn p l e R s m args below meth c nL G base Q pc lo (.int x :: .ref a :: st) Y I L cells slots := by
  intro ls H locs hl hP hS
  obtain ⟨hx, hb, hml, hown, hts, hK, hbs, hST⟩ := C
  have q1 : H[a]? = some (arrV (G.2.1 0) n (fun j => fv (ftc (aty 0)) (I a j) (L a j) (Y.2.2 a j))) := hP.2 a _ hA
  have hin := hi.in
  have hnn := hi.nat
  refine W.iald hx hb q1 ((hK.2 0 _ (atys_at G (by decide))).1 n _) (fun q => by cases q) (by rw [arrV_size]; exact hin) (v := .int (I a i)) ?_ rfl rfl hd (kk ls H locs hl hP hS)
  rw [hnn, arrV_read _ _ hi.2.1]
  rfl
theorem r_lald (C : Cx p s m args c cc nL own G base) {a n : Nat} {x : Int32} (i : Nat) (hd : decode cc pc = .ok (.laload, 1)) (hA : Is base Y a (.inr (1, n))) (hi : Ix x i n)  (kk : Rn p l e R s m args below meth c nL G base Q (pc + 1) lo (.long (L a i) :: st) Y I L cells slots) : Rn p l e R s m args below meth c nL G base Q pc lo (.int x :: .ref a :: st) Y I L cells slots := by
  intro ls H locs hl hP hS
  obtain ⟨hx, hb, hml, hown, hts, hK, hbs, hST⟩ := C
  have q1 : H[a]? = some (arrV (G.2.1 1) n (fun j => fv (ftc (aty 1)) (I a j) (L a j) (Y.2.2 a j))) := hP.2 a _ hA
  have hin := hi.in
  have hnn := hi.nat
  refine W.lald hx hb q1 ((hK.2 1 _ (atys_at G (by decide))).1 n _) (fun q => by cases q) (by rw [arrV_size]; exact hin) (v := .long (L a i)) ?_ rfl rfl hd (kk ls H locs hl hP hS)
  rw [hnn, arrV_read _ _ hi.2.1]
  rfl
theorem r_zald (C : Cx p s m args c cc nL own G base) {a n : Nat} {x : Int32} (i : Nat) (hd : decode cc pc = .ok (.baload, 1)) (hA : Is base Y a (.inr (2, n))) (hi : Ix x i n)  (kk : Rn p l e R s m args below meth c nL G base Q (pc + 1) lo (.int (I a i) :: st) Y I L cells slots) : Rn p l e R s m args below meth c nL G base Q pc lo (.int x :: .ref a :: st) Y I L cells slots := by
  intro ls H locs hl hP hS
  obtain ⟨hx, hb, hml, hown, hts, hK, hbs, hST⟩ := C
  have q1 : H[a]? = some (arrV (G.2.1 2) n (fun j => fv (ftc (aty 2)) (I a j) (L a j) (Y.2.2 a j))) := hP.2 a _ hA
  have hin := hi.in
  have hnn := hi.nat
  refine W.zald hx hb q1 ((hK.2 2 _ (atys_at G (by decide))).1 n _) (fun q => by cases q) (by rw [arrV_size]; exact hin) (v := .int (I a i)) ?_ rfl rfl hd (kk ls H locs hl hP hS)
  rw [hnn, arrV_read _ _ hi.2.1]
  rfl
theorem r_cald (C : Cx p s m args c cc nL own G base) {a n : Nat} {x : Int32} (i : Nat) (hd : decode cc pc = .ok (.caload, 1)) (hA : Is base Y a (.inr (3, n))) (hi : Ix x i n)  (kk : Rn p l e R s m args below meth c nL G base Q (pc + 1) lo (.int (I a i) :: st) Y I L cells slots) : Rn p l e R s m args below meth c nL G base Q pc lo (.int x :: .ref a :: st) Y I L cells slots := by
  intro ls H locs hl hP hS
  obtain ⟨hx, hb, hml, hown, hts, hK, hbs, hST⟩ := C
  have q1 : H[a]? = some (arrV (G.2.1 3) n (fun j => fv (ftc (aty 3)) (I a j) (L a j) (Y.2.2 a j))) := hP.2 a _ hA
  have hin := hi.in
  have hnn := hi.nat
  refine W.cald hx hb q1 ((hK.2 3 _ (atys_at G (by decide))).1 n _) (fun q => by cases q) (by rw [arrV_size]; exact hin) (v := .int (I a i)) ?_ rfl rfl hd (kk ls H locs hl hP hS)
  rw [hnn, arrV_read _ _ hi.2.1]
  rfl
theorem r_aald (C : Cx p s m args c cc nL own G base) {a n : Nat} {x : Int32} {t : Nat} (ht8 : t < 8) (htr : 4 ≤ t) (i : Nat) (hd : decode cc pc = .ok (.aaload, 1)) (hA : Is base Y a (.inr (t, n))) (hi : Ix x i n) {y : Nat} (hr : Y.2.2 a i = some y) (kk : Rn p l e R s m args below meth c nL G base Q (pc + 1) lo (.ref y :: st) Y I L cells slots) : Rn p l e R s m args below meth c nL G base Q pc lo (.int x :: .ref a :: st) Y I L cells slots := by
  intro ls H locs hl hP hS
  obtain ⟨hx, hb, hml, hown, hts, hK, hbs, hST⟩ := C
  have q1 : H[a]? = some (arrV (G.2.1 t) n (fun j => fv (ftc (aty t)) (I a j) (L a j) (Y.2.2 a j))) := hP.2 a _ hA
  have hin := hi.in
  have hnn := hi.nat
  have hft : ftc (aty t) = 2 := by
    match t, ht8, htr with
    | 4, _, _ => rfl
    | 5, _, _ => rfl
    | 6, _, _ => rfl
    | 7, _, _ => rfl
  have hrf : (aty t).isReference = true := by
    match t, ht8, htr with
    | 4, _, _ => rfl
    | 5, _, _ => rfl
    | 6, _, _ => rfl
    | 7, _, _ => rfl
  refine W.aald hx hb q1 ((hK.2 t _ (atys_at G ht8)).1 n _) hrf (fun q => by cases q) (by rw [arrV_size]; exact hin) (v := .ref y) ?_ rfl rfl hd (kk ls H locs hl hP hS)
  rw [hnn, arrV_read _ _ hi.2.1]
  rw [hft, hr]; rfl
theorem r_aaldN (C : Cx p s m args c cc nL own G base) {a n : Nat} {x : Int32} {t : Nat} (ht8 : t < 8) (htr : 4 ≤ t) (i : Nat) (hd : decode cc pc = .ok (.aaload, 1)) (hA : Is base Y a (.inr (t, n))) (hi : Ix x i n) (hr : Y.2.2 a i = none) (kk : Rn p l e R s m args below meth c nL G base Q (pc + 1) lo (.null :: st) Y I L cells slots) : Rn p l e R s m args below meth c nL G base Q pc lo (.int x :: .ref a :: st) Y I L cells slots := by
  intro ls H locs hl hP hS
  obtain ⟨hx, hb, hml, hown, hts, hK, hbs, hST⟩ := C
  have q1 : H[a]? = some (arrV (G.2.1 t) n (fun j => fv (ftc (aty t)) (I a j) (L a j) (Y.2.2 a j))) := hP.2 a _ hA
  have hin := hi.in
  have hnn := hi.nat
  have hft : ftc (aty t) = 2 := by
    match t, ht8, htr with
    | 4, _, _ => rfl
    | 5, _, _ => rfl
    | 6, _, _ => rfl
    | 7, _, _ => rfl
  have hrf : (aty t).isReference = true := by
    match t, ht8, htr with
    | 4, _, _ => rfl
    | 5, _, _ => rfl
    | 6, _, _ => rfl
    | 7, _, _ => rfl
  refine W.aald hx hb q1 ((hK.2 t _ (atys_at G ht8)).1 n _) hrf (fun q => by cases q) (by rw [arrV_size]; exact hin) (v := .null) ?_ rfl rfl hd (kk ls H locs hl hP hS)
  rw [hnn, arrV_read _ _ hi.2.1]
  rw [hft, hr]; rfl
theorem r_iast (C : Cx p s m args c cc nL own G base) {a n : Nat} {x : Int32} {v : Int32} (i : Nat) (hd : decode cc pc = .ok (.iastore, 1)) (hA : Is base Y a (.inr (0, n))) (hi : Ix x i n)  (kk : ∀ I', I' = up2 I a i v → Rn p l e R s m args below meth c nL G base Q (pc + 1) lo st Y I' L cells slots) : Rn p l e R s m args below meth c nL G base Q pc lo (.int v :: .int x :: .ref a :: st) Y I L cells slots := by
  intro ls H locs hl hP hS
  obtain ⟨hx, hb, hml, hown, hts, hK, hbs, hST⟩ := C
  have q1 : H[a]? = some (arrV (G.2.1 0) n (fun j => fv (ftc (aty 0)) (I a j) (L a j) (Y.2.2 a j))) := hP.2 a _ hA
  have hin := hi.in
  have hnn := hi.nat
  refine W.iast hx hb q1 ((hK.2 0 _ (atys_at G (by decide))).1 n _) (fun q => by cases q) (by rw [arrV_size]; exact hin) rfl rfl hd fun H' e1 e2 e3 => ?_
  rw [hnn] at e1 ⊢
  refine kk _ rfl ls H' _ hl (HP.setI hP hA (up1 (I a) i v) ?_ e2 e3) (Sput hS hA e2 e3)
  show H'[a]? = some _
  rw [e1, arrV_store]
  congr 2
  funext j
  by_cases hj : j = i
  · subst hj
    simp only [updV, if_pos, up1_s]
    rfl
  · simp only [updV, if_neg hj, up1_n hj]
theorem r_last (C : Cx p s m args c cc nL own G base) {a n : Nat} {x : Int32} {v : Int64} (i : Nat) (hd : decode cc pc = .ok (.lastore, 1)) (hA : Is base Y a (.inr (1, n))) (hi : Ix x i n)  (kk : ∀ L', L' = up2 L a i v → Rn p l e R s m args below meth c nL G base Q (pc + 1) lo st Y I L' cells slots) : Rn p l e R s m args below meth c nL G base Q pc lo (.long v :: .int x :: .ref a :: st) Y I L cells slots := by
  intro ls H locs hl hP hS
  obtain ⟨hx, hb, hml, hown, hts, hK, hbs, hST⟩ := C
  have q1 : H[a]? = some (arrV (G.2.1 1) n (fun j => fv (ftc (aty 1)) (I a j) (L a j) (Y.2.2 a j))) := hP.2 a _ hA
  have hin := hi.in
  have hnn := hi.nat
  refine W.last hx hb q1 ((hK.2 1 _ (atys_at G (by decide))).1 n _) (fun q => by cases q) (by rw [arrV_size]; exact hin) rfl rfl hd fun H' e1 e2 e3 => ?_
  rw [hnn] at e1 ⊢
  refine kk _ rfl ls H' _ hl (HP.setL hP hA (up1 (L a) i v) ?_ e2 e3) (Sput hS hA e2 e3)
  show H'[a]? = some _
  rw [e1, arrV_store]
  congr 2
  funext j
  by_cases hj : j = i
  · subst hj
    simp only [updV, if_pos, up1_s]
    rfl
  · simp only [updV, if_neg hj, up1_n hj]
theorem r_zast (C : Cx p s m args c cc nL own G base) {a n : Nat} {x : Int32} {v : Int32} (i : Nat) (hd : decode cc pc = .ok (.bastore, 1)) (hA : Is base Y a (.inr (2, n))) (hi : Ix x i n) (hz : v = 0 ∨ v = 1) (kk : ∀ I', I' = up2 I a i v → Rn p l e R s m args below meth c nL G base Q (pc + 1) lo st Y I' L cells slots) : Rn p l e R s m args below meth c nL G base Q pc lo (.int v :: .int x :: .ref a :: st) Y I L cells slots := by
  intro ls H locs hl hP hS
  obtain ⟨hx, hb, hml, hown, hts, hK, hbs, hST⟩ := C
  have q1 : H[a]? = some (arrV (G.2.1 2) n (fun j => fv (ftc (aty 2)) (I a j) (L a j) (Y.2.2 a j))) := hP.2 a _ hA
  have hin := hi.in
  have hnn := hi.nat
  refine W.zast hx hb q1 ((hK.2 2 _ (atys_at G (by decide))).1 n _) (fun q => by cases q) (by rw [arrV_size]; exact hin) rfl rfl hd fun H' e1 e2 e3 => ?_
  rw [hnn] at e1 ⊢
  refine kk _ rfl ls H' _ hl (HP.setI hP hA (up1 (I a) i v) ?_ e2 e3) (Sput hS hA e2 e3)
  show H'[a]? = some _
  rw [e1, arrV_store]
  rw [show narrow .boolean (.int v) = .int v by rcases hz with rfl | rfl <;> rfl]
  congr 2
  funext j
  by_cases hj : j = i
  · subst hj
    simp only [updV, if_pos, up1_s]
    rfl
  · simp only [updV, if_neg hj, up1_n hj]
theorem r_cast (C : Cx p s m args c cc nL own G base) {a n : Nat} {x : Int32} {v : Int32} (i : Nat) (hd : decode cc pc = .ok (.castore, 1)) (hA : Is base Y a (.inr (3, n))) (hi : Ix x i n) (hz : narrow .char (.int v) = .int v) (kk : ∀ I', I' = up2 I a i v → Rn p l e R s m args below meth c nL G base Q (pc + 1) lo st Y I' L cells slots) : Rn p l e R s m args below meth c nL G base Q pc lo (.int v :: .int x :: .ref a :: st) Y I L cells slots := by
  intro ls H locs hl hP hS
  obtain ⟨hx, hb, hml, hown, hts, hK, hbs, hST⟩ := C
  have q1 : H[a]? = some (arrV (G.2.1 3) n (fun j => fv (ftc (aty 3)) (I a j) (L a j) (Y.2.2 a j))) := hP.2 a _ hA
  have hin := hi.in
  have hnn := hi.nat
  refine W.cast hx hb q1 ((hK.2 3 _ (atys_at G (by decide))).1 n _) (fun q => by cases q) (by rw [arrV_size]; exact hin) rfl rfl hd fun H' e1 e2 e3 => ?_
  rw [hnn] at e1 ⊢
  refine kk _ rfl ls H' _ hl (HP.setI hP hA (up1 (I a) i v) ?_ e2 e3) (Sput hS hA e2 e3)
  show H'[a]? = some _
  rw [e1, arrV_store]
  rw [hz]
  congr 2
  funext j
  by_cases hj : j = i
  · subst hj
    simp only [updV, if_pos, up1_s]
    rfl
  · simp only [updV, if_neg hj, up1_n hj]
theorem r_aast (C : Cx p s m args c cc nL own G base) {a n b t ci : Nat} {x : Int32} (ht8 : t < 8) (htr : 4 ≤ t) (htc : (vwCl[ci]?).map (fun q => FieldType.object q.1) = some (aty t)) (i : Nat) (hd : decode cc pc = .ok (.aastore, 1)) (hA : Is base Y a (.inr (t, n))) (hB : Is base Y b (.inl ci)) (hi : Ix x i n) (kk : Rn p l e R s m args below meth c nL G base Q (pc + 1) lo st (Y.1, Y.2.1, up2 Y.2.2 a i (some b)) I L cells slots) : Rn p l e R s m args below meth c nL G base Q pc lo (.ref b :: .int x :: .ref a :: st) Y I L cells slots := by
  intro ls H locs hl hP hS
  obtain ⟨hx, hb, hml, hown, hts, hK, hbs, hST⟩ := C
  have hft : ftc (aty t) = 2 := by
    match t, ht8, htr with
    | 4, _, _ => rfl
    | 5, _, _ => rfl
    | 6, _, _ => rfl
    | 7, _, _ => rfl
  have hrf : (aty t).isReference = true := by
    match t, ht8, htr with
    | 4, _, _ => rfl
    | 5, _, _ => rfl
    | 6, _, _ => rfl
    | 7, _, _ => rfl
  have q1 : H[a]? = some (arrV (G.2.1 t) n (fun j => fv (ftc (aty t)) (I a j) (L a j) (Y.2.2 a j))) := hP.2 a _ hA
  have hin := hi.in
  have hnn := hi.nat
  have h0 : ¬ x < 0 := fun q => hin (Or.inl q)
  obtain ⟨q, hq, cell, g1, g2, g3, -⟩ := hP.2 b _ hB
  rw [hq] at htc
  have hat : aty t = .object q.1 := (Option.some.inj htc).symm
  have hcls := (hK.1 ci q hq).2
  have h2 := (hK.2 t _ (atys_at G ht8)).2
  dsimp only at h2
  rw [hat] at h2
  obtain ⟨kA, comp, k1, k2, k3, -⟩ := h2
  have hcomp : comp = G.1.1 ci := Option.some.inj (k3.symm.trans hcls.1)
  subst hcomp
  obtain ⟨kC, hkC, -⟩ := hcls.2
  refine W.aast hx hb q1 (fun q h => by cases h) (fun h => by cases h) k1 k2 rfl hkC ⟨h0, by rw [arrV_size, hnn]; exact hi.2.1⟩ g1 (fun q h => by rw [g3] at h; cases h) (by rw [g2]; exact hkC) (by rw [g2]; exact va_assign hcls) rfl rfl hd fun H' e1 e2 e3 => ?_
  rw [hnn] at e1 ⊢
  refine kk ls H' _ hl (HP.setR hP hA (up1 (Y.2.2 a) i (some b)) ?_ e2 e3) (Sput hS hA e2 e3)
  show H'[a]? = some _
  rw [e1, arrV_store]
  congr 2
  funext j
  by_cases hj : j = i
  · subst hj
    simp only [updV, if_pos, up1_s, hft]
    rfl
  · simp only [updV, if_neg hj, up1_n hj]
theorem r_alen (C : Cx p s m args c cc nL own G base) {a n t : Nat} (ht8 : t < 8) (hd : decode cc pc = .ok (.arraylength, 1)) (hA : Is base Y a (.inr (t, n))) (kk : Rn p l e R s m args below meth c nL G base Q (pc + 1) lo (.int (iI n) :: st) Y I L cells slots) : Rn p l e R s m args below meth c nL G base Q pc lo (.ref a :: st) Y I L cells slots := by
  intro ls H locs hl hP hS
  obtain ⟨hx, hb, hml, hown, hts, hK, hbs, hST⟩ := C
  have q1 : H[a]? = some (arrV (G.2.1 t) n (fun j => fv (ftc (aty t)) (I a j) (L a j) (Y.2.2 a j))) := hP.2 a _ hA
  refine W.alen hx hb q1 ((hK.2 t _ (atys_at G ht8)).1 n _) (n := iI n) ?_ rfl rfl hd (kk ls H locs hl hP hS)
  rw [arrV_size]
  exact (Int32.ofInt_eq_ofNat).symm
theorem r_new (C : Cx p s m args c cc nL own G base) {idx ci N : Nat} {D : String} {T : u_T} (hk : CK ci D T N) (hw1 : Cond.classLink own idx D ∈ tW) (hw2 : Cond.instantiable D N ∈ tW) (hw3 : Cond.initialized D ∈ tW) (hdf : ∀ k, k < N → defaultValue (tyf ci k) = fv (tc ci k) 0 0 none) (hcell : cells + 1 ≤ R.cells) (hslot : slots + N ≤ R.slots) (hd : decode cc pc = .ok (.new idx, 3)) (kk : ∀ a, a = base + Y.1 → Rn p l e R s m args below meth c nL G base Q (pc + 3) lo (.ref a :: st) (Y.1 + 1, up1 Y.2.1 a (.inl ci), up1 Y.2.2 a (fun _ => none)) (up1 I a (fun _ => 0)) (up1 L a (fun _ => 0)) (cells + 1) (slots + N)) : Rn p l e R s m args below meth c nL G base Q pc lo st Y I L cells slots := by
  intro ls H locs hl hP hS
  obtain ⟨hx, hb, hml, hown, hts, hK, hbs, hST⟩ := C
  obtain ⟨h1, h2, h3, h4, h5⟩ := hk
  have hKn := hK.1 ci _ h1
  refine W.newcK hx hb hown (hts _ hw1) (hts _ hw2) (hts _ hw3) rfl hd hcell hslot hKn.2.1 rfl fun H1 kC hkC e1 z1 o1 => ?_
  rw [show H.size = base + Y.1 from hP.1]
  refine kk _ rfl ls H1 locs hl (hP.new _ _ _ _ ?_ z1 o1) (Snew hS z1 o1)
  refine ⟨_, h1, (u_born (tyf ci) hts h3 hKn hkC e1 h4).to (fun k hk => hdf k hk)⟩
theorem r_newa (C : Cx p s m args c cc nL own G base) {t n : Nat} {x : Int32} {aty0 : ArrayType} (ht8 : t < 4) (hty : newarray.typeOf aty0 = aty t) (hw : Cond.arrayClass (aty t) ∈ tW) (hn : x = iI n) (hn2 : n ≤ 10000) (hcell : cells + 1 ≤ R.cells) (hslot : slots + n ≤ R.slots) (hd : decode cc pc = .ok (.newarray aty0, 2)) (kk : ∀ a, a = base + Y.1 → Rn p l e R s m args below meth c nL G base Q (pc + 2) lo (.ref a :: st) (Y.1 + 1, up1 Y.2.1 a (.inr (t, n)), up1 Y.2.2 a (fun _ => none)) (up1 I a (fun _ => 0)) (up1 L a (fun _ => 0)) (cells + 1) (slots + n)) : Rn p l e R s m args below meth c nL G base Q pc lo (.int x :: st) Y I L cells slots := by
  intro ls H locs hl hP hS
  obtain ⟨hx, hb, hml, hown, hts, hK, hbs, hST⟩ := C
  have hnn : x.toNatClampNeg = n := by rw [hn]; exact iI_nat (by omega)
  have h0 : ¬ x < 0 := by
    intro q
    rw [hn, Int32.lt_iff_toInt_lt, iI_toInt (by omega) (by omega)] at q
    have : (0 : Int32).toInt = 0 := rfl
    omega
  have hcb : n * componentBytes (newarray.typeOf aty0) ≤ 536870912 := by
    have h8 : componentBytes (newarray.typeOf aty0) ≤ 8 := by cases aty0 <;> decide
    calc n * componentBytes (newarray.typeOf aty0) ≤ 10000 * 8 := Nat.mul_le_mul hn2 h8
      _ ≤ 536870912 := by decide
  refine va_newaK hx hb (by rw [hty]; exact hts _ hw) rfl hd rfl h0 hnn hcb hcell hslot rfl fun H1 cA e1 z1 o1 hAr hNm => ?_
  rw [show H.size = base + Y.1 from hP.1]
  have h2 := (hK.2 t _ (atys_at G (by omega : t < 8))).2
  have hcA : cA = G.2.1 t := by
    dsimp only at h2
    rw [hty] at hNm
    match t, ht8 with
    | 0, _ => exact Option.some.inj (hNm.symm.trans h2)
    | 1, _ => exact Option.some.inj (hNm.symm.trans h2)
    | 2, _ => exact Option.some.inj (hNm.symm.trans h2)
    | 3, _ => exact Option.some.inj (hNm.symm.trans h2)
  subst hcA
  refine kk _ rfl ls H1 locs hl (hP.new _ _ _ _ ?_ z1 o1) (Snew hS z1 o1)
  show H1[H.size]? = some _
  rw [e1, hty]
  match t, ht8 with
  | 0, _ => rfl
  | 1, _ => rfl
  | 2, _ => rfl
  | 3, _ => rfl
theorem r_anew (C : Cx p s m args c cc nL own G base) {t n idx : Nat} {x : Int32} {D : String} (ht8 : t < 8) (htr : 4 ≤ t) (hty : aty t = .object D) (hDn : D ∈ ncl) (hw : Cond.classLink own idx D ∈ tW) (hn : x = iI n) (hn2 : n ≤ 10000) (hcell : cells + 1 ≤ R.cells) (hslot : slots + n ≤ R.slots) (hd : decode cc pc = .ok (.anewarray idx, 3)) (kk : ∀ a, a = base + Y.1 → Rn p l e R s m args below meth c nL G base Q (pc + 3) lo (.ref a :: st) (Y.1 + 1, up1 Y.2.1 a (.inr (t, n)), up1 Y.2.2 a (fun _ => none)) (up1 I a (fun _ => 0)) (up1 L a (fun _ => 0)) (cells + 1) (slots + n)) : Rn p l e R s m args below meth c nL G base Q pc lo (.int x :: st) Y I L cells slots := by
  intro ls H locs hl hP hS
  obtain ⟨hx, hb, hml, hown, hts, hK, hbs, hST⟩ := C
  have hft : ftc (aty t) = 2 := by
    match t, ht8, htr with
    | 4, _, _ => rfl
    | 5, _, _ => rfl
    | 6, _, _ => rfl
    | 7, _, _ => rfl
  have hrf : (aty t).isReference = true := by
    match t, ht8, htr with
    | 4, _, _ => rfl
    | 5, _, _ => rfl
    | 6, _, _ => rfl
    | 7, _, _ => rfl
  have hnn : x.toNatClampNeg = n := by rw [hn]; exact iI_nat (by omega)
  have h0 : ¬ x < 0 := by
    intro q
    rw [hn, Int32.lt_iff_toInt_lt, iI_toInt (by omega) (by omega)] at q
    have : (0 : Int32).toInt = 0 := rfl
    omega
  refine W.anew hx hb hown (hts _ hw) (va_AO.use (hST.2.1 D hDn)) rfl hd rfl h0 (by rw [hnn]; omega) hcell (by rw [hnn]; exact hslot) fun cA kA comp f1 f2 f3 f4 => ?_
  rw [hnn]
  generalize hH1 : H.push ({ cls := cA, slots := Array.replicate n .null, vm := .none } : Cell) = H1
  have z1 : H1.size = H.size + 1 := by rw [← hH1, Array.size_push]
  have e1 : H1[H.size]? = some (arrV cA n (fun _ => .null)) := by rw [← hH1, Array.getElem?_push_size, ← arrV_new]
  have o1 : ∀ q : Nat, q < H.size → H1[q]? = H[q]? := fun q hq => by rw [← hH1, Array.getElem?_push, if_neg (Nat.ne_of_lt hq)]
  have h2 := (hK.2 t _ (atys_at G ht8)).2
  dsimp only at h2
  rw [hty] at h2
  obtain ⟨kA', comp', k1, k2, k3, k4⟩ := h2
  have hcA : cA = G.2.1 t := Option.some.inj (f1.symm.trans k4)
  subst hcA
  rw [show H.size = base + Y.1 from hP.1]
  refine kk _ rfl ls H1 locs hl (hP.new _ _ _ _ ?_ z1 o1) (Snew hS z1 o1)
  show H1[H.size]? = some _
  rw [e1, hft]
  rfl
end MEM
end
section
theorem ST.same {G : Gd} {base : Nat} {s t : State} {H : Heap} (h : ST G base s H) (e : s.vm = t.vm) : ST G base t H := by
  have hv : s.vm.Alike t.vm := e ▸ Vm.Alike.refl s.vm
  exact ⟨fun j hj => ⟨(h.1 j hj).1.moved hv, (h.1 j hj).2.moved hv⟩, fun C hC => (h.2.1 C hC).moved hv, va_Nw.same rfl e h.2.2.1, va_Nw.same rfl e h.2.2.2.1, va_Nw.same rfl e h.2.2.2.2⟩
/-- a state of the machine that holds the memory -/
def Wd (G : Gd) (base : Nat) (Y : MY) (I : MI) (L : ML) (U : State) : Prop := KN G U ∧ HP G base Y I L U.heap ∧ ST G base U U.heap
def Qct (G : Gd) (base : Nat) (F : Option Value → MY → MI → ML → Prop) : Array Value → State → Outcome → State → Prop := fun _ st oc t => (∃ v Y I L, oc = .returned v ∧ F v Y I L ∧ Wd G base Y I L t) ∧ va_F (Ab base) st t
/-- the contract of a method: from these arguments and this memory it returns with F -/
def Ct (l : Launch) (y : MethodName) (cc : ByteArray) (nL : Nat) (ret : Option FieldType) (rm : Room) (G : Gd) (base : Nat) (av : List Value) (Y : MY) (I : MI) (L : ML) (F : Option Value → MY → MI → ML → Prop) : Prop :=
  Met l y (.code y cc nL ret :: tW) rm (va_Pc av (fun U => Wd G base Y I L U)) (Qct G base F) rm.cells rm.slots (Ab base)
/-- what is proved of a body -/
abbrev Bd (p : Program) (l : Launch) (e : Env) (rm : Room) (s : State) (m : MethodId) (args : Array Value) (below : List Frame) (meth : Method) (c : Code) (nL : Nat) (G : Gd) (base : Nat) (F : Option Value → MY → MI → ML → Prop) (pc : Nat) (lo : List (Nat × Value)) (st : List Value) (Y : MY) (I : MI) (L : ML) (cells slots : Nat) : Prop :=
  Rn p l e rm s m args below meth c nL G base (MQ below (Qct G base F) args s rm.cells rm.slots (Ab base)) pc lo st Y I L cells slots
theorem tW_self {y : MethodName} {cc : ByteArray} {nL : Nat} {ret : Option FieldType} (h : Cond.code y cc nL ret ∈ tW) : GoodIn tW (.code y cc nL ret :: tW) := by
  intro w hw
  have h2 : w ∈ tW := by
    rcases List.mem_cons.mp hw with rfl | h3
    · exact h
    · exact h3
  exact ⟨h2, good_of_word (List.mem_filter.mp h2).2⟩
theorem Ct.of {l : Launch} {y : MethodName} {cc : ByteArray} {nL : Nat} {ret : Option FieldType} {rm : Room} {G : Gd} {base : Nat} {av : List Value} {Y : MY} {I : MI} {L : ML} {F : Option Value → MY → MI → ML → Prop} {lo : List (Nat × Value)} {own : String}
    (hy : plainName y.cls = true) (hown : y.cls = own) (hlen : (lg_sl av).length ≤ nL) (hlo : lv_args 0 av = lo)
    (body : ∀ (p : Program) (e : Env) (s : State) (m : MethodId) (args : Array Value) (below : List Frame) (meth : Method) (c : Code), Cx p s m args c cc nL own G base → meth.sig.returnType = ret → meth.locks = false → meth.name = y.name → Bd p l e rm s m args below meth c nL G base F 0 lo [] Y I L 0 0) : Ct l y cc nL ret rm G base av Y I L F := by
  refine Met.ofW (cc := cc) (maxL := nL) (ret := ret) hy rfl ?_
  intro p e s m args below meth c s₁ B hml hv
  obtain ⟨rfl, hK, hP, hST⟩ := hv
  subst hown
  have hts0 := atoms_spec (ws := .code y cc nL ret :: tW) B.pre
  have C : Cx p s m av.toArray c cc nL y.cls G base := ⟨B.exec, B.bytes, hml, findClass_of_methodNamed B.named, fun w h => hts0 w (List.mem_cons_of_mem _ h), hK, by rw [hP.1]; omega, hST⟩
  have hl := lv_entry av (n := nL) hlen
  rw [lg_entry_eq]
  rw [hlo] at hl
  exact body p e s m _ below meth c C B.returns B.notSynchronized (name_of_methodNamed B.named B.method).1 _ s.heap [] hl hP va_S.rf
section RET
variable {p : Program} {l : Launch} {e : Env} {R : Room} {s : State} {m : MethodId} {args : Array Value} {below : List Frame} {meth : Method} {c : Code} {cc : ByteArray} {nL : Nat} {own : String} {G : Gd} {base : Nat} {Q : State → Prop} {pc : Nat} {lo lo' : List (Nat × Value)} {st : List Value} {Y : MY} {I : MI} {L : ML} {cells slots : Nat} {F : Option Value → MY → MI → ML → Prop}
theorem endWd (C : Cx p s m args c cc nL own G base) {H : Heap} {locs : List Loc} (hP : HP G base Y I L H) (hS : va_S (Ab base) s.heap H locs) {t : State} (ht : t.heap = H) (hW : s.WarmedH t.vm) : Wd G base Y I L t := by
  obtain ⟨hx, hb, hml, hown, hts, hK, hbs, hST⟩ := C
  refine ⟨va_K.moved hW.alike hK, by rw [ht]; exact hP, ?_⟩
  rw [ht]
  exact (hST.kept hS.2.1).moved hW
theorem r_iret (C : Cx p s m args c cc nL own G base) {v : Int32} (hr : meth.sig.returnType = some .int) (hlk : meth.locks = false)  (hd : decode cc pc = .ok (.ireturn, 1)) (hc : cells ≤ R.cells) (hs : slots ≤ R.slots) (hF : F (some (.int v)) Y I L) : Bd p l e R s m args below meth c nL G base F pc lo [.int v] Y I L cells slots := by
  intro ls H locs hl hP hS
  refine W.widen hc hs (W.iret C.1 C.2.1 hr  (fun t ht hW => ⟨⟨_, Y, I, L, rfl, hF, endWd C hP hS ht hW⟩, hS.F ht⟩) hS.2.2 hd hlk)
theorem r_zret (C : Cx p s m args c cc nL own G base) {v : Int32} (hr : meth.sig.returnType = some .boolean) (hlk : meth.locks = false) (hz : v = 0 ∨ v = 1) (hd : decode cc pc = .ok (.ireturn, 1)) (hc : cells ≤ R.cells) (hs : slots ≤ R.slots) (hF : F (some (.int v)) Y I L) : Bd p l e R s m args below meth c nL G base F pc lo [.int v] Y I L cells slots := by
  intro ls H locs hl hP hS
  refine W.widen hc hs (W.zret C.1 C.2.1 hr (by rcases hz with rfl | rfl <;> rfl) (fun t ht hW => ⟨⟨_, Y, I, L, rfl, hF, endWd C hP hS ht hW⟩, hS.F ht⟩) hS.2.2 hd hlk)
theorem r_lret (C : Cx p s m args c cc nL own G base) {v : Int64} (hr : meth.sig.returnType = some .long) (hlk : meth.locks = false)  (hd : decode cc pc = .ok (.lreturn, 1)) (hc : cells ≤ R.cells) (hs : slots ≤ R.slots) (hF : F (some (.long v)) Y I L) : Bd p l e R s m args below meth c nL G base F pc lo [.long v] Y I L cells slots := by
  intro ls H locs hl hP hS
  refine W.widen hc hs (W.lret C.1 C.2.1 hr  (fun t ht hW => ⟨⟨_, Y, I, L, rfl, hF, endWd C hP hS ht hW⟩, hS.F ht⟩) hS.2.2 hd hlk)
theorem r_vret (C : Cx p s m args c cc nL own G base)  (hr : meth.sig.returnType = none) (hlk : meth.locks = false)  (hd : decode cc pc = .ok (.return_, 1)) (hc : cells ≤ R.cells) (hs : slots ≤ R.slots) (hF : F (none) Y I L) : Bd p l e R s m args below meth c nL G base F pc lo [] Y I L cells slots := by
  intro ls H locs hl hP hS
  refine W.widen hc hs (W.vret C.1 C.2.1 hr  (fun t ht hW => ⟨⟨_, Y, I, L, rfl, hF, endWd C hP hS ht hW⟩, hS.F ht⟩) hS.2.2 hd hlk)
theorem r_aret (C : Cx p s m args c cc nL own G base) {a : Nat} {D : String} (hr : meth.sig.returnType = some (.object D)) (hlk : meth.locks = false)  (hd : decode cc pc = .ok (.areturn, 1)) (hc : cells ≤ R.cells) (hs : slots ≤ R.slots) (hF : F (some (.ref a)) Y I L) : Bd p l e R s m args below meth c nL G base F pc lo [.ref a] Y I L cells slots := by
  intro ls H locs hl hP hS
  refine W.widen hc hs (W.aret C.1 C.2.1 hr (Or.inl ⟨_, rfl⟩) (Or.inr ⟨_, rfl⟩) (fun t ht hW => ⟨⟨_, Y, I, L, rfl, hF, endWd C hP hS ht hW⟩, hS.F ht⟩) hS.2.2 hd hlk)
end RET
abbrev nMV (y : MethodName) : Prop := y.cls ≠ "java/lang/invoke/MethodHandle" ∧ y.cls ≠ "java/lang/invoke/VarHandle"
/-- the words of a call -/
def CB (own : String) (idx : Nat) (y : MethodName) (cc : ByteArray) (nL : Nat) (ret : Option FieldType) (n : Nat) : Prop :=
  Cond.methodLink own idx y ∈ tW ∧ Cond.code y cc nL ret ∈ tW ∧ Cond.initialized y.cls ∈ tW ∧ nMV y ∧ (parseMethodDescriptor y.desc).map (fun d => d.parameters.length) = some n
def CV (own : String) (idx ci : Nat) (y : MethodName) (cc : ByteArray) (nL : Nat) (ret : Option FieldType) (n : Nat) : Prop := CB own idx y cc nL ret n ∧ Cond.instanceMethod y ∈ tW ∧ Cond.selects y.cls y y ∈ tW ∧ (vwCl[ci]?).map (fun q => q.1) = some y.cls
def CS (own : String) (idx : Nat) (y : MethodName) (cc : ByteArray) (nL : Nat) (ret : Option FieldType) (n : Nat) : Prop := CB own idx y cc nL ret n ∧ Cond.static y ∈ tW
def CI (own : String) (idx : Nat) (y : MethodName) (cc : ByteArray) (nL : Nat) (n : Nat) : Prop := CB own idx y cc nL none n ∧ y.name = "<init>" ∧ Cond.instanceMethod y ∈ tW
/-- the room of a call: of the caller R, with what it has used, of the callee rm -/
def RM (R rm : Room) (nL cells slots : Nat) : Prop := (rm.frames + 1 ≤ R.frames ∧ 8 + (nL + 11) + rm.locals ≤ R.locals) ∧ cells + rm.cells ≤ R.cells ∧ slots + rm.slots ≤ R.slots
section CALL
variable {p : Program} {l : Launch} {e : Env} {R : Room} {s : State} {m : MethodId} {args : Array Value} {below : List Frame} {meth : Method} {c : Code} {cc : ByteArray} {nL : Nat} {own : String} {G : Gd} {base : Nat} {Q : State → Prop} {pc : Nat} {lo lo' : List (Nat × Value)} {st : List Value} {Y : MY} {I : MI} {L : ML} {cells slots : Nat} {F : Option Value → MY → MI → ML → Prop}
variable {y : MethodName} {bytes : ByteArray} {mL idx ci b n : Nat} {ret : Option FieldType} {rm : Room} {As rest : List Value}
theorem cb_of (C : Cx p s m args c cc nL own G base) (h : CB own idx y bytes mL ret n) (hR : RM R rm mL cells slots) : CallB R s args own idx y bytes mL ret (.code y bytes mL ret :: tW) rm rm.cells rm.slots n := by
  obtain ⟨hx, hb, hml, hown, hts, hK, hbs, hST⟩ := C
  obtain ⟨h1, h2, h3, h4, h5⟩ := h
  exact callB_of n hts (tW_self h2) rfl rfl rfl (hts _ h3) (hts _ h1) ⟨h4.1, h4.2, h5⟩ hR.1
theorem blind (av : List Value) : FrameBlind (va_Pc av (fun U => Wd G base Y I L U)) := by
  intro a U g mk q
  obtain ⟨q0, qK, qP, qS⟩ := q
  exact ⟨q0, va_K.moved (u := U) (U := U.calling g mk a) (Vm.Alike.refl U.vm) qK, qP, qS.same rfl⟩
theorem preU (C : Cx p s m args c cc nL own G base) {H : Heap} {locs : List Loc} (hP : HP G base Y I L H) (hS : va_S (Ab base) s.heap H locs) (av : List Value) : ∀ U : State, U.heap = H → s.WarmedH U.vm → va_Pc av (fun U => Wd G base Y I L U) av.toArray U :=
  fun _ hU hW => ⟨rfl, endWd C hP hS hU hW⟩
theorem r_on {H : Heap} {locs : List Loc} {ls : Array Slot} {st0 : List Value} {a : Array Value} (hl : lv_has ls nL lo) (hS : va_S (Ab base) s.heap H locs)
    (hr : va_Run p l e R s m args below meth c H locs cells slots rm.cells rm.slots (F0 m pc ls st0) rest (Qct G base F a) (Ab base)) (kk : ∀ v Y' I' L', F v Y' I' L' → Rn p l e R s m args below meth c nL G base Q (pc + 3) lo (v.toList ++ rest) Y' I' L' (cells + rm.cells) (slots + rm.slots)) : W p l e R s m args below meth c H locs cells slots Q (F0 m pc ls st0) := by
  intro T hT X
  obtain ⟨v, st₀, t, T', L2, h0, X', hL, e1, e2, ⟨⟨v', Y', I', L', hv, hF, hK', hP', hST'⟩, hz, hk⟩, sT⟩ := hr T hT X
  cases hv
  rw [h0] at hz hk
  rw [← e1] at hz hk hP'
  obtain ⟨t2, a1, b1⟩ := kk v Y' I' L' hF ls T'.heap (locs ++ L2) hl hP'
    ⟨Nat.le_trans hS.1 hz, fun q h1 h2 => by rw [hk q (Nat.lt_of_lt_of_le h1 hS.1) h2]; exact hS.2.1 q h1 h2, fun q hq => by
      rcases List.mem_append.mp hq with h | h
      · exact hS.2.2 q h
      · exact hL q h⟩ T' rfl X'
  exact ⟨t2, sT t2 a1, b1⟩
theorem r_runV (C : Cx p s m args c cc nL own G base) (hM : Ct l y bytes mL ret rm G base (.ref b :: As) Y I L F) (hB : CV own idx ci y bytes mL ret As.length) (hR : RM R rm mL cells slots) (hst : (rest.map fun v => v.category).sum ≤ 8) (hA : Is base Y b (.inl ci)) (hd : decode cc pc = .ok (.invokevirtual idx, 3)) (kk : ∀ v Y' I' L', F v Y' I' L' → Rn p l e R s m args below meth c nL G base Q (pc + 3) lo (v.toList ++ rest) Y' I' L' (cells + rm.cells) (slots + rm.slots)) : Rn p l e R s m args below meth c nL G base Q pc lo (As.reverse ++ .ref b :: rest) Y I L cells slots := by
  intro ls H locs hl hP hS
  obtain ⟨q, hq, cell, g1, g2, g3, -⟩ := hP.2 b _ hA
  have hqn : q.1 = y.cls := by have := hB.2.2.2; rw [hq] at this; exact Option.some.inj this
  exact r_on hl hS (va_runV (As := As) (rest := rest) ⟨C.1, C.2.1, C.2.2.1, C.2.2.2.1, C.2.2.2.2.1⟩ hM ⟨cb_of C hB.1 hR, C.2.2.2.2.1 _ hB.2.1, C.2.2.2.2.1 _ hB.2.2.1⟩ ⟨blind _, ⟨cell, g1, by rw [g3]; rfl, by rw [g2, ← hqn]; exact (C.2.2.2.2.2.1.1 ci q hq).2.1⟩, preU C hP hS (.ref b :: As)⟩ rfl rfl hl.1 rfl (lv_room hst) hd hR.2) kk
theorem r_runS (C : Cx p s m args c cc nL own G base) (hM : Ct l y bytes mL ret rm G base As Y I L F) (hB : CS own idx y bytes mL ret As.length) (hR : RM R rm mL cells slots) (hst : (rest.map fun v => v.category).sum ≤ 8) (hd : decode cc pc = .ok (.invokestatic idx, 3)) (kk : ∀ v Y' I' L', F v Y' I' L' → Rn p l e R s m args below meth c nL G base Q (pc + 3) lo (v.toList ++ rest) Y' I' L' (cells + rm.cells) (slots + rm.slots)) : Rn p l e R s m args below meth c nL G base Q pc lo (As.reverse ++ rest) Y I L cells slots := by
  intro ls H locs hl hP hS
  exact r_on hl hS (va_runS (As := As) (rest := rest) ⟨C.1, C.2.1, C.2.2.1, C.2.2.2.1, C.2.2.2.2.1⟩ hM ⟨cb_of C hB.1 hR, C.2.2.2.2.1 _ hB.2⟩ ⟨blind _, preU C hP hS As⟩ rfl rfl hl.1 rfl (lv_room hst) hd hR.2) kk
theorem r_runI (C : Cx p s m args c cc nL own G base) (hM : Ct l y bytes mL none rm G base (.ref b :: As) Y I L F) (hB : CI own idx y bytes mL As.length) (hR : RM R rm mL cells slots) (hst : (rest.map fun v => v.category).sum ≤ 8) (hd : decode cc pc = .ok (.invokespecial idx, 3)) (kk : ∀ v Y' I' L', F v Y' I' L' → Rn p l e R s m args below meth c nL G base Q (pc + 3) lo (v.toList ++ rest) Y' I' L' (cells + rm.cells) (slots + rm.slots)) : Rn p l e R s m args below meth c nL G base Q pc lo (As.reverse ++ .ref b :: rest) Y I L cells slots := by
  intro ls H locs hl hP hS
  exact r_on hl hS (va_runI (As := As) (rest := rest) ⟨C.1, C.2.1, C.2.2.1, C.2.2.2.1, C.2.2.2.2.1⟩ hM ⟨cb_of C hB.1 hR, hB.2.1, C.2.2.2.2.1 _ hB.2.2⟩ ⟨blind _, preU C hP hS (.ref b :: As)⟩ rfl rfl hl.1 rfl (lv_room hst) hd hR.2) kk
end CALL
end
section
theorem iI_add (a b : Int) : iI a + iI b = iI (a + b) := (Int32.ofInt_add a b).symm
theorem iI_sub (a b : Int) : iI a - iI b = iI (a - b) := by
  unfold iI
  rw [Int32.sub_eq_add_neg, ← Int32.ofInt_neg, ← Int32.ofInt_add, Int.sub_eq_add_neg]
theorem iI_mul (a b : Int) : iI a * iI b = iI (a * b) := (Int32.ofInt_mul a b).symm
theorem lI_add (a b : Int) : lI a + lI b = lI (a + b) := (Int64.ofInt_add a b).symm
theorem lI_sub (a b : Int) : lI a - lI b = lI (a - b) := by
  unfold lI
  rw [Int64.sub_eq_add_neg, ← Int64.ofInt_neg, ← Int64.ofInt_add, Int.sub_eq_add_neg]
theorem lI_mul (a b : Int) : lI a * lI b = lI (a * b) := (Int64.ofInt_mul a b).symm
theorem lI_neg (a : Int) : -lI a = lI (-a) := (Int64.ofInt_neg a).symm
def i32 (z : Int) : Prop := -2147483648 ≤ z ∧ z < 2147483648
def i64 (z : Int) : Prop := -9223372036854775808 ≤ z ∧ z < 9223372036854775808
theorem iI_of (x : Int32) : x = iI x.toInt := by
  unfold iI
  exact (Int32.ofInt_toInt x).symm
theorem lI_of (x : Int64) : x = lI x.toInt := by
  unfold lI
  exact (Int64.ofInt_toInt x).symm
theorem i32_of (x : Int32) : i32 x.toInt := ⟨by have := Int32.le_toInt x; omega, by have := Int32.toInt_lt x; omega⟩
theorem i64_of (x : Int64) : i64 x.toInt := ⟨by have := Int64.le_toInt x; omega, by have := Int64.toInt_lt x; omega⟩
theorem iI_inj {a b : Int} (ha : i32 a) (hb : i32 b) : iI a = iI b ↔ a = b := by
  constructor
  · intro h
    have := congrArg Int32.toInt h
    rw [iI_toInt ha.1 ha.2, iI_toInt hb.1 hb.2] at this
    exact this
  · intro h; rw [h]
theorem lI_inj {a b : Int} (ha : i64 a) (hb : i64 b) : lI a = lI b ↔ a = b := by
  constructor
  · intro h
    have := congrArg Int64.toInt h
    rw [lI_toInt ha.1 ha.2, lI_toInt hb.1 hb.2] at this
    exact this
  · intro h; rw [h]
theorem iI_lt {a b : Int} (ha : i32 a) (hb : i32 b) : iI a < iI b ↔ a < b := by rw [Int32.lt_iff_toInt_lt, iI_toInt ha.1 ha.2, iI_toInt hb.1 hb.2]
theorem iI_le {a b : Int} (ha : i32 a) (hb : i32 b) : iI a ≤ iI b ↔ a ≤ b := by rw [Int32.le_iff_toInt_le, iI_toInt ha.1 ha.2, iI_toInt hb.1 hb.2]
theorem lI_lt {a b : Int} (ha : i64 a) (hb : i64 b) : lI a < lI b ↔ a < b := by rw [Int64.lt_iff_toInt_lt, lI_toInt ha.1 ha.2, lI_toInt hb.1 hb.2]
theorem lI_le {a b : Int} (ha : i64 a) (hb : i64 b) : lI a ≤ lI b ↔ a ≤ b := by rw [Int64.le_iff_toInt_le, lI_toInt ha.1 ha.2, lI_toInt hb.1 hb.2]
theorem iI_long {a : Int} (ha : i32 a) : (iI a).toInt64 = lI a := by
  have h := Int32.ofInt_toInt (iI a)
  apply Int64.toInt_inj.mp
  rw [Int32.toInt_toInt64, iI_toInt ha.1 ha.2, lI_toInt (by have := ha.1; omega) (by have := ha.2; omega)]
theorem lI_int (a : Int) : (lI a).toInt32 = iI a := by
  unfold lI iI
  exact Int64.toInt32_ofInt
theorem iI_0 : iI 0 = 0 := rfl
theorem lI_0 : lI 0 = 0 := rfl
theorem iI_div {a b : Int} (ha : 0 ≤ a ∧ a < 2147483648) (hb : 0 < b ∧ b < 2147483648) : iI a / iI b = iI (a / b) := by
  apply Int32.toInt_inj.mp
  rw [Int32.toInt_div, iI_toInt (by omega) ha.2, iI_toInt (by omega) hb.2]
  have h0 : 0 ≤ a / b := Int.ediv_nonneg ha.1 (by omega)
  have h1 : a / b ≤ a := Int.ediv_le_self b ha.1
  rw [Int.tdiv_eq_ediv_of_nonneg ha.1, iI_toInt (by omega) (by omega)]
  exact Int.bmod_eq_of_le (by omega) (by omega)
theorem lI_div {a b : Int} (ha : 0 ≤ a ∧ a < 9223372036854775808) (hb : 0 < b ∧ b < 9223372036854775808) : lI a / lI b = lI (a / b) := by
  apply Int64.toInt_inj.mp
  rw [Int64.toInt_div, lI_toInt (by omega) ha.2, lI_toInt (by omega) hb.2]
  have h0 : 0 ≤ a / b := Int.ediv_nonneg ha.1 (by omega)
  have h1 : a / b ≤ a := Int.ediv_le_self b ha.1
  rw [Int.tdiv_eq_ediv_of_nonneg ha.1, lI_toInt (by omega) (by omega)]
  exact Int.bmod_eq_of_le (by omega) (by omega)
theorem iI_rem {a b : Int} (ha : 0 ≤ a ∧ a < 2147483648) (hb : 0 < b ∧ b < 2147483648) : iI a - iI a / iI b * iI b = iI (a % b) := by
  rw [iI_div ha hb, iI_mul, iI_sub, Int.emod_def, Int.mul_comm b]
theorem lI_rem {a b : Int} (ha : 0 ≤ a ∧ a < 9223372036854775808) (hb : 0 < b ∧ b < 9223372036854775808) : lI a - lI a / lI b * lI b = lI (a % b) := by
  rw [lI_div ha hb, lI_mul, lI_sub, Int.emod_def, Int.mul_comm b]
theorem iI_ne0 {b : Int} (hb : 0 < b ∧ b < 2147483648) : ¬ iI b = 0 := by
  rw [← iI_0, iI_inj ⟨by omega, by omega⟩ ⟨by omega, by omega⟩]; omega
theorem lI_ne0 {b : Int} (hb : 0 < b ∧ b < 9223372036854775808) : ¬ lI b = 0 := by
  rw [← lI_0, lI_inj ⟨by omega, by omega⟩ ⟨by omega, by omega⟩]; omega
/-- a region of n cells from B on: its ints are b, its longs d -/
def mI (I : MI) (B n : Nat) (b : Nat → Nat → Int) : MI := fun x => if B ≤ x ∧ x < B + n then (fun k => iI (b (x - B) k)) else I x
def mL (L : ML) (B n : Nat) (d : Nat → Nat → Int) : ML := fun x => if B ≤ x ∧ x < B + n then (fun k => lI (d (x - B) k)) else L x
theorem mI_at {I : MI} {B n o k : Nat} {b : Nat → Nat → Int} (h : o < n) : mI I B n b (B + o) k = iI (b o k) := by
  unfold mI
  rw [if_pos ⟨by omega, by omega⟩, Nat.add_sub_cancel_left]
theorem mL_at {L : ML} {B n o k : Nat} {d : Nat → Nat → Int} (h : o < n) : mL L B n d (B + o) k = lI (d o k) := by
  unfold mL
  rw [if_pos ⟨by omega, by omega⟩, Nat.add_sub_cancel_left]
theorem mI_out {I : MI} {B n x : Nat} {b : Nat → Nat → Int} (h : x < B ∨ B + n ≤ x) : mI I B n b x = I x := by
  unfold mI
  rw [if_neg (by omega)]
theorem mL_out {L : ML} {B n x : Nat} {d : Nat → Nat → Int} (h : x < B ∨ B + n ≤ x) : mL L B n d x = L x := by
  unfold mL
  rw [if_neg (by omega)]
theorem mI_up {I : MI} {B n o k : Nat} {b : Nat → Nat → Int} {v : Int} (h : o < n) : up2 (mI I B n b) (B + o) k (iI v) = mI I B n (up2 b o k v) := by
  funext x j
  by_cases hx : B ≤ x ∧ x < B + n
  · obtain ⟨o', rfl⟩ : ∃ o', x = B + o' := ⟨x - B, by omega⟩
    rw [mI_at (by omega)]
    by_cases ho : o' = o
    · subst ho
      rw [up2_row, up2_row]
      by_cases hj : j = k
      · subst hj; rw [up1_s, up1_s]
      · rw [up1_n hj, up1_n hj, mI_at h]
    · rw [up2_rown (by omega), up2_rown ho, mI_at (by omega)]
  · rw [mI_out (by omega), up2_rown (by omega), mI_out (by omega)]
theorem mL_up {L : ML} {B n o k : Nat} {d : Nat → Nat → Int} {v : Int} (h : o < n) : up2 (mL L B n d) (B + o) k (lI v) = mL L B n (up2 d o k v) := by
  funext x j
  by_cases hx : B ≤ x ∧ x < B + n
  · obtain ⟨o', rfl⟩ : ∃ o', x = B + o' := ⟨x - B, by omega⟩
    rw [mL_at (by omega)]
    by_cases ho : o' = o
    · subst ho
      rw [up2_row, up2_row]
      by_cases hj : j = k
      · subst hj; rw [up1_s, up1_s]
      · rw [up1_n hj, up1_n hj, mL_at h]
    · rw [up2_rown (by omega), up2_rown ho, mL_at (by omega)]
  · rw [mL_out (by omega), up2_rown (by omega), mL_out (by omega)]
theorem mI_self {I : MI} {B n : Nat} {b : Nat → Nat → Int} (h : ∀ o, o < n → ∀ k, I (B + o) k = iI (b o k)) : mI I B n b = I := by
  funext x j
  by_cases hx : B ≤ x ∧ x < B + n
  · obtain ⟨o', rfl⟩ : ∃ o', x = B + o' := ⟨x - B, by omega⟩
    rw [mI_at (by omega), h o' (by omega)]
  · rw [mI_out (by omega)]
theorem mL_self {L : ML} {B n : Nat} {d : Nat → Nat → Int} (h : ∀ o, o < n → ∀ k, L (B + o) k = lI (d o k)) : mL L B n d = L := by
  funext x j
  by_cases hx : B ≤ x ∧ x < B + n
  · obtain ⟨o', rfl⟩ : ∃ o', x = B + o' := ⟨x - B, by omega⟩
    rw [mL_at (by omega), h o' (by omega)]
  · rw [mL_out (by omega)]
section NORM
variable {p : Program} {l : Launch} {e : Env} {R : Room} {s : State} {m : MethodId} {args : Array Value} {below : List Frame} {meth : Method} {c : Code} {cc : ByteArray} {nL : Nat} {own : String} {G : Gd} {base : Nat} {Q : State → Prop} {pc : Nat} {lo lo' : List (Nat × Value)} {st : List Value} {Y : MY} {I : MI} {L : ML} {cells slots : Nat}
theorem n_iadd (C : Cx p s m args c cc nL own G base) {x y : Int} (hd : decode cc pc = .ok (.iadd, 1)) (kk : Rn p l e R s m args below meth c nL G base Q (pc + 1) lo (.int (iI (x + y)) :: st) Y I L cells slots) : Rn p l e R s m args below meth c nL G base Q pc lo (.int (iI y) :: .int (iI x) :: st) Y I L cells slots := r_iadd C hd (by rw [iI_add]; exact kk)
theorem n_ladd (C : Cx p s m args c cc nL own G base) {x y : Int} (hd : decode cc pc = .ok (.ladd, 1)) (kk : Rn p l e R s m args below meth c nL G base Q (pc + 1) lo (.long (lI (x + y)) :: st) Y I L cells slots) : Rn p l e R s m args below meth c nL G base Q pc lo (.long (lI y) :: .long (lI x) :: st) Y I L cells slots := r_ladd C hd (by rw [lI_add]; exact kk)
theorem n_isub (C : Cx p s m args c cc nL own G base) {x y : Int} (hd : decode cc pc = .ok (.isub, 1)) (kk : Rn p l e R s m args below meth c nL G base Q (pc + 1) lo (.int (iI (x - y)) :: st) Y I L cells slots) : Rn p l e R s m args below meth c nL G base Q pc lo (.int (iI y) :: .int (iI x) :: st) Y I L cells slots := r_isub C hd (by rw [iI_sub]; exact kk)
theorem n_lsub (C : Cx p s m args c cc nL own G base) {x y : Int} (hd : decode cc pc = .ok (.lsub, 1)) (kk : Rn p l e R s m args below meth c nL G base Q (pc + 1) lo (.long (lI (x - y)) :: st) Y I L cells slots) : Rn p l e R s m args below meth c nL G base Q pc lo (.long (lI y) :: .long (lI x) :: st) Y I L cells slots := r_lsub C hd (by rw [lI_sub]; exact kk)
theorem n_imul (C : Cx p s m args c cc nL own G base) {x y : Int} (hd : decode cc pc = .ok (.imul, 1)) (kk : Rn p l e R s m args below meth c nL G base Q (pc + 1) lo (.int (iI (x * y)) :: st) Y I L cells slots) : Rn p l e R s m args below meth c nL G base Q pc lo (.int (iI y) :: .int (iI x) :: st) Y I L cells slots := r_imul C hd (by rw [iI_mul]; exact kk)
theorem n_lmul (C : Cx p s m args c cc nL own G base) {x y : Int} (hd : decode cc pc = .ok (.lmul, 1)) (kk : Rn p l e R s m args below meth c nL G base Q (pc + 1) lo (.long (lI (x * y)) :: st) Y I L cells slots) : Rn p l e R s m args below meth c nL G base Q pc lo (.long (lI y) :: .long (lI x) :: st) Y I L cells slots := r_lmul C hd (by rw [lI_mul]; exact kk)
theorem n_idiv (C : Cx p s m args c cc nL own G base) {x y : Int} (hd : decode cc pc = .ok (.idiv, 1)) (hx : 0 ≤ x ∧ x < 2147483648) (hy : 0 < y ∧ y < 2147483648) (kk : Rn p l e R s m args below meth c nL G base Q (pc + 1) lo (.int (iI (x / y)) :: st) Y I L cells slots) : Rn p l e R s m args below meth c nL G base Q pc lo (.int (iI y) :: .int (iI x) :: st) Y I L cells slots := r_idiv C hd (iI_ne0 hy) (by rw [iI_div hx hy]; exact kk)
theorem n_ldiv (C : Cx p s m args c cc nL own G base) {x y : Int} (hd : decode cc pc = .ok (.ldiv, 1)) (hx : 0 ≤ x ∧ x < 9223372036854775808) (hy : 0 < y ∧ y < 9223372036854775808) (kk : Rn p l e R s m args below meth c nL G base Q (pc + 1) lo (.long (lI (x / y)) :: st) Y I L cells slots) : Rn p l e R s m args below meth c nL G base Q pc lo (.long (lI y) :: .long (lI x) :: st) Y I L cells slots := r_ldiv C hd (lI_ne0 hy) (by rw [lI_div hx hy]; exact kk)
theorem n_irem (C : Cx p s m args c cc nL own G base) {x y : Int} (hd : decode cc pc = .ok (.irem, 1)) (hx : 0 ≤ x ∧ x < 2147483648) (hy : 0 < y ∧ y < 2147483648) (kk : Rn p l e R s m args below meth c nL G base Q (pc + 1) lo (.int (iI (x % y)) :: st) Y I L cells slots) : Rn p l e R s m args below meth c nL G base Q pc lo (.int (iI y) :: .int (iI x) :: st) Y I L cells slots := r_irem C hd (iI_ne0 hy) (by rw [iI_rem hx hy]; exact kk)
theorem n_lrem (C : Cx p s m args c cc nL own G base) {x y : Int} (hd : decode cc pc = .ok (.lrem, 1)) (hx : 0 ≤ x ∧ x < 9223372036854775808) (hy : 0 < y ∧ y < 9223372036854775808) (kk : Rn p l e R s m args below meth c nL G base Q (pc + 1) lo (.long (lI (x % y)) :: st) Y I L cells slots) : Rn p l e R s m args below meth c nL G base Q pc lo (.long (lI y) :: .long (lI x) :: st) Y I L cells slots := r_lrem C hd (lI_ne0 hy) (by rw [lI_rem hx hy]; exact kk)
theorem n_lneg (C : Cx p s m args c cc nL own G base) {x : Int} (hd : decode cc pc = .ok (.lneg, 1)) (kk : Rn p l e R s m args below meth c nL G base Q (pc + 1) lo (.long (lI (-x)) :: st) Y I L cells slots) : Rn p l e R s m args below meth c nL G base Q pc lo (.long (lI x) :: st) Y I L cells slots := r_lneg C hd (by rw [lI_neg]; exact kk)
theorem n_i2l (C : Cx p s m args c cc nL own G base) {x : Int} (hd : decode cc pc = .ok (.i2l, 1)) (hx : i32 x) (kk : Rn p l e R s m args below meth c nL G base Q (pc + 1) lo (.long (lI x) :: st) Y I L cells slots) : Rn p l e R s m args below meth c nL G base Q pc lo (.int (iI x) :: st) Y I L cells slots := r_i2l C hd (by rw [iI_long hx]; exact kk)
theorem n_l2i (C : Cx p s m args c cc nL own G base) {x : Int} (hd : decode cc pc = .ok (.l2i, 1)) (kk : Rn p l e R s m args below meth c nL G base Q (pc + 1) lo (.int (iI x) :: st) Y I L cells slots) : Rn p l e R s m args below meth c nL G base Q pc lo (.long (lI x) :: st) Y I L cells slots := r_l2i C hd (by rw [lI_int]; exact kk)
theorem n_icmp_eq (C : Cx p s m args c cc nL own G base) {x y : Int} {off : Int} {tgt : Nat} (hd : decode cc pc = .ok (.if_icmp .eq off, 3)) (ht : (pc : Int) + off = (tgt : Int)) (hx : i32 x) (hy : i32 y) (kt : x = y → Rn p l e R s m args below meth c nL G base Q tgt lo st Y I L cells slots) (kf : ¬ x = y → Rn p l e R s m args below meth c nL G base Q (pc + 3) lo st Y I L cells slots) : Rn p l e R s m args below meth c nL G base Q pc lo (.int (iI y) :: .int (iI x) :: st) Y I L cells slots := r_icmp_eq C hd ht (fun h => kt ((iI_inj hx hy).mp h)) (fun h => kf (fun z => h ((iI_inj hx hy).mpr z)))
theorem n_lcmp_eq (C : Cx p s m args c cc nL own G base) {x y : Int} {off : Int} {tgt pc1 pc4 : Nat} (hd : decode cc pc = .ok (.lcmp, 1)) (hd2 : decode cc pc1 = .ok (.ifCond .eq off, 3)) (h1 : pc + 1 = pc1) (h4 : pc1 + 3 = pc4) (ht : (pc1 : Int) + off = (tgt : Int)) (hx : i64 x) (hy : i64 y) (kt : x = y → Rn p l e R s m args below meth c nL G base Q tgt lo st Y I L cells slots) (kf : ¬ x = y → Rn p l e R s m args below meth c nL G base Q pc4 lo st Y I L cells slots) : Rn p l e R s m args below meth c nL G base Q pc lo (.long (lI y) :: .long (lI x) :: st) Y I L cells slots := r_lcmp_eq C hd hd2 h1 h4 ht (fun h => kt ((lI_inj hx hy).mp h)) (fun h => kf (fun z => h ((lI_inj hx hy).mpr z)))
theorem n_if_eq (C : Cx p s m args c cc nL own G base) {x : Int} {off : Int} {tgt : Nat} (hd : decode cc pc = .ok (.ifCond .eq off, 3)) (ht : (pc : Int) + off = (tgt : Int)) (hx : i32 x) (kt : x = 0 → Rn p l e R s m args below meth c nL G base Q tgt lo st Y I L cells slots) (kf : ¬ x = 0 → Rn p l e R s m args below meth c nL G base Q (pc + 3) lo st Y I L cells slots) : Rn p l e R s m args below meth c nL G base Q pc lo (.int (iI x) :: st) Y I L cells slots := r_if_eq C hd ht (fun h => kt ((iI_inj hx ⟨by decide, by decide⟩).mp h)) (fun h => kf (fun z => h ((iI_inj hx ⟨by decide, by decide⟩).mpr z)))
theorem n_icmp_ne (C : Cx p s m args c cc nL own G base) {x y : Int} {off : Int} {tgt : Nat} (hd : decode cc pc = .ok (.if_icmp .ne off, 3)) (ht : (pc : Int) + off = (tgt : Int)) (hx : i32 x) (hy : i32 y) (kt : ¬ x = y → Rn p l e R s m args below meth c nL G base Q tgt lo st Y I L cells slots) (kf : x = y → Rn p l e R s m args below meth c nL G base Q (pc + 3) lo st Y I L cells slots) : Rn p l e R s m args below meth c nL G base Q pc lo (.int (iI y) :: .int (iI x) :: st) Y I L cells slots := r_icmp_ne C hd ht (fun h => kt (fun z => h ((iI_inj hx hy).mpr z))) (fun h => kf ((iI_inj hx hy).mp h))
theorem n_lcmp_ne (C : Cx p s m args c cc nL own G base) {x y : Int} {off : Int} {tgt pc1 pc4 : Nat} (hd : decode cc pc = .ok (.lcmp, 1)) (hd2 : decode cc pc1 = .ok (.ifCond .ne off, 3)) (h1 : pc + 1 = pc1) (h4 : pc1 + 3 = pc4) (ht : (pc1 : Int) + off = (tgt : Int)) (hx : i64 x) (hy : i64 y) (kt : ¬ x = y → Rn p l e R s m args below meth c nL G base Q tgt lo st Y I L cells slots) (kf : x = y → Rn p l e R s m args below meth c nL G base Q pc4 lo st Y I L cells slots) : Rn p l e R s m args below meth c nL G base Q pc lo (.long (lI y) :: .long (lI x) :: st) Y I L cells slots := r_lcmp_ne C hd hd2 h1 h4 ht (fun h => kt (fun z => h ((lI_inj hx hy).mpr z))) (fun h => kf ((lI_inj hx hy).mp h))
theorem n_if_ne (C : Cx p s m args c cc nL own G base) {x : Int} {off : Int} {tgt : Nat} (hd : decode cc pc = .ok (.ifCond .ne off, 3)) (ht : (pc : Int) + off = (tgt : Int)) (hx : i32 x) (kt : ¬ x = 0 → Rn p l e R s m args below meth c nL G base Q tgt lo st Y I L cells slots) (kf : x = 0 → Rn p l e R s m args below meth c nL G base Q (pc + 3) lo st Y I L cells slots) : Rn p l e R s m args below meth c nL G base Q pc lo (.int (iI x) :: st) Y I L cells slots := r_if_ne C hd ht (fun h => kt (fun z => h ((iI_inj hx ⟨by decide, by decide⟩).mpr z))) (fun h => kf ((iI_inj hx ⟨by decide, by decide⟩).mp h))
theorem n_icmp_lt (C : Cx p s m args c cc nL own G base) {x y : Int} {off : Int} {tgt : Nat} (hd : decode cc pc = .ok (.if_icmp .lt off, 3)) (ht : (pc : Int) + off = (tgt : Int)) (hx : i32 x) (hy : i32 y) (kt : x < y → Rn p l e R s m args below meth c nL G base Q tgt lo st Y I L cells slots) (kf : y ≤ x → Rn p l e R s m args below meth c nL G base Q (pc + 3) lo st Y I L cells slots) : Rn p l e R s m args below meth c nL G base Q pc lo (.int (iI y) :: .int (iI x) :: st) Y I L cells slots := r_icmp_lt C hd ht (fun h => kt ((iI_lt hx hy).mp h)) (fun h => kf (Int.not_lt.mp (fun z => h ((iI_lt hx hy).mpr z))))
theorem n_lcmp_lt (C : Cx p s m args c cc nL own G base) {x y : Int} {off : Int} {tgt pc1 pc4 : Nat} (hd : decode cc pc = .ok (.lcmp, 1)) (hd2 : decode cc pc1 = .ok (.ifCond .lt off, 3)) (h1 : pc + 1 = pc1) (h4 : pc1 + 3 = pc4) (ht : (pc1 : Int) + off = (tgt : Int)) (hx : i64 x) (hy : i64 y) (kt : x < y → Rn p l e R s m args below meth c nL G base Q tgt lo st Y I L cells slots) (kf : y ≤ x → Rn p l e R s m args below meth c nL G base Q pc4 lo st Y I L cells slots) : Rn p l e R s m args below meth c nL G base Q pc lo (.long (lI y) :: .long (lI x) :: st) Y I L cells slots := r_lcmp_lt C hd hd2 h1 h4 ht (fun h => kt ((lI_lt hx hy).mp h)) (fun h => kf (Int.not_lt.mp (fun z => h ((lI_lt hx hy).mpr z))))
theorem n_if_lt (C : Cx p s m args c cc nL own G base) {x : Int} {off : Int} {tgt : Nat} (hd : decode cc pc = .ok (.ifCond .lt off, 3)) (ht : (pc : Int) + off = (tgt : Int)) (hx : i32 x) (kt : x < 0 → Rn p l e R s m args below meth c nL G base Q tgt lo st Y I L cells slots) (kf : 0 ≤ x → Rn p l e R s m args below meth c nL G base Q (pc + 3) lo st Y I L cells slots) : Rn p l e R s m args below meth c nL G base Q pc lo (.int (iI x) :: st) Y I L cells slots := r_if_lt C hd ht (fun h => kt ((iI_lt hx ⟨by decide, by decide⟩).mp h)) (fun h => kf (Int.not_lt.mp (fun z => h ((iI_lt hx ⟨by decide, by decide⟩).mpr z))))
theorem n_icmp_ge (C : Cx p s m args c cc nL own G base) {x y : Int} {off : Int} {tgt : Nat} (hd : decode cc pc = .ok (.if_icmp .ge off, 3)) (ht : (pc : Int) + off = (tgt : Int)) (hx : i32 x) (hy : i32 y) (kt : y ≤ x → Rn p l e R s m args below meth c nL G base Q tgt lo st Y I L cells slots) (kf : x < y → Rn p l e R s m args below meth c nL G base Q (pc + 3) lo st Y I L cells slots) : Rn p l e R s m args below meth c nL G base Q pc lo (.int (iI y) :: .int (iI x) :: st) Y I L cells slots := r_icmp_ge C hd ht (fun h => kt ((iI_le hy hx).mp h)) (fun h => kf (Int.not_le.mp (fun z => h ((iI_le hy hx).mpr z))))
theorem n_lcmp_ge (C : Cx p s m args c cc nL own G base) {x y : Int} {off : Int} {tgt pc1 pc4 : Nat} (hd : decode cc pc = .ok (.lcmp, 1)) (hd2 : decode cc pc1 = .ok (.ifCond .ge off, 3)) (h1 : pc + 1 = pc1) (h4 : pc1 + 3 = pc4) (ht : (pc1 : Int) + off = (tgt : Int)) (hx : i64 x) (hy : i64 y) (kt : y ≤ x → Rn p l e R s m args below meth c nL G base Q tgt lo st Y I L cells slots) (kf : x < y → Rn p l e R s m args below meth c nL G base Q pc4 lo st Y I L cells slots) : Rn p l e R s m args below meth c nL G base Q pc lo (.long (lI y) :: .long (lI x) :: st) Y I L cells slots := r_lcmp_ge C hd hd2 h1 h4 ht (fun h => kt ((lI_le hy hx).mp h)) (fun h => kf (Int.not_le.mp (fun z => h ((lI_le hy hx).mpr z))))
theorem n_if_ge (C : Cx p s m args c cc nL own G base) {x : Int} {off : Int} {tgt : Nat} (hd : decode cc pc = .ok (.ifCond .ge off, 3)) (ht : (pc : Int) + off = (tgt : Int)) (hx : i32 x) (kt : 0 ≤ x → Rn p l e R s m args below meth c nL G base Q tgt lo st Y I L cells slots) (kf : x < 0 → Rn p l e R s m args below meth c nL G base Q (pc + 3) lo st Y I L cells slots) : Rn p l e R s m args below meth c nL G base Q pc lo (.int (iI x) :: st) Y I L cells slots := r_if_ge C hd ht (fun h => kt ((iI_le ⟨by decide, by decide⟩ hx).mp h)) (fun h => kf (Int.not_le.mp (fun z => h ((iI_le ⟨by decide, by decide⟩ hx).mpr z))))
theorem n_icmp_gt (C : Cx p s m args c cc nL own G base) {x y : Int} {off : Int} {tgt : Nat} (hd : decode cc pc = .ok (.if_icmp .gt off, 3)) (ht : (pc : Int) + off = (tgt : Int)) (hx : i32 x) (hy : i32 y) (kt : y < x → Rn p l e R s m args below meth c nL G base Q tgt lo st Y I L cells slots) (kf : x ≤ y → Rn p l e R s m args below meth c nL G base Q (pc + 3) lo st Y I L cells slots) : Rn p l e R s m args below meth c nL G base Q pc lo (.int (iI y) :: .int (iI x) :: st) Y I L cells slots := r_icmp_gt C hd ht (fun h => kt ((iI_lt hy hx).mp h)) (fun h => kf (Int.not_lt.mp (fun z => h ((iI_lt hy hx).mpr z))))
theorem n_lcmp_gt (C : Cx p s m args c cc nL own G base) {x y : Int} {off : Int} {tgt pc1 pc4 : Nat} (hd : decode cc pc = .ok (.lcmp, 1)) (hd2 : decode cc pc1 = .ok (.ifCond .gt off, 3)) (h1 : pc + 1 = pc1) (h4 : pc1 + 3 = pc4) (ht : (pc1 : Int) + off = (tgt : Int)) (hx : i64 x) (hy : i64 y) (kt : y < x → Rn p l e R s m args below meth c nL G base Q tgt lo st Y I L cells slots) (kf : x ≤ y → Rn p l e R s m args below meth c nL G base Q pc4 lo st Y I L cells slots) : Rn p l e R s m args below meth c nL G base Q pc lo (.long (lI y) :: .long (lI x) :: st) Y I L cells slots := r_lcmp_gt C hd hd2 h1 h4 ht (fun h => kt ((lI_lt hy hx).mp h)) (fun h => kf (Int.not_lt.mp (fun z => h ((lI_lt hy hx).mpr z))))
theorem n_if_gt (C : Cx p s m args c cc nL own G base) {x : Int} {off : Int} {tgt : Nat} (hd : decode cc pc = .ok (.ifCond .gt off, 3)) (ht : (pc : Int) + off = (tgt : Int)) (hx : i32 x) (kt : 0 < x → Rn p l e R s m args below meth c nL G base Q tgt lo st Y I L cells slots) (kf : x ≤ 0 → Rn p l e R s m args below meth c nL G base Q (pc + 3) lo st Y I L cells slots) : Rn p l e R s m args below meth c nL G base Q pc lo (.int (iI x) :: st) Y I L cells slots := r_if_gt C hd ht (fun h => kt ((iI_lt ⟨by decide, by decide⟩ hx).mp h)) (fun h => kf (Int.not_lt.mp (fun z => h ((iI_lt ⟨by decide, by decide⟩ hx).mpr z))))
theorem n_icmp_le (C : Cx p s m args c cc nL own G base) {x y : Int} {off : Int} {tgt : Nat} (hd : decode cc pc = .ok (.if_icmp .le off, 3)) (ht : (pc : Int) + off = (tgt : Int)) (hx : i32 x) (hy : i32 y) (kt : x ≤ y → Rn p l e R s m args below meth c nL G base Q tgt lo st Y I L cells slots) (kf : y < x → Rn p l e R s m args below meth c nL G base Q (pc + 3) lo st Y I L cells slots) : Rn p l e R s m args below meth c nL G base Q pc lo (.int (iI y) :: .int (iI x) :: st) Y I L cells slots := r_icmp_le C hd ht (fun h => kt ((iI_le hx hy).mp h)) (fun h => kf (Int.not_le.mp (fun z => h ((iI_le hx hy).mpr z))))
theorem n_lcmp_le (C : Cx p s m args c cc nL own G base) {x y : Int} {off : Int} {tgt pc1 pc4 : Nat} (hd : decode cc pc = .ok (.lcmp, 1)) (hd2 : decode cc pc1 = .ok (.ifCond .le off, 3)) (h1 : pc + 1 = pc1) (h4 : pc1 + 3 = pc4) (ht : (pc1 : Int) + off = (tgt : Int)) (hx : i64 x) (hy : i64 y) (kt : x ≤ y → Rn p l e R s m args below meth c nL G base Q tgt lo st Y I L cells slots) (kf : y < x → Rn p l e R s m args below meth c nL G base Q pc4 lo st Y I L cells slots) : Rn p l e R s m args below meth c nL G base Q pc lo (.long (lI y) :: .long (lI x) :: st) Y I L cells slots := r_lcmp_le C hd hd2 h1 h4 ht (fun h => kt ((lI_le hx hy).mp h)) (fun h => kf (Int.not_le.mp (fun z => h ((lI_le hx hy).mpr z))))
theorem n_if_le (C : Cx p s m args c cc nL own G base) {x : Int} {off : Int} {tgt : Nat} (hd : decode cc pc = .ok (.ifCond .le off, 3)) (ht : (pc : Int) + off = (tgt : Int)) (hx : i32 x) (kt : x ≤ 0 → Rn p l e R s m args below meth c nL G base Q tgt lo st Y I L cells slots) (kf : 0 < x → Rn p l e R s m args below meth c nL G base Q (pc + 3) lo st Y I L cells slots) : Rn p l e R s m args below meth c nL G base Q pc lo (.int (iI x) :: st) Y I L cells slots := r_if_le C hd ht (fun h => kt ((iI_le hx ⟨by decide, by decide⟩).mp h)) (fun h => kf (Int.not_le.mp (fun z => h ((iI_le hx ⟨by decide, by decide⟩).mpr z))))
theorem n_iinc (C : Cx p s m args c cc nL own G base) {i : Nat} {n x v : Int} (pl : Nat) (hd : decode cc pc = .ok (.iinc i n, 3)) (hp : lo[pl]? = some (i, .int (iI x))) (hv : x + n = v) (hn : i < nL) (hx : (i, Value.int (iI v)) :: lo.filter (fun q => !(q.1 == i) && !(q.1 + 1 == i && q.2.category == 2)) = lo') (kk : Rn p l e R s m args below meth c nL G base Q (pc + 3) lo' st Y I L cells slots) : Rn p l e R s m args below meth c nL G base Q pc lo st Y I L cells slots := r_iinc C pl hd hp (by rw [← hv]; exact iI_add x n) hn hx kk
theorem n_ldc2 (C : Cx p s m args c cc nL own G base) {idx : Nat} {v0 : Int64} {v : Int} (hw : Cond.constantLong own idx v0 ∈ tW) (hv : v0 = lI v) (hd : decode cc pc = .ok (.ldc2_w idx, 3)) (kk : Rn p l e R s m args below meth c nL G base Q (pc + 3) lo (.long (lI v) :: st) Y I L cells slots) : Rn p l e R s m args below meth c nL G base Q pc lo st Y I L cells slots := r_ldc2 C hw hd (by rw [hv]; exact kk)
theorem n_ldc (C : Cx p s m args c cc nL own G base) {idx : Nat} {v0 : Int32} {v : Int} (hw : Cond.constant own idx v0 ∈ tW) (hv : v0 = iI v) (hd : decode cc pc = .ok (.ldc idx, 2)) (kk : Rn p l e R s m args below meth c nL G base Q (pc + 2) lo (.int (iI v) :: st) Y I L cells slots) : Rn p l e R s m args below meth c nL G base Q pc lo st Y I L cells slots := r_ldc C hw hd (by rw [hv]; exact kk)
theorem n_ldcw (C : Cx p s m args c cc nL own G base) {idx : Nat} {v0 : Int32} {v : Int} (hw : Cond.constant own idx v0 ∈ tW) (hv : v0 = iI v) (hd : decode cc pc = .ok (.ldc_w idx, 3)) (kk : Rn p l e R s m args below meth c nL G base Q (pc + 3) lo (.int (iI v) :: st) Y I L cells slots) : Rn p l e R s m args below meth c nL G base Q pc lo st Y I L cells slots := r_ldcw C hw hd (by rw [hv]; exact kk)
theorem n_topi {x : Int} (kk : ∀ y : Int, y = x → Rn p l e R s m args below meth c nL G base Q pc lo (.int (iI y) :: st) Y I L cells slots) : Rn p l e R s m args below meth c nL G base Q pc lo (.int (iI x) :: st) Y I L cells slots := kk x rfl
theorem n_topl {x : Int} (kk : ∀ y : Int, y = x → Rn p l e R s m args below meth c nL G base Q pc lo (.long (lI y) :: st) Y I L cells slots) : Rn p l e R s m args below meth c nL G base Q pc lo (.long (lI x) :: st) Y I L cells slots := kk x rfl
theorem n_eqi {x y : Int} (h : x = y) (kk : Rn p l e R s m args below meth c nL G base Q pc lo (.int (iI y) :: st) Y I L cells slots) : Rn p l e R s m args below meth c nL G base Q pc lo (.int (iI x) :: st) Y I L cells slots := by subst h; exact kk
theorem n_eql {x y : Int} (h : x = y) (kk : Rn p l e R s m args below meth c nL G base Q pc lo (.long (lI y) :: st) Y I L cells slots) : Rn p l e R s m args below meth c nL G base Q pc lo (.long (lI x) :: st) Y I L cells slots := by subst h; exact kk
variable {B n : Nat} {b d : Nat → Nat → Int}
theorem g_getI (C : Cx p s m args c cc nL own G base) {idx ci k x : Nat} {v : Int} {fin : Bool} (o : Nat) (hx : x = B + o) (ho : o < n) (hF : FL own idx ci k fin) (ht : tc ci k = 0) (hd : decode cc pc = .ok (.getfield idx, 3)) (hA : Is base Y x (.inl ci)) (hv : b o k = v) (kk : Rn p l e R s m args below meth c nL G base Q (pc + 3) lo (.int (iI v) :: st) Y (mI I B n b) L cells slots) : Rn p l e R s m args below meth c nL G base Q pc lo (.ref x :: st) Y (mI I B n b) L cells slots := by
  subst hx; subst hv
  exact r_getI C hF ht hd hA (by rw [mI_at ho]; exact kk)
theorem g_getL (C : Cx p s m args c cc nL own G base) {idx ci k x : Nat} {v : Int} {fin : Bool} (o : Nat) (hx : x = B + o) (ho : o < n) (hF : FL own idx ci k fin) (ht : tc ci k = 1) (hd : decode cc pc = .ok (.getfield idx, 3)) (hA : Is base Y x (.inl ci)) (hv : d o k = v) (kk : Rn p l e R s m args below meth c nL G base Q (pc + 3) lo (.long (lI v) :: st) Y I (mL L B n d) cells slots) : Rn p l e R s m args below meth c nL G base Q pc lo (.ref x :: st) Y I (mL L B n d) cells slots := by
  subst hx; subst hv
  exact r_getL C hF ht hd hA (by rw [mL_at ho]; exact kk)
theorem g_putI (C : Cx p s m args c cc nL own G base) {idx ci k x : Nat} {v : Int} (o : Nat) (hx : x = B + o) (ho : o < n) (hF : FL own idx ci k false) (ht : tyf ci k = .int) (hd : decode cc pc = .ok (.putfield idx, 3)) (hA : Is base Y x (.inl ci)) (kk : ∀ b', b' = up2 b o k v → Rn p l e R s m args below meth c nL G base Q (pc + 3) lo st Y (mI I B n b') L cells slots) : Rn p l e R s m args below meth c nL G base Q pc lo (.int (iI v) :: .ref x :: st) Y (mI I B n b) L cells slots := by
  subst hx
  exact r_putI C hF ht hd hA (fun I' e => by rw [e, mI_up ho]; exact kk _ rfl)
theorem g_putZ (C : Cx p s m args c cc nL own G base) {idx ci k x : Nat} {v : Int} (o : Nat) (hx : x = B + o) (ho : o < n) (hF : FL own idx ci k false) (ht : tyf ci k = .boolean) (hd : decode cc pc = .ok (.putfield idx, 3)) (hA : Is base Y x (.inl ci)) (hz : v = 0 ∨ v = 1) (kk : ∀ b', b' = up2 b o k v → Rn p l e R s m args below meth c nL G base Q (pc + 3) lo st Y (mI I B n b') L cells slots) : Rn p l e R s m args below meth c nL G base Q pc lo (.int (iI v) :: .ref x :: st) Y (mI I B n b) L cells slots := by
  subst hx
  exact r_putZ C hF ht hd hA (by rcases hz with rfl | rfl; exact Or.inl rfl; exact Or.inr rfl) (fun I' e => by rw [e, mI_up ho]; exact kk _ rfl)
theorem g_putL (C : Cx p s m args c cc nL own G base) {idx ci k x : Nat} {v : Int} (o : Nat) (hx : x = B + o) (ho : o < n) (hF : FL own idx ci k false) (ht : tyf ci k = .long) (hd : decode cc pc = .ok (.putfield idx, 3)) (hA : Is base Y x (.inl ci)) (kk : ∀ d', d' = up2 d o k v → Rn p l e R s m args below meth c nL G base Q (pc + 3) lo st Y I (mL L B n d') cells slots) : Rn p l e R s m args below meth c nL G base Q pc lo (.long (lI v) :: .ref x :: st) Y I (mL L B n d) cells slots := by
  subst hx
  exact r_putL C hF ht hd hA (fun I' e => by rw [e, mL_up ho]; exact kk _ rfl)
theorem g_iald (C : Cx p s m args c cc nL own G base) {x N : Nat} {z : Int32} {v : Int} (o i : Nat) (hx : x = B + o) (ho : o < n) (hd : decode cc pc = .ok (.iaload, 1)) (hA : Is base Y x (.inr (0, N))) (hi : Ix z i N) (hv : b o i = v) (kk : Rn p l e R s m args below meth c nL G base Q (pc + 1) lo (.int (iI v) :: st) Y (mI I B n b) L cells slots) : Rn p l e R s m args below meth c nL G base Q pc lo (.int z :: .ref x :: st) Y (mI I B n b) L cells slots := by
  subst hx; subst hv
  exact r_iald C i hd hA hi (by rw [mI_at ho]; exact kk)
theorem g_zald (C : Cx p s m args c cc nL own G base) {x N : Nat} {z : Int32} {v : Int} (o i : Nat) (hx : x = B + o) (ho : o < n) (hd : decode cc pc = .ok (.baload, 1)) (hA : Is base Y x (.inr (2, N))) (hi : Ix z i N) (hv : b o i = v) (kk : Rn p l e R s m args below meth c nL G base Q (pc + 1) lo (.int (iI v) :: st) Y (mI I B n b) L cells slots) : Rn p l e R s m args below meth c nL G base Q pc lo (.int z :: .ref x :: st) Y (mI I B n b) L cells slots := by
  subst hx; subst hv
  exact r_zald C i hd hA hi (by rw [mI_at ho]; exact kk)
theorem g_cald (C : Cx p s m args c cc nL own G base) {x N : Nat} {z : Int32} {v : Int} (o i : Nat) (hx : x = B + o) (ho : o < n) (hd : decode cc pc = .ok (.caload, 1)) (hA : Is base Y x (.inr (3, N))) (hi : Ix z i N) (hv : b o i = v) (kk : Rn p l e R s m args below meth c nL G base Q (pc + 1) lo (.int (iI v) :: st) Y (mI I B n b) L cells slots) : Rn p l e R s m args below meth c nL G base Q pc lo (.int z :: .ref x :: st) Y (mI I B n b) L cells slots := by
  subst hx; subst hv
  exact r_cald C i hd hA hi (by rw [mI_at ho]; exact kk)
theorem g_lald (C : Cx p s m args c cc nL own G base) {x N : Nat} {z : Int32} {v : Int} (o i : Nat) (hx : x = B + o) (ho : o < n) (hd : decode cc pc = .ok (.laload, 1)) (hA : Is base Y x (.inr (1, N))) (hi : Ix z i N) (hv : d o i = v) (kk : Rn p l e R s m args below meth c nL G base Q (pc + 1) lo (.long (lI v) :: st) Y I (mL L B n d) cells slots) : Rn p l e R s m args below meth c nL G base Q pc lo (.int z :: .ref x :: st) Y I (mL L B n d) cells slots := by
  subst hx; subst hv
  exact r_lald C i hd hA hi (by rw [mL_at ho]; exact kk)
theorem g_iast (C : Cx p s m args c cc nL own G base) {x N : Nat} {z : Int32} {v : Int} (o i : Nat) (hx : x = B + o) (ho : o < n) (hd : decode cc pc = .ok (.iastore, 1)) (hA : Is base Y x (.inr (0, N))) (hi : Ix z i N)  (kk : ∀ b', b' = up2 b o i v → Rn p l e R s m args below meth c nL G base Q (pc + 1) lo st Y (mI I B n b') L cells slots) : Rn p l e R s m args below meth c nL G base Q pc lo (.int (iI v) :: .int z :: .ref x :: st) Y (mI I B n b) L cells slots := by
  subst hx
  exact r_iast C i hd hA hi  (fun I' e => by rw [e, mI_up ho]; exact kk _ rfl)
theorem g_zast (C : Cx p s m args c cc nL own G base) {x N : Nat} {z : Int32} {v : Int} (o i : Nat) (hx : x = B + o) (ho : o < n) (hd : decode cc pc = .ok (.bastore, 1)) (hA : Is base Y x (.inr (2, N))) (hi : Ix z i N) (hz : v = 0 ∨ v = 1) (kk : ∀ b', b' = up2 b o i v → Rn p l e R s m args below meth c nL G base Q (pc + 1) lo st Y (mI I B n b') L cells slots) : Rn p l e R s m args below meth c nL G base Q pc lo (.int (iI v) :: .int z :: .ref x :: st) Y (mI I B n b) L cells slots := by
  subst hx
  exact r_zast C i hd hA hi (by rcases hz with rfl | rfl; exact Or.inl rfl; exact Or.inr rfl) (fun I' e => by rw [e, mI_up ho]; exact kk _ rfl)
theorem n_char {v : Int} (hz : 0 ≤ v ∧ v < 65536) : narrow .char (.int (iI v)) = .int (iI v) := by
  obtain ⟨k, rfl⟩ := Int.eq_ofNat_of_zero_le hz.1
  have := (pk_charN (q := k) (by omega)).1
  have e : iI (k : Int) = nI k := by unfold iI nI; exact Int32.ofInt_eq_ofNat
  rw [e]; exact this
theorem g_cast (C : Cx p s m args c cc nL own G base) {x N : Nat} {z : Int32} {v : Int} (o i : Nat) (hx : x = B + o) (ho : o < n) (hd : decode cc pc = .ok (.castore, 1)) (hA : Is base Y x (.inr (3, N))) (hi : Ix z i N) (hz : 0 ≤ v ∧ v < 65536) (kk : ∀ b', b' = up2 b o i v → Rn p l e R s m args below meth c nL G base Q (pc + 1) lo st Y (mI I B n b') L cells slots) : Rn p l e R s m args below meth c nL G base Q pc lo (.int (iI v) :: .int z :: .ref x :: st) Y (mI I B n b) L cells slots := by
  subst hx
  exact r_cast C i hd hA hi (n_char hz) (fun I' e => by rw [e, mI_up ho]; exact kk _ rfl)
theorem g_last (C : Cx p s m args c cc nL own G base) {x N : Nat} {z : Int32} {v : Int} (o i : Nat) (hx : x = B + o) (ho : o < n) (hd : decode cc pc = .ok (.lastore, 1)) (hA : Is base Y x (.inr (1, N))) (hi : Ix z i N)  (kk : ∀ d', d' = up2 d o i v → Rn p l e R s m args below meth c nL G base Q (pc + 1) lo st Y I (mL L B n d') cells slots) : Rn p l e R s m args below meth c nL G base Q pc lo (.long (lI v) :: .int z :: .ref x :: st) Y I (mL L B n d) cells slots := by
  subst hx
  exact r_last C i hd hA hi  (fun I' e => by rw [e, mL_up ho]; exact kk _ rfl)
end NORM
abbrev rmz (f lc : Nat) : Room := { frames := f, cells := 0, slots := 0, locals := lc }
abbrev PI (r : Int) (Y : MY) (I : MI) (L : ML) : Option Value → MY → MI → ML → Prop := fun v Y' I' L' => v = some (.int (iI r)) ∧ Y' = Y ∧ I' = I ∧ L' = L
abbrev PL (r : Int) (Y : MY) (I : MI) (L : ML) : Option Value → MY → MI → ML → Prop := fun v Y' I' L' => v = some (.long (lI r)) ∧ Y' = Y ∧ I' = I ∧ L' = L
abbrev PA (r : Nat) (Y : MY) (I : MI) (L : ML) : Option Value → MY → MI → ML → Prop := fun v Y' I' L' => v = some (.ref r) ∧ Y' = Y ∧ I' = I ∧ L' = L
abbrev EV (Y : MY) (F : MI → ML → Prop) : Option Value → MY → MI → ML → Prop := fun v Y' I' L' => v = none ∧ Y' = Y ∧ F I' L'
abbrev EI (Y : MY) (F : Int → MI → ML → Prop) : Option Value → MY → MI → ML → Prop := fun v Y' I' L' => ∃ r, v = some (.int (iI r)) ∧ Y' = Y ∧ F r I' L'
theorem rm_ok {R : Room} {f lc mL cells slots : Nat} (h1 : Nat.ble (f + 1) R.frames = true) (h2 : Nat.ble (8 + (mL + 11) + lc) R.locals = true) (h3 : cells ≤ R.cells) (h4 : slots ≤ R.slots) : RM R (rmz f lc) mL cells slots := ⟨⟨Nat.le_of_ble_eq_true h1, Nat.le_of_ble_eq_true h2⟩, h3, h4⟩
section ARI
variable {p : Program} {l : Launch} {e : Env} {R : Room} {s : State} {m : MethodId} {args : Array Value} {below : List Frame} {meth : Method} {c : Code} {cc : ByteArray} {nL : Nat} {own : String} {G : Gd} {base : Nat} {Q : State → Prop} {pc : Nat} {lo lo' : List (Nat × Value)} {st : List Value} {Y : MY} {I : MI} {L : ML} {cells slots : Nat}
variable {y : MethodName} {bytes : ByteArray} {mL idx ci b f lc : Nat} {ret : Option FieldType} {rm : Room} {rest : List Value}
theorem cV0_PI (C : Cx p s m args c cc nL own G base) {r : Int} (hM : Ct l y bytes mL ret (rmz f lc) G base (.ref b :: []) Y I L (PI r Y I L)) (hB : CV own idx ci y bytes mL ret 0) (hR : RM R (rmz f lc) mL cells slots) (hst : (rest.map fun v => v.category).sum ≤ 8) (hA : Is base Y b (.inl ci)) (hd : decode cc pc = .ok (.invokevirtual idx, 3)) (kk : Rn p l e R s m args below meth c nL G base Q (pc + 3) lo (.int (iI r) :: rest) Y I L cells slots) : Rn p l e R s m args below meth c nL G base Q pc lo (.ref b :: rest) Y I L cells slots := r_runV (As := []) (rest := rest) C hM hB hR hst hA hd (fun v Y' I' L' h => by obtain ⟨rfl, rfl, rfl, rfl⟩ := h; exact kk)
theorem cV0_PL (C : Cx p s m args c cc nL own G base) {r : Int} (hM : Ct l y bytes mL ret (rmz f lc) G base (.ref b :: []) Y I L (PL r Y I L)) (hB : CV own idx ci y bytes mL ret 0) (hR : RM R (rmz f lc) mL cells slots) (hst : (rest.map fun v => v.category).sum ≤ 8) (hA : Is base Y b (.inl ci)) (hd : decode cc pc = .ok (.invokevirtual idx, 3)) (kk : Rn p l e R s m args below meth c nL G base Q (pc + 3) lo (.long (lI r) :: rest) Y I L cells slots) : Rn p l e R s m args below meth c nL G base Q pc lo (.ref b :: rest) Y I L cells slots := r_runV (As := []) (rest := rest) C hM hB hR hst hA hd (fun v Y' I' L' h => by obtain ⟨rfl, rfl, rfl, rfl⟩ := h; exact kk)
theorem cV0_PA (C : Cx p s m args c cc nL own G base) {r : Nat} (hM : Ct l y bytes mL ret (rmz f lc) G base (.ref b :: []) Y I L (PA r Y I L)) (hB : CV own idx ci y bytes mL ret 0) (hR : RM R (rmz f lc) mL cells slots) (hst : (rest.map fun v => v.category).sum ≤ 8) (hA : Is base Y b (.inl ci)) (hd : decode cc pc = .ok (.invokevirtual idx, 3)) (kk : Rn p l e R s m args below meth c nL G base Q (pc + 3) lo (.ref r :: rest) Y I L cells slots) : Rn p l e R s m args below meth c nL G base Q pc lo (.ref b :: rest) Y I L cells slots := r_runV (As := []) (rest := rest) C hM hB hR hst hA hd (fun v Y' I' L' h => by obtain ⟨rfl, rfl, rfl, rfl⟩ := h; exact kk)
theorem cV0_EV (C : Cx p s m args c cc nL own G base) {F : MI → ML → Prop} (hM : Ct l y bytes mL ret (rmz f lc) G base (.ref b :: []) Y I L (EV Y F)) (hB : CV own idx ci y bytes mL ret 0) (hR : RM R (rmz f lc) mL cells slots) (hst : (rest.map fun v => v.category).sum ≤ 8) (hA : Is base Y b (.inl ci)) (hd : decode cc pc = .ok (.invokevirtual idx, 3)) (kk : ∀ I' L', F I' L' → Rn p l e R s m args below meth c nL G base Q (pc + 3) lo rest Y I' L' cells slots) : Rn p l e R s m args below meth c nL G base Q pc lo (.ref b :: rest) Y I L cells slots := r_runV (As := []) (rest := rest) C hM hB hR hst hA hd (fun v Y' I' L' h => by obtain ⟨rfl, rfl, h⟩ := h; exact kk _ _ h)
theorem cV0_EI (C : Cx p s m args c cc nL own G base) {F : Int → MI → ML → Prop} (hM : Ct l y bytes mL ret (rmz f lc) G base (.ref b :: []) Y I L (EI Y F)) (hB : CV own idx ci y bytes mL ret 0) (hR : RM R (rmz f lc) mL cells slots) (hst : (rest.map fun v => v.category).sum ≤ 8) (hA : Is base Y b (.inl ci)) (hd : decode cc pc = .ok (.invokevirtual idx, 3)) (kk : ∀ r I' L', F r I' L' → Rn p l e R s m args below meth c nL G base Q (pc + 3) lo (.int (iI r) :: rest) Y I' L' cells slots) : Rn p l e R s m args below meth c nL G base Q pc lo (.ref b :: rest) Y I L cells slots := r_runV (As := []) (rest := rest) C hM hB hR hst hA hd (fun v Y' I' L' h => by obtain ⟨r, rfl, rfl, h⟩ := h; exact kk _ _ _ h)
theorem cV0_G (C : Cx p s m args c cc nL own G base) {F : Option Value → MY → MI → ML → Prop} (hM : Ct l y bytes mL ret rm G base (.ref b :: []) Y I L (F)) (hB : CV own idx ci y bytes mL ret 0) (hR : RM R rm mL cells slots) (hst : (rest.map fun v => v.category).sum ≤ 8) (hA : Is base Y b (.inl ci)) (hd : decode cc pc = .ok (.invokevirtual idx, 3)) (kk : ∀ v Y' I' L', F v Y' I' L' → Rn p l e R s m args below meth c nL G base Q (pc + 3) lo (v.toList ++ rest) Y' I' L' (cells + rm.cells) (slots + rm.slots)) : Rn p l e R s m args below meth c nL G base Q pc lo (.ref b :: rest) Y I L cells slots := r_runV (As := []) (rest := rest) C hM hB hR hst hA hd kk
theorem cV1_PI (C : Cx p s m args c cc nL own G base) {x0 : Value} {r : Int} (hM : Ct l y bytes mL ret (rmz f lc) G base (.ref b :: [x0]) Y I L (PI r Y I L)) (hB : CV own idx ci y bytes mL ret 1) (hR : RM R (rmz f lc) mL cells slots) (hst : (rest.map fun v => v.category).sum ≤ 8) (hA : Is base Y b (.inl ci)) (hd : decode cc pc = .ok (.invokevirtual idx, 3)) (kk : Rn p l e R s m args below meth c nL G base Q (pc + 3) lo (.int (iI r) :: rest) Y I L cells slots) : Rn p l e R s m args below meth c nL G base Q pc lo (x0 :: .ref b :: rest) Y I L cells slots := r_runV (As := [x0]) (rest := rest) C hM hB hR hst hA hd (fun v Y' I' L' h => by obtain ⟨rfl, rfl, rfl, rfl⟩ := h; exact kk)
theorem cV1_PL (C : Cx p s m args c cc nL own G base) {x0 : Value} {r : Int} (hM : Ct l y bytes mL ret (rmz f lc) G base (.ref b :: [x0]) Y I L (PL r Y I L)) (hB : CV own idx ci y bytes mL ret 1) (hR : RM R (rmz f lc) mL cells slots) (hst : (rest.map fun v => v.category).sum ≤ 8) (hA : Is base Y b (.inl ci)) (hd : decode cc pc = .ok (.invokevirtual idx, 3)) (kk : Rn p l e R s m args below meth c nL G base Q (pc + 3) lo (.long (lI r) :: rest) Y I L cells slots) : Rn p l e R s m args below meth c nL G base Q pc lo (x0 :: .ref b :: rest) Y I L cells slots := r_runV (As := [x0]) (rest := rest) C hM hB hR hst hA hd (fun v Y' I' L' h => by obtain ⟨rfl, rfl, rfl, rfl⟩ := h; exact kk)
theorem cV1_PA (C : Cx p s m args c cc nL own G base) {x0 : Value} {r : Nat} (hM : Ct l y bytes mL ret (rmz f lc) G base (.ref b :: [x0]) Y I L (PA r Y I L)) (hB : CV own idx ci y bytes mL ret 1) (hR : RM R (rmz f lc) mL cells slots) (hst : (rest.map fun v => v.category).sum ≤ 8) (hA : Is base Y b (.inl ci)) (hd : decode cc pc = .ok (.invokevirtual idx, 3)) (kk : Rn p l e R s m args below meth c nL G base Q (pc + 3) lo (.ref r :: rest) Y I L cells slots) : Rn p l e R s m args below meth c nL G base Q pc lo (x0 :: .ref b :: rest) Y I L cells slots := r_runV (As := [x0]) (rest := rest) C hM hB hR hst hA hd (fun v Y' I' L' h => by obtain ⟨rfl, rfl, rfl, rfl⟩ := h; exact kk)
theorem cV1_EV (C : Cx p s m args c cc nL own G base) {x0 : Value} {F : MI → ML → Prop} (hM : Ct l y bytes mL ret (rmz f lc) G base (.ref b :: [x0]) Y I L (EV Y F)) (hB : CV own idx ci y bytes mL ret 1) (hR : RM R (rmz f lc) mL cells slots) (hst : (rest.map fun v => v.category).sum ≤ 8) (hA : Is base Y b (.inl ci)) (hd : decode cc pc = .ok (.invokevirtual idx, 3)) (kk : ∀ I' L', F I' L' → Rn p l e R s m args below meth c nL G base Q (pc + 3) lo rest Y I' L' cells slots) : Rn p l e R s m args below meth c nL G base Q pc lo (x0 :: .ref b :: rest) Y I L cells slots := r_runV (As := [x0]) (rest := rest) C hM hB hR hst hA hd (fun v Y' I' L' h => by obtain ⟨rfl, rfl, h⟩ := h; exact kk _ _ h)
theorem cV1_EI (C : Cx p s m args c cc nL own G base) {x0 : Value} {F : Int → MI → ML → Prop} (hM : Ct l y bytes mL ret (rmz f lc) G base (.ref b :: [x0]) Y I L (EI Y F)) (hB : CV own idx ci y bytes mL ret 1) (hR : RM R (rmz f lc) mL cells slots) (hst : (rest.map fun v => v.category).sum ≤ 8) (hA : Is base Y b (.inl ci)) (hd : decode cc pc = .ok (.invokevirtual idx, 3)) (kk : ∀ r I' L', F r I' L' → Rn p l e R s m args below meth c nL G base Q (pc + 3) lo (.int (iI r) :: rest) Y I' L' cells slots) : Rn p l e R s m args below meth c nL G base Q pc lo (x0 :: .ref b :: rest) Y I L cells slots := r_runV (As := [x0]) (rest := rest) C hM hB hR hst hA hd (fun v Y' I' L' h => by obtain ⟨r, rfl, rfl, h⟩ := h; exact kk _ _ _ h)
theorem cV1_G (C : Cx p s m args c cc nL own G base) {x0 : Value} {F : Option Value → MY → MI → ML → Prop} (hM : Ct l y bytes mL ret rm G base (.ref b :: [x0]) Y I L (F)) (hB : CV own idx ci y bytes mL ret 1) (hR : RM R rm mL cells slots) (hst : (rest.map fun v => v.category).sum ≤ 8) (hA : Is base Y b (.inl ci)) (hd : decode cc pc = .ok (.invokevirtual idx, 3)) (kk : ∀ v Y' I' L', F v Y' I' L' → Rn p l e R s m args below meth c nL G base Q (pc + 3) lo (v.toList ++ rest) Y' I' L' (cells + rm.cells) (slots + rm.slots)) : Rn p l e R s m args below meth c nL G base Q pc lo (x0 :: .ref b :: rest) Y I L cells slots := r_runV (As := [x0]) (rest := rest) C hM hB hR hst hA hd kk
theorem cV2_PI (C : Cx p s m args c cc nL own G base) {x0 x1 : Value} {r : Int} (hM : Ct l y bytes mL ret (rmz f lc) G base (.ref b :: [x0, x1]) Y I L (PI r Y I L)) (hB : CV own idx ci y bytes mL ret 2) (hR : RM R (rmz f lc) mL cells slots) (hst : (rest.map fun v => v.category).sum ≤ 8) (hA : Is base Y b (.inl ci)) (hd : decode cc pc = .ok (.invokevirtual idx, 3)) (kk : Rn p l e R s m args below meth c nL G base Q (pc + 3) lo (.int (iI r) :: rest) Y I L cells slots) : Rn p l e R s m args below meth c nL G base Q pc lo (x1 :: x0 :: .ref b :: rest) Y I L cells slots := r_runV (As := [x0, x1]) (rest := rest) C hM hB hR hst hA hd (fun v Y' I' L' h => by obtain ⟨rfl, rfl, rfl, rfl⟩ := h; exact kk)
theorem cV2_PL (C : Cx p s m args c cc nL own G base) {x0 x1 : Value} {r : Int} (hM : Ct l y bytes mL ret (rmz f lc) G base (.ref b :: [x0, x1]) Y I L (PL r Y I L)) (hB : CV own idx ci y bytes mL ret 2) (hR : RM R (rmz f lc) mL cells slots) (hst : (rest.map fun v => v.category).sum ≤ 8) (hA : Is base Y b (.inl ci)) (hd : decode cc pc = .ok (.invokevirtual idx, 3)) (kk : Rn p l e R s m args below meth c nL G base Q (pc + 3) lo (.long (lI r) :: rest) Y I L cells slots) : Rn p l e R s m args below meth c nL G base Q pc lo (x1 :: x0 :: .ref b :: rest) Y I L cells slots := r_runV (As := [x0, x1]) (rest := rest) C hM hB hR hst hA hd (fun v Y' I' L' h => by obtain ⟨rfl, rfl, rfl, rfl⟩ := h; exact kk)
theorem cV2_PA (C : Cx p s m args c cc nL own G base) {x0 x1 : Value} {r : Nat} (hM : Ct l y bytes mL ret (rmz f lc) G base (.ref b :: [x0, x1]) Y I L (PA r Y I L)) (hB : CV own idx ci y bytes mL ret 2) (hR : RM R (rmz f lc) mL cells slots) (hst : (rest.map fun v => v.category).sum ≤ 8) (hA : Is base Y b (.inl ci)) (hd : decode cc pc = .ok (.invokevirtual idx, 3)) (kk : Rn p l e R s m args below meth c nL G base Q (pc + 3) lo (.ref r :: rest) Y I L cells slots) : Rn p l e R s m args below meth c nL G base Q pc lo (x1 :: x0 :: .ref b :: rest) Y I L cells slots := r_runV (As := [x0, x1]) (rest := rest) C hM hB hR hst hA hd (fun v Y' I' L' h => by obtain ⟨rfl, rfl, rfl, rfl⟩ := h; exact kk)
theorem cV2_EV (C : Cx p s m args c cc nL own G base) {x0 x1 : Value} {F : MI → ML → Prop} (hM : Ct l y bytes mL ret (rmz f lc) G base (.ref b :: [x0, x1]) Y I L (EV Y F)) (hB : CV own idx ci y bytes mL ret 2) (hR : RM R (rmz f lc) mL cells slots) (hst : (rest.map fun v => v.category).sum ≤ 8) (hA : Is base Y b (.inl ci)) (hd : decode cc pc = .ok (.invokevirtual idx, 3)) (kk : ∀ I' L', F I' L' → Rn p l e R s m args below meth c nL G base Q (pc + 3) lo rest Y I' L' cells slots) : Rn p l e R s m args below meth c nL G base Q pc lo (x1 :: x0 :: .ref b :: rest) Y I L cells slots := r_runV (As := [x0, x1]) (rest := rest) C hM hB hR hst hA hd (fun v Y' I' L' h => by obtain ⟨rfl, rfl, h⟩ := h; exact kk _ _ h)
theorem cV2_EI (C : Cx p s m args c cc nL own G base) {x0 x1 : Value} {F : Int → MI → ML → Prop} (hM : Ct l y bytes mL ret (rmz f lc) G base (.ref b :: [x0, x1]) Y I L (EI Y F)) (hB : CV own idx ci y bytes mL ret 2) (hR : RM R (rmz f lc) mL cells slots) (hst : (rest.map fun v => v.category).sum ≤ 8) (hA : Is base Y b (.inl ci)) (hd : decode cc pc = .ok (.invokevirtual idx, 3)) (kk : ∀ r I' L', F r I' L' → Rn p l e R s m args below meth c nL G base Q (pc + 3) lo (.int (iI r) :: rest) Y I' L' cells slots) : Rn p l e R s m args below meth c nL G base Q pc lo (x1 :: x0 :: .ref b :: rest) Y I L cells slots := r_runV (As := [x0, x1]) (rest := rest) C hM hB hR hst hA hd (fun v Y' I' L' h => by obtain ⟨r, rfl, rfl, h⟩ := h; exact kk _ _ _ h)
theorem cV2_G (C : Cx p s m args c cc nL own G base) {x0 x1 : Value} {F : Option Value → MY → MI → ML → Prop} (hM : Ct l y bytes mL ret rm G base (.ref b :: [x0, x1]) Y I L (F)) (hB : CV own idx ci y bytes mL ret 2) (hR : RM R rm mL cells slots) (hst : (rest.map fun v => v.category).sum ≤ 8) (hA : Is base Y b (.inl ci)) (hd : decode cc pc = .ok (.invokevirtual idx, 3)) (kk : ∀ v Y' I' L', F v Y' I' L' → Rn p l e R s m args below meth c nL G base Q (pc + 3) lo (v.toList ++ rest) Y' I' L' (cells + rm.cells) (slots + rm.slots)) : Rn p l e R s m args below meth c nL G base Q pc lo (x1 :: x0 :: .ref b :: rest) Y I L cells slots := r_runV (As := [x0, x1]) (rest := rest) C hM hB hR hst hA hd kk
theorem cV3_PI (C : Cx p s m args c cc nL own G base) {x0 x1 x2 : Value} {r : Int} (hM : Ct l y bytes mL ret (rmz f lc) G base (.ref b :: [x0, x1, x2]) Y I L (PI r Y I L)) (hB : CV own idx ci y bytes mL ret 3) (hR : RM R (rmz f lc) mL cells slots) (hst : (rest.map fun v => v.category).sum ≤ 8) (hA : Is base Y b (.inl ci)) (hd : decode cc pc = .ok (.invokevirtual idx, 3)) (kk : Rn p l e R s m args below meth c nL G base Q (pc + 3) lo (.int (iI r) :: rest) Y I L cells slots) : Rn p l e R s m args below meth c nL G base Q pc lo (x2 :: x1 :: x0 :: .ref b :: rest) Y I L cells slots := r_runV (As := [x0, x1, x2]) (rest := rest) C hM hB hR hst hA hd (fun v Y' I' L' h => by obtain ⟨rfl, rfl, rfl, rfl⟩ := h; exact kk)
theorem cV3_PL (C : Cx p s m args c cc nL own G base) {x0 x1 x2 : Value} {r : Int} (hM : Ct l y bytes mL ret (rmz f lc) G base (.ref b :: [x0, x1, x2]) Y I L (PL r Y I L)) (hB : CV own idx ci y bytes mL ret 3) (hR : RM R (rmz f lc) mL cells slots) (hst : (rest.map fun v => v.category).sum ≤ 8) (hA : Is base Y b (.inl ci)) (hd : decode cc pc = .ok (.invokevirtual idx, 3)) (kk : Rn p l e R s m args below meth c nL G base Q (pc + 3) lo (.long (lI r) :: rest) Y I L cells slots) : Rn p l e R s m args below meth c nL G base Q pc lo (x2 :: x1 :: x0 :: .ref b :: rest) Y I L cells slots := r_runV (As := [x0, x1, x2]) (rest := rest) C hM hB hR hst hA hd (fun v Y' I' L' h => by obtain ⟨rfl, rfl, rfl, rfl⟩ := h; exact kk)
theorem cV3_PA (C : Cx p s m args c cc nL own G base) {x0 x1 x2 : Value} {r : Nat} (hM : Ct l y bytes mL ret (rmz f lc) G base (.ref b :: [x0, x1, x2]) Y I L (PA r Y I L)) (hB : CV own idx ci y bytes mL ret 3) (hR : RM R (rmz f lc) mL cells slots) (hst : (rest.map fun v => v.category).sum ≤ 8) (hA : Is base Y b (.inl ci)) (hd : decode cc pc = .ok (.invokevirtual idx, 3)) (kk : Rn p l e R s m args below meth c nL G base Q (pc + 3) lo (.ref r :: rest) Y I L cells slots) : Rn p l e R s m args below meth c nL G base Q pc lo (x2 :: x1 :: x0 :: .ref b :: rest) Y I L cells slots := r_runV (As := [x0, x1, x2]) (rest := rest) C hM hB hR hst hA hd (fun v Y' I' L' h => by obtain ⟨rfl, rfl, rfl, rfl⟩ := h; exact kk)
theorem cV3_EV (C : Cx p s m args c cc nL own G base) {x0 x1 x2 : Value} {F : MI → ML → Prop} (hM : Ct l y bytes mL ret (rmz f lc) G base (.ref b :: [x0, x1, x2]) Y I L (EV Y F)) (hB : CV own idx ci y bytes mL ret 3) (hR : RM R (rmz f lc) mL cells slots) (hst : (rest.map fun v => v.category).sum ≤ 8) (hA : Is base Y b (.inl ci)) (hd : decode cc pc = .ok (.invokevirtual idx, 3)) (kk : ∀ I' L', F I' L' → Rn p l e R s m args below meth c nL G base Q (pc + 3) lo rest Y I' L' cells slots) : Rn p l e R s m args below meth c nL G base Q pc lo (x2 :: x1 :: x0 :: .ref b :: rest) Y I L cells slots := r_runV (As := [x0, x1, x2]) (rest := rest) C hM hB hR hst hA hd (fun v Y' I' L' h => by obtain ⟨rfl, rfl, h⟩ := h; exact kk _ _ h)
theorem cV3_EI (C : Cx p s m args c cc nL own G base) {x0 x1 x2 : Value} {F : Int → MI → ML → Prop} (hM : Ct l y bytes mL ret (rmz f lc) G base (.ref b :: [x0, x1, x2]) Y I L (EI Y F)) (hB : CV own idx ci y bytes mL ret 3) (hR : RM R (rmz f lc) mL cells slots) (hst : (rest.map fun v => v.category).sum ≤ 8) (hA : Is base Y b (.inl ci)) (hd : decode cc pc = .ok (.invokevirtual idx, 3)) (kk : ∀ r I' L', F r I' L' → Rn p l e R s m args below meth c nL G base Q (pc + 3) lo (.int (iI r) :: rest) Y I' L' cells slots) : Rn p l e R s m args below meth c nL G base Q pc lo (x2 :: x1 :: x0 :: .ref b :: rest) Y I L cells slots := r_runV (As := [x0, x1, x2]) (rest := rest) C hM hB hR hst hA hd (fun v Y' I' L' h => by obtain ⟨r, rfl, rfl, h⟩ := h; exact kk _ _ _ h)
theorem cV3_G (C : Cx p s m args c cc nL own G base) {x0 x1 x2 : Value} {F : Option Value → MY → MI → ML → Prop} (hM : Ct l y bytes mL ret rm G base (.ref b :: [x0, x1, x2]) Y I L (F)) (hB : CV own idx ci y bytes mL ret 3) (hR : RM R rm mL cells slots) (hst : (rest.map fun v => v.category).sum ≤ 8) (hA : Is base Y b (.inl ci)) (hd : decode cc pc = .ok (.invokevirtual idx, 3)) (kk : ∀ v Y' I' L', F v Y' I' L' → Rn p l e R s m args below meth c nL G base Q (pc + 3) lo (v.toList ++ rest) Y' I' L' (cells + rm.cells) (slots + rm.slots)) : Rn p l e R s m args below meth c nL G base Q pc lo (x2 :: x1 :: x0 :: .ref b :: rest) Y I L cells slots := r_runV (As := [x0, x1, x2]) (rest := rest) C hM hB hR hst hA hd kk
theorem cV4_PI (C : Cx p s m args c cc nL own G base) {x0 x1 x2 x3 : Value} {r : Int} (hM : Ct l y bytes mL ret (rmz f lc) G base (.ref b :: [x0, x1, x2, x3]) Y I L (PI r Y I L)) (hB : CV own idx ci y bytes mL ret 4) (hR : RM R (rmz f lc) mL cells slots) (hst : (rest.map fun v => v.category).sum ≤ 8) (hA : Is base Y b (.inl ci)) (hd : decode cc pc = .ok (.invokevirtual idx, 3)) (kk : Rn p l e R s m args below meth c nL G base Q (pc + 3) lo (.int (iI r) :: rest) Y I L cells slots) : Rn p l e R s m args below meth c nL G base Q pc lo (x3 :: x2 :: x1 :: x0 :: .ref b :: rest) Y I L cells slots := r_runV (As := [x0, x1, x2, x3]) (rest := rest) C hM hB hR hst hA hd (fun v Y' I' L' h => by obtain ⟨rfl, rfl, rfl, rfl⟩ := h; exact kk)
theorem cV4_PL (C : Cx p s m args c cc nL own G base) {x0 x1 x2 x3 : Value} {r : Int} (hM : Ct l y bytes mL ret (rmz f lc) G base (.ref b :: [x0, x1, x2, x3]) Y I L (PL r Y I L)) (hB : CV own idx ci y bytes mL ret 4) (hR : RM R (rmz f lc) mL cells slots) (hst : (rest.map fun v => v.category).sum ≤ 8) (hA : Is base Y b (.inl ci)) (hd : decode cc pc = .ok (.invokevirtual idx, 3)) (kk : Rn p l e R s m args below meth c nL G base Q (pc + 3) lo (.long (lI r) :: rest) Y I L cells slots) : Rn p l e R s m args below meth c nL G base Q pc lo (x3 :: x2 :: x1 :: x0 :: .ref b :: rest) Y I L cells slots := r_runV (As := [x0, x1, x2, x3]) (rest := rest) C hM hB hR hst hA hd (fun v Y' I' L' h => by obtain ⟨rfl, rfl, rfl, rfl⟩ := h; exact kk)
theorem cV4_PA (C : Cx p s m args c cc nL own G base) {x0 x1 x2 x3 : Value} {r : Nat} (hM : Ct l y bytes mL ret (rmz f lc) G base (.ref b :: [x0, x1, x2, x3]) Y I L (PA r Y I L)) (hB : CV own idx ci y bytes mL ret 4) (hR : RM R (rmz f lc) mL cells slots) (hst : (rest.map fun v => v.category).sum ≤ 8) (hA : Is base Y b (.inl ci)) (hd : decode cc pc = .ok (.invokevirtual idx, 3)) (kk : Rn p l e R s m args below meth c nL G base Q (pc + 3) lo (.ref r :: rest) Y I L cells slots) : Rn p l e R s m args below meth c nL G base Q pc lo (x3 :: x2 :: x1 :: x0 :: .ref b :: rest) Y I L cells slots := r_runV (As := [x0, x1, x2, x3]) (rest := rest) C hM hB hR hst hA hd (fun v Y' I' L' h => by obtain ⟨rfl, rfl, rfl, rfl⟩ := h; exact kk)
theorem cV4_EV (C : Cx p s m args c cc nL own G base) {x0 x1 x2 x3 : Value} {F : MI → ML → Prop} (hM : Ct l y bytes mL ret (rmz f lc) G base (.ref b :: [x0, x1, x2, x3]) Y I L (EV Y F)) (hB : CV own idx ci y bytes mL ret 4) (hR : RM R (rmz f lc) mL cells slots) (hst : (rest.map fun v => v.category).sum ≤ 8) (hA : Is base Y b (.inl ci)) (hd : decode cc pc = .ok (.invokevirtual idx, 3)) (kk : ∀ I' L', F I' L' → Rn p l e R s m args below meth c nL G base Q (pc + 3) lo rest Y I' L' cells slots) : Rn p l e R s m args below meth c nL G base Q pc lo (x3 :: x2 :: x1 :: x0 :: .ref b :: rest) Y I L cells slots := r_runV (As := [x0, x1, x2, x3]) (rest := rest) C hM hB hR hst hA hd (fun v Y' I' L' h => by obtain ⟨rfl, rfl, h⟩ := h; exact kk _ _ h)
theorem cV4_EI (C : Cx p s m args c cc nL own G base) {x0 x1 x2 x3 : Value} {F : Int → MI → ML → Prop} (hM : Ct l y bytes mL ret (rmz f lc) G base (.ref b :: [x0, x1, x2, x3]) Y I L (EI Y F)) (hB : CV own idx ci y bytes mL ret 4) (hR : RM R (rmz f lc) mL cells slots) (hst : (rest.map fun v => v.category).sum ≤ 8) (hA : Is base Y b (.inl ci)) (hd : decode cc pc = .ok (.invokevirtual idx, 3)) (kk : ∀ r I' L', F r I' L' → Rn p l e R s m args below meth c nL G base Q (pc + 3) lo (.int (iI r) :: rest) Y I' L' cells slots) : Rn p l e R s m args below meth c nL G base Q pc lo (x3 :: x2 :: x1 :: x0 :: .ref b :: rest) Y I L cells slots := r_runV (As := [x0, x1, x2, x3]) (rest := rest) C hM hB hR hst hA hd (fun v Y' I' L' h => by obtain ⟨r, rfl, rfl, h⟩ := h; exact kk _ _ _ h)
theorem cV4_G (C : Cx p s m args c cc nL own G base) {x0 x1 x2 x3 : Value} {F : Option Value → MY → MI → ML → Prop} (hM : Ct l y bytes mL ret rm G base (.ref b :: [x0, x1, x2, x3]) Y I L (F)) (hB : CV own idx ci y bytes mL ret 4) (hR : RM R rm mL cells slots) (hst : (rest.map fun v => v.category).sum ≤ 8) (hA : Is base Y b (.inl ci)) (hd : decode cc pc = .ok (.invokevirtual idx, 3)) (kk : ∀ v Y' I' L', F v Y' I' L' → Rn p l e R s m args below meth c nL G base Q (pc + 3) lo (v.toList ++ rest) Y' I' L' (cells + rm.cells) (slots + rm.slots)) : Rn p l e R s m args below meth c nL G base Q pc lo (x3 :: x2 :: x1 :: x0 :: .ref b :: rest) Y I L cells slots := r_runV (As := [x0, x1, x2, x3]) (rest := rest) C hM hB hR hst hA hd kk
theorem cV5_PI (C : Cx p s m args c cc nL own G base) {x0 x1 x2 x3 x4 : Value} {r : Int} (hM : Ct l y bytes mL ret (rmz f lc) G base (.ref b :: [x0, x1, x2, x3, x4]) Y I L (PI r Y I L)) (hB : CV own idx ci y bytes mL ret 5) (hR : RM R (rmz f lc) mL cells slots) (hst : (rest.map fun v => v.category).sum ≤ 8) (hA : Is base Y b (.inl ci)) (hd : decode cc pc = .ok (.invokevirtual idx, 3)) (kk : Rn p l e R s m args below meth c nL G base Q (pc + 3) lo (.int (iI r) :: rest) Y I L cells slots) : Rn p l e R s m args below meth c nL G base Q pc lo (x4 :: x3 :: x2 :: x1 :: x0 :: .ref b :: rest) Y I L cells slots := r_runV (As := [x0, x1, x2, x3, x4]) (rest := rest) C hM hB hR hst hA hd (fun v Y' I' L' h => by obtain ⟨rfl, rfl, rfl, rfl⟩ := h; exact kk)
theorem cV5_PL (C : Cx p s m args c cc nL own G base) {x0 x1 x2 x3 x4 : Value} {r : Int} (hM : Ct l y bytes mL ret (rmz f lc) G base (.ref b :: [x0, x1, x2, x3, x4]) Y I L (PL r Y I L)) (hB : CV own idx ci y bytes mL ret 5) (hR : RM R (rmz f lc) mL cells slots) (hst : (rest.map fun v => v.category).sum ≤ 8) (hA : Is base Y b (.inl ci)) (hd : decode cc pc = .ok (.invokevirtual idx, 3)) (kk : Rn p l e R s m args below meth c nL G base Q (pc + 3) lo (.long (lI r) :: rest) Y I L cells slots) : Rn p l e R s m args below meth c nL G base Q pc lo (x4 :: x3 :: x2 :: x1 :: x0 :: .ref b :: rest) Y I L cells slots := r_runV (As := [x0, x1, x2, x3, x4]) (rest := rest) C hM hB hR hst hA hd (fun v Y' I' L' h => by obtain ⟨rfl, rfl, rfl, rfl⟩ := h; exact kk)
theorem cV5_PA (C : Cx p s m args c cc nL own G base) {x0 x1 x2 x3 x4 : Value} {r : Nat} (hM : Ct l y bytes mL ret (rmz f lc) G base (.ref b :: [x0, x1, x2, x3, x4]) Y I L (PA r Y I L)) (hB : CV own idx ci y bytes mL ret 5) (hR : RM R (rmz f lc) mL cells slots) (hst : (rest.map fun v => v.category).sum ≤ 8) (hA : Is base Y b (.inl ci)) (hd : decode cc pc = .ok (.invokevirtual idx, 3)) (kk : Rn p l e R s m args below meth c nL G base Q (pc + 3) lo (.ref r :: rest) Y I L cells slots) : Rn p l e R s m args below meth c nL G base Q pc lo (x4 :: x3 :: x2 :: x1 :: x0 :: .ref b :: rest) Y I L cells slots := r_runV (As := [x0, x1, x2, x3, x4]) (rest := rest) C hM hB hR hst hA hd (fun v Y' I' L' h => by obtain ⟨rfl, rfl, rfl, rfl⟩ := h; exact kk)
theorem cV5_EV (C : Cx p s m args c cc nL own G base) {x0 x1 x2 x3 x4 : Value} {F : MI → ML → Prop} (hM : Ct l y bytes mL ret (rmz f lc) G base (.ref b :: [x0, x1, x2, x3, x4]) Y I L (EV Y F)) (hB : CV own idx ci y bytes mL ret 5) (hR : RM R (rmz f lc) mL cells slots) (hst : (rest.map fun v => v.category).sum ≤ 8) (hA : Is base Y b (.inl ci)) (hd : decode cc pc = .ok (.invokevirtual idx, 3)) (kk : ∀ I' L', F I' L' → Rn p l e R s m args below meth c nL G base Q (pc + 3) lo rest Y I' L' cells slots) : Rn p l e R s m args below meth c nL G base Q pc lo (x4 :: x3 :: x2 :: x1 :: x0 :: .ref b :: rest) Y I L cells slots := r_runV (As := [x0, x1, x2, x3, x4]) (rest := rest) C hM hB hR hst hA hd (fun v Y' I' L' h => by obtain ⟨rfl, rfl, h⟩ := h; exact kk _ _ h)
theorem cV5_EI (C : Cx p s m args c cc nL own G base) {x0 x1 x2 x3 x4 : Value} {F : Int → MI → ML → Prop} (hM : Ct l y bytes mL ret (rmz f lc) G base (.ref b :: [x0, x1, x2, x3, x4]) Y I L (EI Y F)) (hB : CV own idx ci y bytes mL ret 5) (hR : RM R (rmz f lc) mL cells slots) (hst : (rest.map fun v => v.category).sum ≤ 8) (hA : Is base Y b (.inl ci)) (hd : decode cc pc = .ok (.invokevirtual idx, 3)) (kk : ∀ r I' L', F r I' L' → Rn p l e R s m args below meth c nL G base Q (pc + 3) lo (.int (iI r) :: rest) Y I' L' cells slots) : Rn p l e R s m args below meth c nL G base Q pc lo (x4 :: x3 :: x2 :: x1 :: x0 :: .ref b :: rest) Y I L cells slots := r_runV (As := [x0, x1, x2, x3, x4]) (rest := rest) C hM hB hR hst hA hd (fun v Y' I' L' h => by obtain ⟨r, rfl, rfl, h⟩ := h; exact kk _ _ _ h)
theorem cV5_G (C : Cx p s m args c cc nL own G base) {x0 x1 x2 x3 x4 : Value} {F : Option Value → MY → MI → ML → Prop} (hM : Ct l y bytes mL ret rm G base (.ref b :: [x0, x1, x2, x3, x4]) Y I L (F)) (hB : CV own idx ci y bytes mL ret 5) (hR : RM R rm mL cells slots) (hst : (rest.map fun v => v.category).sum ≤ 8) (hA : Is base Y b (.inl ci)) (hd : decode cc pc = .ok (.invokevirtual idx, 3)) (kk : ∀ v Y' I' L', F v Y' I' L' → Rn p l e R s m args below meth c nL G base Q (pc + 3) lo (v.toList ++ rest) Y' I' L' (cells + rm.cells) (slots + rm.slots)) : Rn p l e R s m args below meth c nL G base Q pc lo (x4 :: x3 :: x2 :: x1 :: x0 :: .ref b :: rest) Y I L cells slots := r_runV (As := [x0, x1, x2, x3, x4]) (rest := rest) C hM hB hR hst hA hd kk
theorem cS0_PI (C : Cx p s m args c cc nL own G base) {r : Int} (hM : Ct l y bytes mL ret (rmz f lc) G base ([]) Y I L (PI r Y I L)) (hB : CS own idx y bytes mL ret 0) (hR : RM R (rmz f lc) mL cells slots) (hst : (rest.map fun v => v.category).sum ≤ 8) (hd : decode cc pc = .ok (.invokestatic idx, 3)) (kk : Rn p l e R s m args below meth c nL G base Q (pc + 3) lo (.int (iI r) :: rest) Y I L cells slots) : Rn p l e R s m args below meth c nL G base Q pc lo rest Y I L cells slots := r_runS (As := []) (rest := rest) C hM hB hR hst hd (fun v Y' I' L' h => by obtain ⟨rfl, rfl, rfl, rfl⟩ := h; exact kk)
theorem cS0_PL (C : Cx p s m args c cc nL own G base) {r : Int} (hM : Ct l y bytes mL ret (rmz f lc) G base ([]) Y I L (PL r Y I L)) (hB : CS own idx y bytes mL ret 0) (hR : RM R (rmz f lc) mL cells slots) (hst : (rest.map fun v => v.category).sum ≤ 8) (hd : decode cc pc = .ok (.invokestatic idx, 3)) (kk : Rn p l e R s m args below meth c nL G base Q (pc + 3) lo (.long (lI r) :: rest) Y I L cells slots) : Rn p l e R s m args below meth c nL G base Q pc lo rest Y I L cells slots := r_runS (As := []) (rest := rest) C hM hB hR hst hd (fun v Y' I' L' h => by obtain ⟨rfl, rfl, rfl, rfl⟩ := h; exact kk)
theorem cS0_PA (C : Cx p s m args c cc nL own G base) {r : Nat} (hM : Ct l y bytes mL ret (rmz f lc) G base ([]) Y I L (PA r Y I L)) (hB : CS own idx y bytes mL ret 0) (hR : RM R (rmz f lc) mL cells slots) (hst : (rest.map fun v => v.category).sum ≤ 8) (hd : decode cc pc = .ok (.invokestatic idx, 3)) (kk : Rn p l e R s m args below meth c nL G base Q (pc + 3) lo (.ref r :: rest) Y I L cells slots) : Rn p l e R s m args below meth c nL G base Q pc lo rest Y I L cells slots := r_runS (As := []) (rest := rest) C hM hB hR hst hd (fun v Y' I' L' h => by obtain ⟨rfl, rfl, rfl, rfl⟩ := h; exact kk)
theorem cS0_EV (C : Cx p s m args c cc nL own G base) {F : MI → ML → Prop} (hM : Ct l y bytes mL ret (rmz f lc) G base ([]) Y I L (EV Y F)) (hB : CS own idx y bytes mL ret 0) (hR : RM R (rmz f lc) mL cells slots) (hst : (rest.map fun v => v.category).sum ≤ 8) (hd : decode cc pc = .ok (.invokestatic idx, 3)) (kk : ∀ I' L', F I' L' → Rn p l e R s m args below meth c nL G base Q (pc + 3) lo rest Y I' L' cells slots) : Rn p l e R s m args below meth c nL G base Q pc lo rest Y I L cells slots := r_runS (As := []) (rest := rest) C hM hB hR hst hd (fun v Y' I' L' h => by obtain ⟨rfl, rfl, h⟩ := h; exact kk _ _ h)
theorem cS0_EI (C : Cx p s m args c cc nL own G base) {F : Int → MI → ML → Prop} (hM : Ct l y bytes mL ret (rmz f lc) G base ([]) Y I L (EI Y F)) (hB : CS own idx y bytes mL ret 0) (hR : RM R (rmz f lc) mL cells slots) (hst : (rest.map fun v => v.category).sum ≤ 8) (hd : decode cc pc = .ok (.invokestatic idx, 3)) (kk : ∀ r I' L', F r I' L' → Rn p l e R s m args below meth c nL G base Q (pc + 3) lo (.int (iI r) :: rest) Y I' L' cells slots) : Rn p l e R s m args below meth c nL G base Q pc lo rest Y I L cells slots := r_runS (As := []) (rest := rest) C hM hB hR hst hd (fun v Y' I' L' h => by obtain ⟨r, rfl, rfl, h⟩ := h; exact kk _ _ _ h)
theorem cS0_G (C : Cx p s m args c cc nL own G base) {F : Option Value → MY → MI → ML → Prop} (hM : Ct l y bytes mL ret rm G base ([]) Y I L (F)) (hB : CS own idx y bytes mL ret 0) (hR : RM R rm mL cells slots) (hst : (rest.map fun v => v.category).sum ≤ 8) (hd : decode cc pc = .ok (.invokestatic idx, 3)) (kk : ∀ v Y' I' L', F v Y' I' L' → Rn p l e R s m args below meth c nL G base Q (pc + 3) lo (v.toList ++ rest) Y' I' L' (cells + rm.cells) (slots + rm.slots)) : Rn p l e R s m args below meth c nL G base Q pc lo rest Y I L cells slots := r_runS (As := []) (rest := rest) C hM hB hR hst hd kk
theorem cS1_PI (C : Cx p s m args c cc nL own G base) {x0 : Value} {r : Int} (hM : Ct l y bytes mL ret (rmz f lc) G base ([x0]) Y I L (PI r Y I L)) (hB : CS own idx y bytes mL ret 1) (hR : RM R (rmz f lc) mL cells slots) (hst : (rest.map fun v => v.category).sum ≤ 8) (hd : decode cc pc = .ok (.invokestatic idx, 3)) (kk : Rn p l e R s m args below meth c nL G base Q (pc + 3) lo (.int (iI r) :: rest) Y I L cells slots) : Rn p l e R s m args below meth c nL G base Q pc lo (x0 :: rest) Y I L cells slots := r_runS (As := [x0]) (rest := rest) C hM hB hR hst hd (fun v Y' I' L' h => by obtain ⟨rfl, rfl, rfl, rfl⟩ := h; exact kk)
theorem cS1_PL (C : Cx p s m args c cc nL own G base) {x0 : Value} {r : Int} (hM : Ct l y bytes mL ret (rmz f lc) G base ([x0]) Y I L (PL r Y I L)) (hB : CS own idx y bytes mL ret 1) (hR : RM R (rmz f lc) mL cells slots) (hst : (rest.map fun v => v.category).sum ≤ 8) (hd : decode cc pc = .ok (.invokestatic idx, 3)) (kk : Rn p l e R s m args below meth c nL G base Q (pc + 3) lo (.long (lI r) :: rest) Y I L cells slots) : Rn p l e R s m args below meth c nL G base Q pc lo (x0 :: rest) Y I L cells slots := r_runS (As := [x0]) (rest := rest) C hM hB hR hst hd (fun v Y' I' L' h => by obtain ⟨rfl, rfl, rfl, rfl⟩ := h; exact kk)
theorem cS1_PA (C : Cx p s m args c cc nL own G base) {x0 : Value} {r : Nat} (hM : Ct l y bytes mL ret (rmz f lc) G base ([x0]) Y I L (PA r Y I L)) (hB : CS own idx y bytes mL ret 1) (hR : RM R (rmz f lc) mL cells slots) (hst : (rest.map fun v => v.category).sum ≤ 8) (hd : decode cc pc = .ok (.invokestatic idx, 3)) (kk : Rn p l e R s m args below meth c nL G base Q (pc + 3) lo (.ref r :: rest) Y I L cells slots) : Rn p l e R s m args below meth c nL G base Q pc lo (x0 :: rest) Y I L cells slots := r_runS (As := [x0]) (rest := rest) C hM hB hR hst hd (fun v Y' I' L' h => by obtain ⟨rfl, rfl, rfl, rfl⟩ := h; exact kk)
theorem cS1_EV (C : Cx p s m args c cc nL own G base) {x0 : Value} {F : MI → ML → Prop} (hM : Ct l y bytes mL ret (rmz f lc) G base ([x0]) Y I L (EV Y F)) (hB : CS own idx y bytes mL ret 1) (hR : RM R (rmz f lc) mL cells slots) (hst : (rest.map fun v => v.category).sum ≤ 8) (hd : decode cc pc = .ok (.invokestatic idx, 3)) (kk : ∀ I' L', F I' L' → Rn p l e R s m args below meth c nL G base Q (pc + 3) lo rest Y I' L' cells slots) : Rn p l e R s m args below meth c nL G base Q pc lo (x0 :: rest) Y I L cells slots := r_runS (As := [x0]) (rest := rest) C hM hB hR hst hd (fun v Y' I' L' h => by obtain ⟨rfl, rfl, h⟩ := h; exact kk _ _ h)
theorem cS1_EI (C : Cx p s m args c cc nL own G base) {x0 : Value} {F : Int → MI → ML → Prop} (hM : Ct l y bytes mL ret (rmz f lc) G base ([x0]) Y I L (EI Y F)) (hB : CS own idx y bytes mL ret 1) (hR : RM R (rmz f lc) mL cells slots) (hst : (rest.map fun v => v.category).sum ≤ 8) (hd : decode cc pc = .ok (.invokestatic idx, 3)) (kk : ∀ r I' L', F r I' L' → Rn p l e R s m args below meth c nL G base Q (pc + 3) lo (.int (iI r) :: rest) Y I' L' cells slots) : Rn p l e R s m args below meth c nL G base Q pc lo (x0 :: rest) Y I L cells slots := r_runS (As := [x0]) (rest := rest) C hM hB hR hst hd (fun v Y' I' L' h => by obtain ⟨r, rfl, rfl, h⟩ := h; exact kk _ _ _ h)
theorem cS1_G (C : Cx p s m args c cc nL own G base) {x0 : Value} {F : Option Value → MY → MI → ML → Prop} (hM : Ct l y bytes mL ret rm G base ([x0]) Y I L (F)) (hB : CS own idx y bytes mL ret 1) (hR : RM R rm mL cells slots) (hst : (rest.map fun v => v.category).sum ≤ 8) (hd : decode cc pc = .ok (.invokestatic idx, 3)) (kk : ∀ v Y' I' L', F v Y' I' L' → Rn p l e R s m args below meth c nL G base Q (pc + 3) lo (v.toList ++ rest) Y' I' L' (cells + rm.cells) (slots + rm.slots)) : Rn p l e R s m args below meth c nL G base Q pc lo (x0 :: rest) Y I L cells slots := r_runS (As := [x0]) (rest := rest) C hM hB hR hst hd kk
theorem cS2_PI (C : Cx p s m args c cc nL own G base) {x0 x1 : Value} {r : Int} (hM : Ct l y bytes mL ret (rmz f lc) G base ([x0, x1]) Y I L (PI r Y I L)) (hB : CS own idx y bytes mL ret 2) (hR : RM R (rmz f lc) mL cells slots) (hst : (rest.map fun v => v.category).sum ≤ 8) (hd : decode cc pc = .ok (.invokestatic idx, 3)) (kk : Rn p l e R s m args below meth c nL G base Q (pc + 3) lo (.int (iI r) :: rest) Y I L cells slots) : Rn p l e R s m args below meth c nL G base Q pc lo (x1 :: x0 :: rest) Y I L cells slots := r_runS (As := [x0, x1]) (rest := rest) C hM hB hR hst hd (fun v Y' I' L' h => by obtain ⟨rfl, rfl, rfl, rfl⟩ := h; exact kk)
theorem cS2_PL (C : Cx p s m args c cc nL own G base) {x0 x1 : Value} {r : Int} (hM : Ct l y bytes mL ret (rmz f lc) G base ([x0, x1]) Y I L (PL r Y I L)) (hB : CS own idx y bytes mL ret 2) (hR : RM R (rmz f lc) mL cells slots) (hst : (rest.map fun v => v.category).sum ≤ 8) (hd : decode cc pc = .ok (.invokestatic idx, 3)) (kk : Rn p l e R s m args below meth c nL G base Q (pc + 3) lo (.long (lI r) :: rest) Y I L cells slots) : Rn p l e R s m args below meth c nL G base Q pc lo (x1 :: x0 :: rest) Y I L cells slots := r_runS (As := [x0, x1]) (rest := rest) C hM hB hR hst hd (fun v Y' I' L' h => by obtain ⟨rfl, rfl, rfl, rfl⟩ := h; exact kk)
theorem cS2_PA (C : Cx p s m args c cc nL own G base) {x0 x1 : Value} {r : Nat} (hM : Ct l y bytes mL ret (rmz f lc) G base ([x0, x1]) Y I L (PA r Y I L)) (hB : CS own idx y bytes mL ret 2) (hR : RM R (rmz f lc) mL cells slots) (hst : (rest.map fun v => v.category).sum ≤ 8) (hd : decode cc pc = .ok (.invokestatic idx, 3)) (kk : Rn p l e R s m args below meth c nL G base Q (pc + 3) lo (.ref r :: rest) Y I L cells slots) : Rn p l e R s m args below meth c nL G base Q pc lo (x1 :: x0 :: rest) Y I L cells slots := r_runS (As := [x0, x1]) (rest := rest) C hM hB hR hst hd (fun v Y' I' L' h => by obtain ⟨rfl, rfl, rfl, rfl⟩ := h; exact kk)
theorem cS2_EV (C : Cx p s m args c cc nL own G base) {x0 x1 : Value} {F : MI → ML → Prop} (hM : Ct l y bytes mL ret (rmz f lc) G base ([x0, x1]) Y I L (EV Y F)) (hB : CS own idx y bytes mL ret 2) (hR : RM R (rmz f lc) mL cells slots) (hst : (rest.map fun v => v.category).sum ≤ 8) (hd : decode cc pc = .ok (.invokestatic idx, 3)) (kk : ∀ I' L', F I' L' → Rn p l e R s m args below meth c nL G base Q (pc + 3) lo rest Y I' L' cells slots) : Rn p l e R s m args below meth c nL G base Q pc lo (x1 :: x0 :: rest) Y I L cells slots := r_runS (As := [x0, x1]) (rest := rest) C hM hB hR hst hd (fun v Y' I' L' h => by obtain ⟨rfl, rfl, h⟩ := h; exact kk _ _ h)
theorem cS2_EI (C : Cx p s m args c cc nL own G base) {x0 x1 : Value} {F : Int → MI → ML → Prop} (hM : Ct l y bytes mL ret (rmz f lc) G base ([x0, x1]) Y I L (EI Y F)) (hB : CS own idx y bytes mL ret 2) (hR : RM R (rmz f lc) mL cells slots) (hst : (rest.map fun v => v.category).sum ≤ 8) (hd : decode cc pc = .ok (.invokestatic idx, 3)) (kk : ∀ r I' L', F r I' L' → Rn p l e R s m args below meth c nL G base Q (pc + 3) lo (.int (iI r) :: rest) Y I' L' cells slots) : Rn p l e R s m args below meth c nL G base Q pc lo (x1 :: x0 :: rest) Y I L cells slots := r_runS (As := [x0, x1]) (rest := rest) C hM hB hR hst hd (fun v Y' I' L' h => by obtain ⟨r, rfl, rfl, h⟩ := h; exact kk _ _ _ h)
theorem cS2_G (C : Cx p s m args c cc nL own G base) {x0 x1 : Value} {F : Option Value → MY → MI → ML → Prop} (hM : Ct l y bytes mL ret rm G base ([x0, x1]) Y I L (F)) (hB : CS own idx y bytes mL ret 2) (hR : RM R rm mL cells slots) (hst : (rest.map fun v => v.category).sum ≤ 8) (hd : decode cc pc = .ok (.invokestatic idx, 3)) (kk : ∀ v Y' I' L', F v Y' I' L' → Rn p l e R s m args below meth c nL G base Q (pc + 3) lo (v.toList ++ rest) Y' I' L' (cells + rm.cells) (slots + rm.slots)) : Rn p l e R s m args below meth c nL G base Q pc lo (x1 :: x0 :: rest) Y I L cells slots := r_runS (As := [x0, x1]) (rest := rest) C hM hB hR hst hd kk
theorem cS3_PI (C : Cx p s m args c cc nL own G base) {x0 x1 x2 : Value} {r : Int} (hM : Ct l y bytes mL ret (rmz f lc) G base ([x0, x1, x2]) Y I L (PI r Y I L)) (hB : CS own idx y bytes mL ret 3) (hR : RM R (rmz f lc) mL cells slots) (hst : (rest.map fun v => v.category).sum ≤ 8) (hd : decode cc pc = .ok (.invokestatic idx, 3)) (kk : Rn p l e R s m args below meth c nL G base Q (pc + 3) lo (.int (iI r) :: rest) Y I L cells slots) : Rn p l e R s m args below meth c nL G base Q pc lo (x2 :: x1 :: x0 :: rest) Y I L cells slots := r_runS (As := [x0, x1, x2]) (rest := rest) C hM hB hR hst hd (fun v Y' I' L' h => by obtain ⟨rfl, rfl, rfl, rfl⟩ := h; exact kk)
theorem cS3_PL (C : Cx p s m args c cc nL own G base) {x0 x1 x2 : Value} {r : Int} (hM : Ct l y bytes mL ret (rmz f lc) G base ([x0, x1, x2]) Y I L (PL r Y I L)) (hB : CS own idx y bytes mL ret 3) (hR : RM R (rmz f lc) mL cells slots) (hst : (rest.map fun v => v.category).sum ≤ 8) (hd : decode cc pc = .ok (.invokestatic idx, 3)) (kk : Rn p l e R s m args below meth c nL G base Q (pc + 3) lo (.long (lI r) :: rest) Y I L cells slots) : Rn p l e R s m args below meth c nL G base Q pc lo (x2 :: x1 :: x0 :: rest) Y I L cells slots := r_runS (As := [x0, x1, x2]) (rest := rest) C hM hB hR hst hd (fun v Y' I' L' h => by obtain ⟨rfl, rfl, rfl, rfl⟩ := h; exact kk)
theorem cS3_PA (C : Cx p s m args c cc nL own G base) {x0 x1 x2 : Value} {r : Nat} (hM : Ct l y bytes mL ret (rmz f lc) G base ([x0, x1, x2]) Y I L (PA r Y I L)) (hB : CS own idx y bytes mL ret 3) (hR : RM R (rmz f lc) mL cells slots) (hst : (rest.map fun v => v.category).sum ≤ 8) (hd : decode cc pc = .ok (.invokestatic idx, 3)) (kk : Rn p l e R s m args below meth c nL G base Q (pc + 3) lo (.ref r :: rest) Y I L cells slots) : Rn p l e R s m args below meth c nL G base Q pc lo (x2 :: x1 :: x0 :: rest) Y I L cells slots := r_runS (As := [x0, x1, x2]) (rest := rest) C hM hB hR hst hd (fun v Y' I' L' h => by obtain ⟨rfl, rfl, rfl, rfl⟩ := h; exact kk)
theorem cS3_EV (C : Cx p s m args c cc nL own G base) {x0 x1 x2 : Value} {F : MI → ML → Prop} (hM : Ct l y bytes mL ret (rmz f lc) G base ([x0, x1, x2]) Y I L (EV Y F)) (hB : CS own idx y bytes mL ret 3) (hR : RM R (rmz f lc) mL cells slots) (hst : (rest.map fun v => v.category).sum ≤ 8) (hd : decode cc pc = .ok (.invokestatic idx, 3)) (kk : ∀ I' L', F I' L' → Rn p l e R s m args below meth c nL G base Q (pc + 3) lo rest Y I' L' cells slots) : Rn p l e R s m args below meth c nL G base Q pc lo (x2 :: x1 :: x0 :: rest) Y I L cells slots := r_runS (As := [x0, x1, x2]) (rest := rest) C hM hB hR hst hd (fun v Y' I' L' h => by obtain ⟨rfl, rfl, h⟩ := h; exact kk _ _ h)
theorem cS3_EI (C : Cx p s m args c cc nL own G base) {x0 x1 x2 : Value} {F : Int → MI → ML → Prop} (hM : Ct l y bytes mL ret (rmz f lc) G base ([x0, x1, x2]) Y I L (EI Y F)) (hB : CS own idx y bytes mL ret 3) (hR : RM R (rmz f lc) mL cells slots) (hst : (rest.map fun v => v.category).sum ≤ 8) (hd : decode cc pc = .ok (.invokestatic idx, 3)) (kk : ∀ r I' L', F r I' L' → Rn p l e R s m args below meth c nL G base Q (pc + 3) lo (.int (iI r) :: rest) Y I' L' cells slots) : Rn p l e R s m args below meth c nL G base Q pc lo (x2 :: x1 :: x0 :: rest) Y I L cells slots := r_runS (As := [x0, x1, x2]) (rest := rest) C hM hB hR hst hd (fun v Y' I' L' h => by obtain ⟨r, rfl, rfl, h⟩ := h; exact kk _ _ _ h)
theorem cS3_G (C : Cx p s m args c cc nL own G base) {x0 x1 x2 : Value} {F : Option Value → MY → MI → ML → Prop} (hM : Ct l y bytes mL ret rm G base ([x0, x1, x2]) Y I L (F)) (hB : CS own idx y bytes mL ret 3) (hR : RM R rm mL cells slots) (hst : (rest.map fun v => v.category).sum ≤ 8) (hd : decode cc pc = .ok (.invokestatic idx, 3)) (kk : ∀ v Y' I' L', F v Y' I' L' → Rn p l e R s m args below meth c nL G base Q (pc + 3) lo (v.toList ++ rest) Y' I' L' (cells + rm.cells) (slots + rm.slots)) : Rn p l e R s m args below meth c nL G base Q pc lo (x2 :: x1 :: x0 :: rest) Y I L cells slots := r_runS (As := [x0, x1, x2]) (rest := rest) C hM hB hR hst hd kk
theorem cS4_PI (C : Cx p s m args c cc nL own G base) {x0 x1 x2 x3 : Value} {r : Int} (hM : Ct l y bytes mL ret (rmz f lc) G base ([x0, x1, x2, x3]) Y I L (PI r Y I L)) (hB : CS own idx y bytes mL ret 4) (hR : RM R (rmz f lc) mL cells slots) (hst : (rest.map fun v => v.category).sum ≤ 8) (hd : decode cc pc = .ok (.invokestatic idx, 3)) (kk : Rn p l e R s m args below meth c nL G base Q (pc + 3) lo (.int (iI r) :: rest) Y I L cells slots) : Rn p l e R s m args below meth c nL G base Q pc lo (x3 :: x2 :: x1 :: x0 :: rest) Y I L cells slots := r_runS (As := [x0, x1, x2, x3]) (rest := rest) C hM hB hR hst hd (fun v Y' I' L' h => by obtain ⟨rfl, rfl, rfl, rfl⟩ := h; exact kk)
theorem cS4_PL (C : Cx p s m args c cc nL own G base) {x0 x1 x2 x3 : Value} {r : Int} (hM : Ct l y bytes mL ret (rmz f lc) G base ([x0, x1, x2, x3]) Y I L (PL r Y I L)) (hB : CS own idx y bytes mL ret 4) (hR : RM R (rmz f lc) mL cells slots) (hst : (rest.map fun v => v.category).sum ≤ 8) (hd : decode cc pc = .ok (.invokestatic idx, 3)) (kk : Rn p l e R s m args below meth c nL G base Q (pc + 3) lo (.long (lI r) :: rest) Y I L cells slots) : Rn p l e R s m args below meth c nL G base Q pc lo (x3 :: x2 :: x1 :: x0 :: rest) Y I L cells slots := r_runS (As := [x0, x1, x2, x3]) (rest := rest) C hM hB hR hst hd (fun v Y' I' L' h => by obtain ⟨rfl, rfl, rfl, rfl⟩ := h; exact kk)
theorem cS4_PA (C : Cx p s m args c cc nL own G base) {x0 x1 x2 x3 : Value} {r : Nat} (hM : Ct l y bytes mL ret (rmz f lc) G base ([x0, x1, x2, x3]) Y I L (PA r Y I L)) (hB : CS own idx y bytes mL ret 4) (hR : RM R (rmz f lc) mL cells slots) (hst : (rest.map fun v => v.category).sum ≤ 8) (hd : decode cc pc = .ok (.invokestatic idx, 3)) (kk : Rn p l e R s m args below meth c nL G base Q (pc + 3) lo (.ref r :: rest) Y I L cells slots) : Rn p l e R s m args below meth c nL G base Q pc lo (x3 :: x2 :: x1 :: x0 :: rest) Y I L cells slots := r_runS (As := [x0, x1, x2, x3]) (rest := rest) C hM hB hR hst hd (fun v Y' I' L' h => by obtain ⟨rfl, rfl, rfl, rfl⟩ := h; exact kk)
theorem cS4_EV (C : Cx p s m args c cc nL own G base) {x0 x1 x2 x3 : Value} {F : MI → ML → Prop} (hM : Ct l y bytes mL ret (rmz f lc) G base ([x0, x1, x2, x3]) Y I L (EV Y F)) (hB : CS own idx y bytes mL ret 4) (hR : RM R (rmz f lc) mL cells slots) (hst : (rest.map fun v => v.category).sum ≤ 8) (hd : decode cc pc = .ok (.invokestatic idx, 3)) (kk : ∀ I' L', F I' L' → Rn p l e R s m args below meth c nL G base Q (pc + 3) lo rest Y I' L' cells slots) : Rn p l e R s m args below meth c nL G base Q pc lo (x3 :: x2 :: x1 :: x0 :: rest) Y I L cells slots := r_runS (As := [x0, x1, x2, x3]) (rest := rest) C hM hB hR hst hd (fun v Y' I' L' h => by obtain ⟨rfl, rfl, h⟩ := h; exact kk _ _ h)
theorem cS4_EI (C : Cx p s m args c cc nL own G base) {x0 x1 x2 x3 : Value} {F : Int → MI → ML → Prop} (hM : Ct l y bytes mL ret (rmz f lc) G base ([x0, x1, x2, x3]) Y I L (EI Y F)) (hB : CS own idx y bytes mL ret 4) (hR : RM R (rmz f lc) mL cells slots) (hst : (rest.map fun v => v.category).sum ≤ 8) (hd : decode cc pc = .ok (.invokestatic idx, 3)) (kk : ∀ r I' L', F r I' L' → Rn p l e R s m args below meth c nL G base Q (pc + 3) lo (.int (iI r) :: rest) Y I' L' cells slots) : Rn p l e R s m args below meth c nL G base Q pc lo (x3 :: x2 :: x1 :: x0 :: rest) Y I L cells slots := r_runS (As := [x0, x1, x2, x3]) (rest := rest) C hM hB hR hst hd (fun v Y' I' L' h => by obtain ⟨r, rfl, rfl, h⟩ := h; exact kk _ _ _ h)
theorem cS4_G (C : Cx p s m args c cc nL own G base) {x0 x1 x2 x3 : Value} {F : Option Value → MY → MI → ML → Prop} (hM : Ct l y bytes mL ret rm G base ([x0, x1, x2, x3]) Y I L (F)) (hB : CS own idx y bytes mL ret 4) (hR : RM R rm mL cells slots) (hst : (rest.map fun v => v.category).sum ≤ 8) (hd : decode cc pc = .ok (.invokestatic idx, 3)) (kk : ∀ v Y' I' L', F v Y' I' L' → Rn p l e R s m args below meth c nL G base Q (pc + 3) lo (v.toList ++ rest) Y' I' L' (cells + rm.cells) (slots + rm.slots)) : Rn p l e R s m args below meth c nL G base Q pc lo (x3 :: x2 :: x1 :: x0 :: rest) Y I L cells slots := r_runS (As := [x0, x1, x2, x3]) (rest := rest) C hM hB hR hst hd kk
theorem cS5_PI (C : Cx p s m args c cc nL own G base) {x0 x1 x2 x3 x4 : Value} {r : Int} (hM : Ct l y bytes mL ret (rmz f lc) G base ([x0, x1, x2, x3, x4]) Y I L (PI r Y I L)) (hB : CS own idx y bytes mL ret 5) (hR : RM R (rmz f lc) mL cells slots) (hst : (rest.map fun v => v.category).sum ≤ 8) (hd : decode cc pc = .ok (.invokestatic idx, 3)) (kk : Rn p l e R s m args below meth c nL G base Q (pc + 3) lo (.int (iI r) :: rest) Y I L cells slots) : Rn p l e R s m args below meth c nL G base Q pc lo (x4 :: x3 :: x2 :: x1 :: x0 :: rest) Y I L cells slots := r_runS (As := [x0, x1, x2, x3, x4]) (rest := rest) C hM hB hR hst hd (fun v Y' I' L' h => by obtain ⟨rfl, rfl, rfl, rfl⟩ := h; exact kk)
theorem cS5_PL (C : Cx p s m args c cc nL own G base) {x0 x1 x2 x3 x4 : Value} {r : Int} (hM : Ct l y bytes mL ret (rmz f lc) G base ([x0, x1, x2, x3, x4]) Y I L (PL r Y I L)) (hB : CS own idx y bytes mL ret 5) (hR : RM R (rmz f lc) mL cells slots) (hst : (rest.map fun v => v.category).sum ≤ 8) (hd : decode cc pc = .ok (.invokestatic idx, 3)) (kk : Rn p l e R s m args below meth c nL G base Q (pc + 3) lo (.long (lI r) :: rest) Y I L cells slots) : Rn p l e R s m args below meth c nL G base Q pc lo (x4 :: x3 :: x2 :: x1 :: x0 :: rest) Y I L cells slots := r_runS (As := [x0, x1, x2, x3, x4]) (rest := rest) C hM hB hR hst hd (fun v Y' I' L' h => by obtain ⟨rfl, rfl, rfl, rfl⟩ := h; exact kk)
theorem cS5_PA (C : Cx p s m args c cc nL own G base) {x0 x1 x2 x3 x4 : Value} {r : Nat} (hM : Ct l y bytes mL ret (rmz f lc) G base ([x0, x1, x2, x3, x4]) Y I L (PA r Y I L)) (hB : CS own idx y bytes mL ret 5) (hR : RM R (rmz f lc) mL cells slots) (hst : (rest.map fun v => v.category).sum ≤ 8) (hd : decode cc pc = .ok (.invokestatic idx, 3)) (kk : Rn p l e R s m args below meth c nL G base Q (pc + 3) lo (.ref r :: rest) Y I L cells slots) : Rn p l e R s m args below meth c nL G base Q pc lo (x4 :: x3 :: x2 :: x1 :: x0 :: rest) Y I L cells slots := r_runS (As := [x0, x1, x2, x3, x4]) (rest := rest) C hM hB hR hst hd (fun v Y' I' L' h => by obtain ⟨rfl, rfl, rfl, rfl⟩ := h; exact kk)
theorem cS5_EV (C : Cx p s m args c cc nL own G base) {x0 x1 x2 x3 x4 : Value} {F : MI → ML → Prop} (hM : Ct l y bytes mL ret (rmz f lc) G base ([x0, x1, x2, x3, x4]) Y I L (EV Y F)) (hB : CS own idx y bytes mL ret 5) (hR : RM R (rmz f lc) mL cells slots) (hst : (rest.map fun v => v.category).sum ≤ 8) (hd : decode cc pc = .ok (.invokestatic idx, 3)) (kk : ∀ I' L', F I' L' → Rn p l e R s m args below meth c nL G base Q (pc + 3) lo rest Y I' L' cells slots) : Rn p l e R s m args below meth c nL G base Q pc lo (x4 :: x3 :: x2 :: x1 :: x0 :: rest) Y I L cells slots := r_runS (As := [x0, x1, x2, x3, x4]) (rest := rest) C hM hB hR hst hd (fun v Y' I' L' h => by obtain ⟨rfl, rfl, h⟩ := h; exact kk _ _ h)
theorem cS5_EI (C : Cx p s m args c cc nL own G base) {x0 x1 x2 x3 x4 : Value} {F : Int → MI → ML → Prop} (hM : Ct l y bytes mL ret (rmz f lc) G base ([x0, x1, x2, x3, x4]) Y I L (EI Y F)) (hB : CS own idx y bytes mL ret 5) (hR : RM R (rmz f lc) mL cells slots) (hst : (rest.map fun v => v.category).sum ≤ 8) (hd : decode cc pc = .ok (.invokestatic idx, 3)) (kk : ∀ r I' L', F r I' L' → Rn p l e R s m args below meth c nL G base Q (pc + 3) lo (.int (iI r) :: rest) Y I' L' cells slots) : Rn p l e R s m args below meth c nL G base Q pc lo (x4 :: x3 :: x2 :: x1 :: x0 :: rest) Y I L cells slots := r_runS (As := [x0, x1, x2, x3, x4]) (rest := rest) C hM hB hR hst hd (fun v Y' I' L' h => by obtain ⟨r, rfl, rfl, h⟩ := h; exact kk _ _ _ h)
theorem cS5_G (C : Cx p s m args c cc nL own G base) {x0 x1 x2 x3 x4 : Value} {F : Option Value → MY → MI → ML → Prop} (hM : Ct l y bytes mL ret rm G base ([x0, x1, x2, x3, x4]) Y I L (F)) (hB : CS own idx y bytes mL ret 5) (hR : RM R rm mL cells slots) (hst : (rest.map fun v => v.category).sum ≤ 8) (hd : decode cc pc = .ok (.invokestatic idx, 3)) (kk : ∀ v Y' I' L', F v Y' I' L' → Rn p l e R s m args below meth c nL G base Q (pc + 3) lo (v.toList ++ rest) Y' I' L' (cells + rm.cells) (slots + rm.slots)) : Rn p l e R s m args below meth c nL G base Q pc lo (x4 :: x3 :: x2 :: x1 :: x0 :: rest) Y I L cells slots := r_runS (As := [x0, x1, x2, x3, x4]) (rest := rest) C hM hB hR hst hd kk
theorem cI0_EV (C : Cx p s m args c cc nL own G base) {F : MI → ML → Prop} (hM : Ct l y bytes mL none (rmz f lc) G base (.ref b :: []) Y I L (EV Y F)) (hB : CI own idx y bytes mL 0) (hR : RM R (rmz f lc) mL cells slots) (hst : (rest.map fun v => v.category).sum ≤ 8) (hd : decode cc pc = .ok (.invokespecial idx, 3)) (kk : ∀ I' L', F I' L' → Rn p l e R s m args below meth c nL G base Q (pc + 3) lo rest Y I' L' cells slots) : Rn p l e R s m args below meth c nL G base Q pc lo (.ref b :: rest) Y I L cells slots := r_runI (As := []) (rest := rest) C hM hB hR hst hd (fun v Y' I' L' h => by obtain ⟨rfl, rfl, h⟩ := h; exact kk _ _ h)
theorem cI0_G (C : Cx p s m args c cc nL own G base) {F : Option Value → MY → MI → ML → Prop} (hM : Ct l y bytes mL none rm G base (.ref b :: []) Y I L (F)) (hB : CI own idx y bytes mL 0) (hR : RM R rm mL cells slots) (hst : (rest.map fun v => v.category).sum ≤ 8) (hd : decode cc pc = .ok (.invokespecial idx, 3)) (kk : ∀ v Y' I' L', F v Y' I' L' → Rn p l e R s m args below meth c nL G base Q (pc + 3) lo (v.toList ++ rest) Y' I' L' (cells + rm.cells) (slots + rm.slots)) : Rn p l e R s m args below meth c nL G base Q pc lo (.ref b :: rest) Y I L cells slots := r_runI (As := []) (rest := rest) C hM hB hR hst hd kk
end ARI
end
section
set_option maxRecDepth 20000 in
theorem ck0 : CK 0 RX0 TX0 15 := ⟨rfl, rfl, by decide +kernel, tyX0_ok, nmX0⟩
theorem df0 : ∀ k, k < 15 → defaultValue (tyf 0 k) = fv (tc 0 k) 0 0 none := by
  intro k hk
  match k, hk with
  | 0, _ => rfl
  | 1, _ => rfl
  | 2, _ => rfl
  | 3, _ => rfl
  | 4, _ => rfl
  | 5, _ => rfl
  | 6, _ => rfl
  | 7, _ => rfl
  | 8, _ => rfl
  | 9, _ => rfl
  | 10, _ => rfl
  | 11, _ => rfl
  | 12, _ => rfl
  | 13, _ => rfl
  | 14, _ => rfl
set_option maxRecDepth 20000 in
theorem ck1 : CK 1 RX1 TX1 11 := ⟨rfl, rfl, by decide +kernel, tyX1_ok, nmX1⟩
theorem df1 : ∀ k, k < 11 → defaultValue (tyf 1 k) = fv (tc 1 k) 0 0 none := by
  intro k hk
  match k, hk with
  | 0, _ => rfl
  | 1, _ => rfl
  | 2, _ => rfl
  | 3, _ => rfl
  | 4, _ => rfl
  | 5, _ => rfl
  | 6, _ => rfl
  | 7, _ => rfl
  | 8, _ => rfl
  | 9, _ => rfl
  | 10, _ => rfl
set_option maxRecDepth 20000 in
theorem ck2 : CK 2 RX2 TX2 7 := ⟨rfl, rfl, by decide +kernel, tyX2_ok, nmX2⟩
theorem df2 : ∀ k, k < 7 → defaultValue (tyf 2 k) = fv (tc 2 k) 0 0 none := by
  intro k hk
  match k, hk with
  | 0, _ => rfl
  | 1, _ => rfl
  | 2, _ => rfl
  | 3, _ => rfl
  | 4, _ => rfl
  | 5, _ => rfl
  | 6, _ => rfl
set_option maxRecDepth 20000 in
theorem ck3 : CK 3 RX3 TX3 7 := ⟨rfl, rfl, by decide +kernel, tyX3_ok, nmX3⟩
theorem df3 : ∀ k, k < 7 → defaultValue (tyf 3 k) = fv (tc 3 k) 0 0 none := by
  intro k hk
  match k, hk with
  | 0, _ => rfl
  | 1, _ => rfl
  | 2, _ => rfl
  | 3, _ => rfl
  | 4, _ => rfl
  | 5, _ => rfl
  | 6, _ => rfl
set_option maxRecDepth 20000 in
theorem ck4 : CK 4 RX4 TX4 15 := ⟨rfl, rfl, by decide +kernel, tyX4_ok, nmX4⟩
theorem df4 : ∀ k, k < 15 → defaultValue (tyf 4 k) = fv (tc 4 k) 0 0 none := by
  intro k hk
  match k, hk with
  | 0, _ => rfl
  | 1, _ => rfl
  | 2, _ => rfl
  | 3, _ => rfl
  | 4, _ => rfl
  | 5, _ => rfl
  | 6, _ => rfl
  | 7, _ => rfl
  | 8, _ => rfl
  | 9, _ => rfl
  | 10, _ => rfl
  | 11, _ => rfl
  | 12, _ => rfl
  | 13, _ => rfl
  | 14, _ => rfl
set_option maxRecDepth 20000 in
theorem ck5 : CK 5 RX5 TX5 3 := ⟨rfl, rfl, by decide +kernel, tyX5_ok, nmX5⟩
theorem df5 : ∀ k, k < 3 → defaultValue (tyf 5 k) = fv (tc 5 k) 0 0 none := by
  intro k hk
  match k, hk with
  | 0, _ => rfl
  | 1, _ => rfl
  | 2, _ => rfl
set_option maxRecDepth 20000 in
theorem ck6 : CK 6 RX6 TX6 11 := ⟨rfl, rfl, by decide +kernel, tyX6_ok, nmX6⟩
theorem df6 : ∀ k, k < 11 → defaultValue (tyf 6 k) = fv (tc 6 k) 0 0 none := by
  intro k hk
  match k, hk with
  | 0, _ => rfl
  | 1, _ => rfl
  | 2, _ => rfl
  | 3, _ => rfl
  | 4, _ => rfl
  | 5, _ => rfl
  | 6, _ => rfl
  | 7, _ => rfl
  | 8, _ => rfl
  | 9, _ => rfl
  | 10, _ => rfl
theorem fl_X0_13 : FL RX0 13 0 0 true := ⟨RX0, TX0, 15, ck0, by decide, tW_in 93 (by decide +kernel) rfl, rfl, rfl⟩
theorem fl_X5_46 : FL RX5 46 0 0 true := ⟨RX0, TX0, 15, ck0, by decide, tW_in 94 (by decide +kernel) rfl, rfl, rfl⟩
theorem fl_X4_119 : FL RX4 119 0 0 true := ⟨RX0, TX0, 15, ck0, by decide, tW_in 95 (by decide +kernel) rfl, rfl, rfl⟩
theorem fl_X0_18 : FL RX0 18 0 1 true := ⟨RX0, TX0, 15, ck0, by decide, tW_in 96 (by decide +kernel) rfl, rfl, rfl⟩
theorem fl_X4_88 : FL RX4 88 0 1 true := ⟨RX0, TX0, 15, ck0, by decide, tW_in 97 (by decide +kernel) rfl, rfl, rfl⟩
theorem fl_X0_31 : FL RX0 31 0 2 false := ⟨RX0, TX0, 15, ck0, by decide, tW_in 98 (by decide +kernel) rfl, rfl, rfl⟩
theorem fl_X5_84 : FL RX5 84 0 2 false := ⟨RX0, TX0, 15, ck0, by decide, tW_in 99 (by decide +kernel) rfl, rfl, rfl⟩
theorem fl_X4_85 : FL RX4 85 0 2 false := ⟨RX0, TX0, 15, ck0, by decide, tW_in 100 (by decide +kernel) rfl, rfl, rfl⟩
theorem fl_X0_35 : FL RX0 35 0 3 false := ⟨RX0, TX0, 15, ck0, by decide, tW_in 101 (by decide +kernel) rfl, rfl, rfl⟩
theorem fl_X5_163 : FL RX5 163 0 3 false := ⟨RX0, TX0, 15, ck0, by decide, tW_in 102 (by decide +kernel) rfl, rfl, rfl⟩
theorem fl_X4_198 : FL RX4 198 0 3 false := ⟨RX0, TX0, 15, ck0, by decide, tW_in 103 (by decide +kernel) rfl, rfl, rfl⟩
theorem fl_X0_38 : FL RX0 38 0 4 false := ⟨RX0, TX0, 15, ck0, by decide, tW_in 104 (by decide +kernel) rfl, rfl, rfl⟩
theorem fl_X5_164 : FL RX5 164 0 4 false := ⟨RX0, TX0, 15, ck0, by decide, tW_in 105 (by decide +kernel) rfl, rfl, rfl⟩
theorem fl_X0_41 : FL RX0 41 0 5 false := ⟨RX0, TX0, 15, ck0, by decide, tW_in 106 (by decide +kernel) rfl, rfl, rfl⟩
theorem fl_X5_167 : FL RX5 167 0 5 false := ⟨RX0, TX0, 15, ck0, by decide, tW_in 107 (by decide +kernel) rfl, rfl, rfl⟩
theorem fl_X0_44 : FL RX0 44 0 6 false := ⟨RX0, TX0, 15, ck0, by decide, tW_in 108 (by decide +kernel) rfl, rfl, rfl⟩
theorem fl_X5_170 : FL RX5 170 0 6 false := ⟨RX0, TX0, 15, ck0, by decide, tW_in 109 (by decide +kernel) rfl, rfl, rfl⟩
theorem fl_X0_47 : FL RX0 47 0 7 false := ⟨RX0, TX0, 15, ck0, by decide, tW_in 110 (by decide +kernel) rfl, rfl, rfl⟩
theorem fl_X5_173 : FL RX5 173 0 7 false := ⟨RX0, TX0, 15, ck0, by decide, tW_in 111 (by decide +kernel) rfl, rfl, rfl⟩
theorem fl_X0_50 : FL RX0 50 0 8 false := ⟨RX0, TX0, 15, ck0, by decide, tW_in 112 (by decide +kernel) rfl, rfl, rfl⟩
theorem fl_X5_176 : FL RX5 176 0 8 false := ⟨RX0, TX0, 15, ck0, by decide, tW_in 113 (by decide +kernel) rfl, rfl, rfl⟩
theorem fl_X0_53 : FL RX0 53 0 9 false := ⟨RX0, TX0, 15, ck0, by decide, tW_in 114 (by decide +kernel) rfl, rfl, rfl⟩
theorem fl_X4_140 : FL RX4 140 0 9 false := ⟨RX0, TX0, 15, ck0, by decide, tW_in 115 (by decide +kernel) rfl, rfl, rfl⟩
theorem fl_X5_179 : FL RX5 179 0 9 false := ⟨RX0, TX0, 15, ck0, by decide, tW_in 116 (by decide +kernel) rfl, rfl, rfl⟩
theorem fl_X0_56 : FL RX0 56 0 10 false := ⟨RX0, TX0, 15, ck0, by decide, tW_in 117 (by decide +kernel) rfl, rfl, rfl⟩
theorem fl_X4_98 : FL RX4 98 0 10 false := ⟨RX0, TX0, 15, ck0, by decide, tW_in 118 (by decide +kernel) rfl, rfl, rfl⟩
theorem fl_X5_182 : FL RX5 182 0 10 false := ⟨RX0, TX0, 15, ck0, by decide, tW_in 119 (by decide +kernel) rfl, rfl, rfl⟩
theorem fl_X0_60 : FL RX0 60 0 11 false := ⟨RX0, TX0, 15, ck0, by decide, tW_in 120 (by decide +kernel) rfl, rfl, rfl⟩
theorem fl_X5_198 : FL RX5 198 0 11 false := ⟨RX0, TX0, 15, ck0, by decide, tW_in 121 (by decide +kernel) rfl, rfl, rfl⟩
theorem fl_X0_63 : FL RX0 63 0 12 false := ⟨RX0, TX0, 15, ck0, by decide, tW_in 122 (by decide +kernel) rfl, rfl, rfl⟩
theorem fl_X4_135 : FL RX4 135 0 12 false := ⟨RX0, TX0, 15, ck0, by decide, tW_in 123 (by decide +kernel) rfl, rfl, rfl⟩
theorem fl_X5_201 : FL RX5 201 0 12 false := ⟨RX0, TX0, 15, ck0, by decide, tW_in 124 (by decide +kernel) rfl, rfl, rfl⟩
theorem fl_X0_66 : FL RX0 66 0 13 false := ⟨RX0, TX0, 15, ck0, by decide, tW_in 125 (by decide +kernel) rfl, rfl, rfl⟩
theorem fl_X5_204 : FL RX5 204 0 13 false := ⟨RX0, TX0, 15, ck0, by decide, tW_in 126 (by decide +kernel) rfl, rfl, rfl⟩
theorem fl_X0_69 : FL RX0 69 0 14 false := ⟨RX0, TX0, 15, ck0, by decide, tW_in 127 (by decide +kernel) rfl, rfl, rfl⟩
theorem fl_X5_211 : FL RX5 211 0 14 false := ⟨RX0, TX0, 15, ck0, by decide, tW_in 128 (by decide +kernel) rfl, rfl, rfl⟩
theorem fl_X1_9 : FL RX1 9 1 0 false := ⟨RX1, TX1, 11, ck1, by decide, tW_in 168 (by decide +kernel) rfl, rfl, rfl⟩
theorem fl_X5_77 : FL RX5 77 1 0 false := ⟨RX1, TX1, 11, ck1, by decide, tW_in 169 (by decide +kernel) rfl, rfl, rfl⟩
theorem fl_X4_180 : FL RX4 180 1 0 false := ⟨RX1, TX1, 11, ck1, by decide, tW_in 170 (by decide +kernel) rfl, rfl, rfl⟩
theorem fl_X1_15 : FL RX1 15 1 1 false := ⟨RX1, TX1, 11, ck1, by decide, tW_in 171 (by decide +kernel) rfl, rfl, rfl⟩
theorem fl_X5_87 : FL RX5 87 1 1 false := ⟨RX1, TX1, 11, ck1, by decide, tW_in 172 (by decide +kernel) rfl, rfl, rfl⟩
theorem fl_X1_18 : FL RX1 18 1 2 false := ⟨RX1, TX1, 11, ck1, by decide, tW_in 173 (by decide +kernel) rfl, rfl, rfl⟩
theorem fl_X5_90 : FL RX5 90 1 2 false := ⟨RX1, TX1, 11, ck1, by decide, tW_in 174 (by decide +kernel) rfl, rfl, rfl⟩
theorem fl_X1_21 : FL RX1 21 1 3 false := ⟨RX1, TX1, 11, ck1, by decide, tW_in 175 (by decide +kernel) rfl, rfl, rfl⟩
theorem fl_X5_93 : FL RX5 93 1 3 false := ⟨RX1, TX1, 11, ck1, by decide, tW_in 176 (by decide +kernel) rfl, rfl, rfl⟩
theorem fl_X4_266 : FL RX4 266 1 3 false := ⟨RX1, TX1, 11, ck1, by decide, tW_in 177 (by decide +kernel) rfl, rfl, rfl⟩
theorem fl_X1_24 : FL RX1 24 1 4 false := ⟨RX1, TX1, 11, ck1, by decide, tW_in 178 (by decide +kernel) rfl, rfl, rfl⟩
theorem fl_X5_69 : FL RX5 69 1 4 false := ⟨RX1, TX1, 11, ck1, by decide, tW_in 179 (by decide +kernel) rfl, rfl, rfl⟩
theorem fl_X4_120 : FL RX4 120 1 4 false := ⟨RX1, TX1, 11, ck1, by decide, tW_in 180 (by decide +kernel) rfl, rfl, rfl⟩
theorem fl_X1_27 : FL RX1 27 1 5 false := ⟨RX1, TX1, 11, ck1, by decide, tW_in 181 (by decide +kernel) rfl, rfl, rfl⟩
theorem fl_X5_74 : FL RX5 74 1 5 false := ⟨RX1, TX1, 11, ck1, by decide, tW_in 182 (by decide +kernel) rfl, rfl, rfl⟩
theorem fl_X4_108 : FL RX4 108 1 5 false := ⟨RX1, TX1, 11, ck1, by decide, tW_in 183 (by decide +kernel) rfl, rfl, rfl⟩
theorem fl_X1_30 : FL RX1 30 1 6 false := ⟨RX1, TX1, 11, ck1, by decide, tW_in 184 (by decide +kernel) rfl, rfl, rfl⟩
theorem fl_X5_96 : FL RX5 96 1 6 false := ⟨RX1, TX1, 11, ck1, by decide, tW_in 185 (by decide +kernel) rfl, rfl, rfl⟩
theorem fl_X4_186 : FL RX4 186 1 6 false := ⟨RX1, TX1, 11, ck1, by decide, tW_in 186 (by decide +kernel) rfl, rfl, rfl⟩
theorem fl_X1_33 : FL RX1 33 1 7 false := ⟨RX1, TX1, 11, ck1, by decide, tW_in 187 (by decide +kernel) rfl, rfl, rfl⟩
theorem fl_X5_99 : FL RX5 99 1 7 false := ⟨RX1, TX1, 11, ck1, by decide, tW_in 188 (by decide +kernel) rfl, rfl, rfl⟩
theorem fl_X4_188 : FL RX4 188 1 7 false := ⟨RX1, TX1, 11, ck1, by decide, tW_in 189 (by decide +kernel) rfl, rfl, rfl⟩
theorem fl_X1_36 : FL RX1 36 1 8 false := ⟨RX1, TX1, 11, ck1, by decide, tW_in 190 (by decide +kernel) rfl, rfl, rfl⟩
theorem fl_X4_195 : FL RX4 195 1 8 false := ⟨RX1, TX1, 11, ck1, by decide, tW_in 191 (by decide +kernel) rfl, rfl, rfl⟩
theorem fl_X1_39 : FL RX1 39 1 9 false := ⟨RX1, TX1, 11, ck1, by decide, tW_in 192 (by decide +kernel) rfl, rfl, rfl⟩
theorem fl_X5_102 : FL RX5 102 1 9 false := ⟨RX1, TX1, 11, ck1, by decide, tW_in 193 (by decide +kernel) rfl, rfl, rfl⟩
theorem fl_X4_228 : FL RX4 228 1 9 false := ⟨RX1, TX1, 11, ck1, by decide, tW_in 194 (by decide +kernel) rfl, rfl, rfl⟩
theorem fl_X1_42 : FL RX1 42 1 10 false := ⟨RX1, TX1, 11, ck1, by decide, tW_in 195 (by decide +kernel) rfl, rfl, rfl⟩
theorem fl_X5_115 : FL RX5 115 1 10 false := ⟨RX1, TX1, 11, ck1, by decide, tW_in 196 (by decide +kernel) rfl, rfl, rfl⟩
theorem fl_X4_105 : FL RX4 105 1 10 false := ⟨RX1, TX1, 11, ck1, by decide, tW_in 197 (by decide +kernel) rfl, rfl, rfl⟩
theorem fl_X3_14 : FL RX3 14 3 0 false := ⟨RX3, TX3, 7, ck3, by decide, tW_in 232 (by decide +kernel) rfl, rfl, rfl⟩
theorem fl_X4_162 : FL RX4 162 3 0 false := ⟨RX3, TX3, 7, ck3, by decide, tW_in 233 (by decide +kernel) rfl, rfl, rfl⟩
theorem fl_X5_223 : FL RX5 223 3 0 false := ⟨RX3, TX3, 7, ck3, by decide, tW_in 234 (by decide +kernel) rfl, rfl, rfl⟩
theorem fl_X3_18 : FL RX3 18 3 1 false := ⟨RX3, TX3, 7, ck3, by decide, tW_in 235 (by decide +kernel) rfl, rfl, rfl⟩
theorem fl_X5_258 : FL RX5 258 3 1 false := ⟨RX3, TX3, 7, ck3, by decide, tW_in 236 (by decide +kernel) rfl, rfl, rfl⟩
theorem fl_X4_258 : FL RX4 258 3 1 false := ⟨RX3, TX3, 7, ck3, by decide, tW_in 237 (by decide +kernel) rfl, rfl, rfl⟩
theorem fl_X3_21 : FL RX3 21 3 2 false := ⟨RX3, TX3, 7, ck3, by decide, tW_in 238 (by decide +kernel) rfl, rfl, rfl⟩
theorem fl_X5_228 : FL RX5 228 3 2 false := ⟨RX3, TX3, 7, ck3, by decide, tW_in 239 (by decide +kernel) rfl, rfl, rfl⟩
theorem fl_X4_183 : FL RX4 183 3 2 false := ⟨RX3, TX3, 7, ck3, by decide, tW_in 240 (by decide +kernel) rfl, rfl, rfl⟩
theorem fl_X3_24 : FL RX3 24 3 3 false := ⟨RX3, TX3, 7, ck3, by decide, tW_in 241 (by decide +kernel) rfl, rfl, rfl⟩
theorem fl_X4_211 : FL RX4 211 3 3 false := ⟨RX3, TX3, 7, ck3, by decide, tW_in 242 (by decide +kernel) rfl, rfl, rfl⟩
theorem fl_X3_27 : FL RX3 27 3 4 false := ⟨RX3, TX3, 7, ck3, by decide, tW_in 243 (by decide +kernel) rfl, rfl, rfl⟩
theorem fl_X4_168 : FL RX4 168 3 4 false := ⟨RX3, TX3, 7, ck3, by decide, tW_in 244 (by decide +kernel) rfl, rfl, rfl⟩
theorem fl_X5_229 : FL RX5 229 3 4 false := ⟨RX3, TX3, 7, ck3, by decide, tW_in 245 (by decide +kernel) rfl, rfl, rfl⟩
theorem fl_X3_30 : FL RX3 30 3 5 false := ⟨RX3, TX3, 7, ck3, by decide, tW_in 246 (by decide +kernel) rfl, rfl, rfl⟩
theorem fl_X5_259 : FL RX5 259 3 5 false := ⟨RX3, TX3, 7, ck3, by decide, tW_in 247 (by decide +kernel) rfl, rfl, rfl⟩
theorem fl_X4_214 : FL RX4 214 3 5 false := ⟨RX3, TX3, 7, ck3, by decide, tW_in 248 (by decide +kernel) rfl, rfl, rfl⟩
theorem fl_X3_33 : FL RX3 33 3 6 false := ⟨RX3, TX3, 7, ck3, by decide, tW_in 249 (by decide +kernel) rfl, rfl, rfl⟩
theorem fl_X5_232 : FL RX5 232 3 6 false := ⟨RX3, TX3, 7, ck3, by decide, tW_in 250 (by decide +kernel) rfl, rfl, rfl⟩
theorem fl_X4_191 : FL RX4 191 3 6 false := ⟨RX3, TX3, 7, ck3, by decide, tW_in 251 (by decide +kernel) rfl, rfl, rfl⟩
theorem fl_X2_9 : FL RX2 9 2 0 true := ⟨RX2, TX2, 7, ck2, by decide, tW_in 273 (by decide +kernel) rfl, rfl, rfl⟩
theorem fl_X2_15 : FL RX2 15 2 1 false := ⟨RX2, TX2, 7, ck2, by decide, tW_in 274 (by decide +kernel) rfl, rfl, rfl⟩
theorem fl_X5_127 : FL RX5 127 2 1 false := ⟨RX2, TX2, 7, ck2, by decide, tW_in 275 (by decide +kernel) rfl, rfl, rfl⟩
theorem fl_X2_28 : FL RX2 28 2 2 false := ⟨RX2, TX2, 7, ck2, by decide, tW_in 276 (by decide +kernel) rfl, rfl, rfl⟩
theorem fl_X5_307 : FL RX5 307 2 2 false := ⟨RX2, TX2, 7, ck2, by decide, tW_in 277 (by decide +kernel) rfl, rfl, rfl⟩
theorem fl_X2_35 : FL RX2 35 2 3 false := ⟨RX2, TX2, 7, ck2, by decide, tW_in 278 (by decide +kernel) rfl, rfl, rfl⟩
theorem fl_X5_311 : FL RX5 311 2 3 false := ⟨RX2, TX2, 7, ck2, by decide, tW_in 279 (by decide +kernel) rfl, rfl, rfl⟩
theorem fl_X2_42 : FL RX2 42 2 4 false := ⟨RX2, TX2, 7, ck2, by decide, tW_in 280 (by decide +kernel) rfl, rfl, rfl⟩
theorem fl_X5_312 : FL RX5 312 2 4 false := ⟨RX2, TX2, 7, ck2, by decide, tW_in 281 (by decide +kernel) rfl, rfl, rfl⟩
theorem fl_X2_45 : FL RX2 45 2 5 false := ⟨RX2, TX2, 7, ck2, by decide, tW_in 282 (by decide +kernel) rfl, rfl, rfl⟩
theorem fl_X5_308 : FL RX5 308 2 5 false := ⟨RX2, TX2, 7, ck2, by decide, tW_in 283 (by decide +kernel) rfl, rfl, rfl⟩
theorem fl_X2_21 : FL RX2 21 2 6 false := ⟨RX2, TX2, 7, ck2, by decide, tW_in 284 (by decide +kernel) rfl, rfl, rfl⟩
theorem fl_X4_13 : FL RX4 13 4 0 true := ⟨RX4, TX4, 15, ck4, by decide, tW_in 301 (by decide +kernel) rfl, rfl, rfl⟩
theorem fl_X5_54 : FL RX5 54 4 0 true := ⟨RX4, TX4, 15, ck4, by decide, tW_in 302 (by decide +kernel) rfl, rfl, rfl⟩
theorem fl_X4_26 : FL RX4 26 4 1 true := ⟨RX4, TX4, 15, ck4, by decide, tW_in 303 (by decide +kernel) rfl, rfl, rfl⟩
theorem fl_X5_42 : FL RX5 42 4 1 true := ⟨RX4, TX4, 15, ck4, by decide, tW_in 304 (by decide +kernel) rfl, rfl, rfl⟩
theorem fl_X4_33 : FL RX4 33 4 2 true := ⟨RX4, TX4, 15, ck4, by decide, tW_in 305 (by decide +kernel) rfl, rfl, rfl⟩
theorem fl_X4_40 : FL RX4 40 4 3 true := ⟨RX4, TX4, 15, ck4, by decide, tW_in 306 (by decide +kernel) rfl, rfl, rfl⟩
theorem fl_X4_45 : FL RX4 45 4 4 true := ⟨RX4, TX4, 15, ck4, by decide, tW_in 307 (by decide +kernel) rfl, rfl, rfl⟩
theorem fl_X5_219 : FL RX5 219 4 4 true := ⟨RX4, TX4, 15, ck4, by decide, tW_in 308 (by decide +kernel) rfl, rfl, rfl⟩
theorem fl_X4_52 : FL RX4 52 4 5 true := ⟨RX4, TX4, 15, ck4, by decide, tW_in 309 (by decide +kernel) rfl, rfl, rfl⟩
theorem fl_X5_123 : FL RX5 123 4 5 true := ⟨RX4, TX4, 15, ck4, by decide, tW_in 310 (by decide +kernel) rfl, rfl, rfl⟩
theorem fl_X5_146 : FL RX5 146 4 6 false := ⟨RX4, TX4, 15, ck4, by decide, tW_in 311 (by decide +kernel) rfl, rfl, rfl⟩
theorem fl_X4_129 : FL RX4 129 4 6 false := ⟨RX4, TX4, 15, ck4, by decide, tW_in 312 (by decide +kernel) rfl, rfl, rfl⟩
theorem fl_X4_60 : FL RX4 60 4 7 false := ⟨RX4, TX4, 15, ck4, by decide, tW_in 313 (by decide +kernel) rfl, rfl, rfl⟩
theorem fl_X5_23 : FL RX5 23 4 7 false := ⟨RX4, TX4, 15, ck4, by decide, tW_in 314 (by decide +kernel) rfl, rfl, rfl⟩
theorem fl_X4_63 : FL RX4 63 4 8 false := ⟨RX4, TX4, 15, ck4, by decide, tW_in 315 (by decide +kernel) rfl, rfl, rfl⟩
theorem fl_X5_216 : FL RX5 216 4 8 false := ⟨RX4, TX4, 15, ck4, by decide, tW_in 316 (by decide +kernel) rfl, rfl, rfl⟩
theorem fl_X4_79 : FL RX4 79 4 9 false := ⟨RX4, TX4, 15, ck4, by decide, tW_in 317 (by decide +kernel) rfl, rfl, rfl⟩
theorem fl_X5_245 : FL RX5 245 4 9 false := ⟨RX4, TX4, 15, ck4, by decide, tW_in 318 (by decide +kernel) rfl, rfl, rfl⟩
theorem fl_X4_165 : FL RX4 165 4 10 false := ⟨RX4, TX4, 15, ck4, by decide, tW_in 319 (by decide +kernel) rfl, rfl, rfl⟩
theorem fl_X5_236 : FL RX5 236 4 10 false := ⟨RX4, TX4, 15, ck4, by decide, tW_in 320 (by decide +kernel) rfl, rfl, rfl⟩
theorem fl_X5_239 : FL RX5 239 4 11 false := ⟨RX4, TX4, 15, ck4, by decide, tW_in 321 (by decide +kernel) rfl, rfl, rfl⟩
theorem fl_X4_208 : FL RX4 208 4 11 false := ⟨RX4, TX4, 15, ck4, by decide, tW_in 322 (by decide +kernel) rfl, rfl, rfl⟩
theorem fl_X4_174 : FL RX4 174 4 12 false := ⟨RX4, TX4, 15, ck4, by decide, tW_in 323 (by decide +kernel) rfl, rfl, rfl⟩
theorem fl_X4_56 : FL RX4 56 4 13 false := ⟨RX4, TX4, 15, ck4, by decide, tW_in 324 (by decide +kernel) rfl, rfl, rfl⟩
theorem fl_X5_153 : FL RX5 153 4 13 false := ⟨RX4, TX4, 15, ck4, by decide, tW_in 325 (by decide +kernel) rfl, rfl, rfl⟩
theorem fl_X4_123 : FL RX4 123 4 14 false := ⟨RX4, TX4, 15, ck4, by decide, tW_in 326 (by decide +kernel) rfl, rfl, rfl⟩
theorem fl_X5_189 : FL RX5 189 4 14 false := ⟨RX4, TX4, 15, ck4, by decide, tW_in 327 (by decide +kernel) rfl, rfl, rfl⟩
theorem fl_X5_10 : FL RX5 10 5 0 true := ⟨RX5, TX5, 3, ck5, by decide, tW_in 360 (by decide +kernel) rfl, rfl, rfl⟩
theorem fl_X5_16 : FL RX5 16 5 1 true := ⟨RX5, TX5, 3, ck5, by decide, tW_in 361 (by decide +kernel) rfl, rfl, rfl⟩
theorem fl_X5_20 : FL RX5 20 5 2 false := ⟨RX5, TX5, 3, ck5, by decide, tW_in 362 (by decide +kernel) rfl, rfl, rfl⟩
theorem fl_X6_7 : FL RX6 7 6 0 true := ⟨RX6, TX6, 11, ck6, by decide, tW_in 770 (by decide +kernel) rfl, rfl, rfl⟩
theorem fl_X6_13 : FL RX6 13 6 1 true := ⟨RX6, TX6, 11, ck6, by decide, tW_in 771 (by decide +kernel) rfl, rfl, rfl⟩
theorem fl_X6_16 : FL RX6 16 6 2 true := ⟨RX6, TX6, 11, ck6, by decide, tW_in 772 (by decide +kernel) rfl, rfl, rfl⟩
theorem fl_X6_19 : FL RX6 19 6 3 true := ⟨RX6, TX6, 11, ck6, by decide, tW_in 773 (by decide +kernel) rfl, rfl, rfl⟩
theorem fl_X6_118 : FL RX6 118 6 4 false := ⟨RX6, TX6, 11, ck6, by decide, tW_in 774 (by decide +kernel) rfl, rfl, rfl⟩
theorem fl_X6_129 : FL RX6 129 6 5 false := ⟨RX6, TX6, 11, ck6, by decide, tW_in 775 (by decide +kernel) rfl, rfl, rfl⟩
theorem fl_X6_23 : FL RX6 23 6 6 true := ⟨RX6, TX6, 11, ck6, by decide, tW_in 776 (by decide +kernel) rfl, rfl, rfl⟩
theorem fl_X6_135 : FL RX6 135 6 7 false := ⟨RX6, TX6, 11, ck6, by decide, tW_in 777 (by decide +kernel) rfl, rfl, rfl⟩
theorem fl_X6_154 : FL RX6 154 6 8 false := ⟨RX6, TX6, 11, ck6, by decide, tW_in 778 (by decide +kernel) rfl, rfl, rfl⟩
theorem fl_X6_172 : FL RX6 172 6 9 false := ⟨RX6, TX6, 11, ck6, by decide, tW_in 779 (by decide +kernel) rfl, rfl, rfl⟩
theorem fl_X6_27 : FL RX6 27 6 10 true := ⟨RX6, TX6, 11, ck6, by decide, tW_in 780 (by decide +kernel) rfl, rfl, rfl⟩
theorem cw_L_9 : CI RL 9 yX5_init cX5_init 1 0 := ⟨⟨(tW_in 62 (by decide +kernel) rfl), (tW_in 64 (by decide +kernel) rfl), (tW_in 51 (by decide +kernel) rfl), ⟨by decide +kernel, by decide +kernel⟩, by decide +kernel⟩, rfl, (tW_in 63 (by decide +kernel) rfl)⟩
theorem cw_X5_9 : CI RX5 9 yX4_init cX4_init 2 0 := ⟨⟨(tW_in 70 (by decide +kernel) rfl), (tW_in 72 (by decide +kernel) rfl), (tW_in 52 (by decide +kernel) rfl), ⟨by decide +kernel, by decide +kernel⟩, by decide +kernel⟩, rfl, (tW_in 71 (by decide +kernel) rfl)⟩
theorem cw_X4_30 : CI RX4 30 yX0_init cX0_init 1 0 := ⟨⟨(tW_in 82 (by decide +kernel) rfl), (tW_in 84 (by decide +kernel) rfl), (tW_in 54 (by decide +kernel) rfl), ⟨by decide +kernel, by decide +kernel⟩, by decide +kernel⟩, rfl, (tW_in 83 (by decide +kernel) rfl)⟩
theorem cw_X0_21 : CV RX0 21 0 yX0_begin cX0_begin 2 (none) 1 := ⟨⟨(tW_in 88 (by decide +kernel) rfl), (tW_in 91 (by decide +kernel) rfl), (tW_in 54 (by decide +kernel) rfl), ⟨by decide +kernel, by decide +kernel⟩, by decide +kernel⟩, (tW_in 89 (by decide +kernel) rfl), (tW_in 90 (by decide +kernel) rfl), by decide +kernel⟩
theorem cw_X4_44 : CI RX4 44 yX3_init cX3_init 1 0 := ⟨⟨(tW_in 224 (by decide +kernel) rfl), (tW_in 226 (by decide +kernel) rfl), (tW_in 56 (by decide +kernel) rfl), ⟨by decide +kernel, by decide +kernel⟩, by decide +kernel⟩, rfl, (tW_in 225 (by decide +kernel) rfl)⟩
theorem cw_X3_9 : CV RX3 9 3 yX3_clear cX3_clear 1 (none) 0 := ⟨⟨(tW_in 228 (by decide +kernel) rfl), (tW_in 231 (by decide +kernel) rfl), (tW_in 56 (by decide +kernel) rfl), ⟨by decide +kernel, by decide +kernel⟩, by decide +kernel⟩, (tW_in 229 (by decide +kernel) rfl), (tW_in 230 (by decide +kernel) rfl), by decide +kernel⟩
theorem cw_X4_51 : CI RX4 51 yX2_init cX2_init 1 0 := ⟨⟨(tW_in 269 (by decide +kernel) rfl), (tW_in 271 (by decide +kernel) rfl), (tW_in 57 (by decide +kernel) rfl), ⟨by decide +kernel, by decide +kernel⟩, by decide +kernel⟩, rfl, (tW_in 270 (by decide +kernel) rfl)⟩
theorem cw_L_13 : CV RL 13 5 yX5_addFlow cX5_addFlow 2 (some .int) 1 := ⟨⟨(tW_in 370 (by decide +kernel) rfl), (tW_in 373 (by decide +kernel) rfl), (tW_in 51 (by decide +kernel) rfl), ⟨by decide +kernel, by decide +kernel⟩, by decide +kernel⟩, (tW_in 371 (by decide +kernel) rfl), (tW_in 372 (by decide +kernel) rfl), by decide +kernel⟩
theorem cw_X5_27 : CV RX5 27 4 yX4_openFlow cX4_openFlow 2 (some .int) 1 := ⟨⟨(tW_in 374 (by decide +kernel) rfl), (tW_in 377 (by decide +kernel) rfl), (tW_in 52 (by decide +kernel) rfl), ⟨by decide +kernel, by decide +kernel⟩, by decide +kernel⟩, (tW_in 375 (by decide +kernel) rfl), (tW_in 376 (by decide +kernel) rfl), by decide +kernel⟩
theorem cw_X4_115 : CV RX4 115 0 yX0_begin cX0_begin 2 (none) 1 := ⟨⟨(tW_in 378 (by decide +kernel) rfl), (tW_in 91 (by decide +kernel) rfl), (tW_in 54 (by decide +kernel) rfl), ⟨by decide +kernel, by decide +kernel⟩, by decide +kernel⟩, (tW_in 89 (by decide +kernel) rfl), (tW_in 90 (by decide +kernel) rfl), by decide +kernel⟩
theorem cw_L_18 : CV RL 18 5 yX5_set cX5_set 5 (some .int) 3 := ⟨⟨(tW_in 379 (by decide +kernel) rfl), (tW_in 382 (by decide +kernel) rfl), (tW_in 51 (by decide +kernel) rfl), ⟨by decide +kernel, by decide +kernel⟩, by decide +kernel⟩, (tW_in 380 (by decide +kernel) rfl), (tW_in 381 (by decide +kernel) rfl), by decide +kernel⟩
theorem cw_X5_31 : CV RX5 31 4 yX4_hasFlow cX4_hasFlow 2 (some .boolean) 1 := ⟨⟨(tW_in 383 (by decide +kernel) rfl), (tW_in 386 (by decide +kernel) rfl), (tW_in 52 (by decide +kernel) rfl), ⟨by decide +kernel, by decide +kernel⟩, by decide +kernel⟩, (tW_in 384 (by decide +kernel) rfl), (tW_in 385 (by decide +kernel) rfl), by decide +kernel⟩
theorem cw_L_23 : CV RL 23 5 yX5_rule cX5_rule 4 (some .int) 2 := ⟨⟨(tW_in 391 (by decide +kernel) rfl), (tW_in 394 (by decide +kernel) rfl), (tW_in 51 (by decide +kernel) rfl), ⟨by decide +kernel, by decide +kernel⟩, by decide +kernel⟩, (tW_in 392 (by decide +kernel) rfl), (tW_in 393 (by decide +kernel) rfl), by decide +kernel⟩
theorem cw_L_28 : CV RL 28 5 yX5_offer cX5_offer 4 (some .int) 3 := ⟨⟨(tW_in 397 (by decide +kernel) rfl), (tW_in 400 (by decide +kernel) rfl), (tW_in 51 (by decide +kernel) rfl), ⟨by decide +kernel, by decide +kernel⟩, by decide +kernel⟩, (tW_in 398 (by decide +kernel) rfl), (tW_in 399 (by decide +kernel) rfl), by decide +kernel⟩
theorem cw_X5_55 : CV RX5 55 4 yX4_canAccept cX4_canAccept 3 (some .boolean) 1 := ⟨⟨(tW_in 401 (by decide +kernel) rfl), (tW_in 404 (by decide +kernel) rfl), (tW_in 52 (by decide +kernel) rfl), ⟨by decide +kernel, by decide +kernel⟩, by decide +kernel⟩, (tW_in 402 (by decide +kernel) rfl), (tW_in 403 (by decide +kernel) rfl), by decide +kernel⟩
theorem cw_X4_72 : CV RX4 72 4 yX4_oldestPacket cX4_oldestPacket 1 (some .int) 0 := ⟨⟨(tW_in 405 (by decide +kernel) rfl), (tW_in 408 (by decide +kernel) rfl), (tW_in 52 (by decide +kernel) rfl), ⟨by decide +kernel, by decide +kernel⟩, by decide +kernel⟩, (tW_in 406 (by decide +kernel) rfl), (tW_in 407 (by decide +kernel) rfl), by decide +kernel⟩
theorem cw_X4_66 : CS RX4 66 yJ9_max_7cf53 cJ9_max_7cf53 2 (some .int) 2 := ⟨⟨(tW_in 409 (by decide +kernel) rfl), (tW_in 411 (by decide +kernel) rfl), (tW_in 59 (by decide +kernel) rfl), ⟨by decide +kernel, by decide +kernel⟩, by decide +kernel⟩, (tW_in 410 (by decide +kernel) rfl)⟩
theorem cw_X4_91 : CV RX4 91 4 yX4_packetAt cX4_packetAt 2 (some (.object "FairLink$Packet")) 1 := ⟨⟨(tW_in 412 (by decide +kernel) rfl), (tW_in 415 (by decide +kernel) rfl), (tW_in 52 (by decide +kernel) rfl), ⟨by decide +kernel, by decide +kernel⟩, by decide +kernel⟩, (tW_in 413 (by decide +kernel) rfl), (tW_in 414 (by decide +kernel) rfl), by decide +kernel⟩
theorem cw_X4_76 : CS RX4 76 yJ9_floorMod_7cf53 cJ9_floorMod_7cf53 3 (some .int) 2 := ⟨⟨(tW_in 416 (by decide +kernel) rfl), (tW_in 418 (by decide +kernel) rfl), (tW_in 59 (by decide +kernel) rfl), ⟨by decide +kernel, by decide +kernel⟩, by decide +kernel⟩, (tW_in 417 (by decide +kernel) rfl)⟩
theorem cw_X5_58 : CV RX5 58 4 yX4_accept cX4_accept 8 (some .int) 3 := ⟨⟨(tW_in 419 (by decide +kernel) rfl), (tW_in 422 (by decide +kernel) rfl), (tW_in 52 (by decide +kernel) rfl), ⟨by decide +kernel, by decide +kernel⟩, by decide +kernel⟩, (tW_in 420 (by decide +kernel) rfl), (tW_in 421 (by decide +kernel) rfl), by decide +kernel⟩
theorem cw_X4_126 : CS RX4 126 yJ9_max_f86c9 cJ9_max_f86c9 4 (some .long) 2 := ⟨⟨(tW_in 423 (by decide +kernel) rfl), (tW_in 425 (by decide +kernel) rfl), (tW_in 59 (by decide +kernel) rfl), ⟨by decide +kernel, by decide +kernel⟩, by decide +kernel⟩, (tW_in 424 (by decide +kernel) rfl)⟩
theorem cw_X4_132 : CV RX4 132 1 yX1_begin cX1_begin 7 (none) 5 := ⟨⟨(tW_in 426 (by decide +kernel) rfl), (tW_in 429 (by decide +kernel) rfl), (tW_in 55 (by decide +kernel) rfl), ⟨by decide +kernel, by decide +kernel⟩, by decide +kernel⟩, (tW_in 427 (by decide +kernel) rfl), (tW_in 428 (by decide +kernel) rfl), by decide +kernel⟩
theorem cw_X4_111 : CV RX4 111 0 yX0_share cX0_share 3 (some .long) 1 := ⟨⟨(tW_in 430 (by decide +kernel) rfl), (tW_in 433 (by decide +kernel) rfl), (tW_in 54 (by decide +kernel) rfl), ⟨by decide +kernel, by decide +kernel⟩, by decide +kernel⟩, (tW_in 431 (by decide +kernel) rfl), (tW_in 432 (by decide +kernel) rfl), by decide +kernel⟩
theorem cw_X4_143 : CV RX4 143 0 yX0_joinQueue cX0_joinQueue 2 (none) 1 := ⟨⟨(tW_in 436 (by decide +kernel) rfl), (tW_in 439 (by decide +kernel) rfl), (tW_in 54 (by decide +kernel) rfl), ⟨by decide +kernel, by decide +kernel⟩, by decide +kernel⟩, (tW_in 437 (by decide +kernel) rfl), (tW_in 438 (by decide +kernel) rfl), by decide +kernel⟩
theorem cw_L_32 : CV RL 32 5 yX5_cancel cX5_cancel 4 (some .int) 1 := ⟨⟨(tW_in 440 (by decide +kernel) rfl), (tW_in 443 (by decide +kernel) rfl), (tW_in 51 (by decide +kernel) rfl), ⟨by decide +kernel, by decide +kernel⟩, by decide +kernel⟩, (tW_in 441 (by decide +kernel) rfl), (tW_in 442 (by decide +kernel) rfl), by decide +kernel⟩
theorem cw_X5_62 : CV RX5 62 4 yX4_knowsPacket cX4_knowsPacket 2 (some .boolean) 1 := ⟨⟨(tW_in 444 (by decide +kernel) rfl), (tW_in 447 (by decide +kernel) rfl), (tW_in 52 (by decide +kernel) rfl), ⟨by decide +kernel, by decide +kernel⟩, by decide +kernel⟩, (tW_in 445 (by decide +kernel) rfl), (tW_in 446 (by decide +kernel) rfl), by decide +kernel⟩
theorem cw_X5_65 : CV RX5 65 4 yX4_packetAt cX4_packetAt 2 (some (.object "FairLink$Packet")) 1 := ⟨⟨(tW_in 448 (by decide +kernel) rfl), (tW_in 415 (by decide +kernel) rfl), (tW_in 52 (by decide +kernel) rfl), ⟨by decide +kernel, by decide +kernel⟩, by decide +kernel⟩, (tW_in 413 (by decide +kernel) rfl), (tW_in 414 (by decide +kernel) rfl), by decide +kernel⟩
theorem cw_X5_80 : CV RX5 80 0 yX0_leaveQueue cX0_leaveQueue 4 (none) 1 := ⟨⟨(tW_in 449 (by decide +kernel) rfl), (tW_in 452 (by decide +kernel) rfl), (tW_in 54 (by decide +kernel) rfl), ⟨by decide +kernel, by decide +kernel⟩, by decide +kernel⟩, (tW_in 450 (by decide +kernel) rfl), (tW_in 451 (by decide +kernel) rfl), by decide +kernel⟩
theorem cw_L_36 : CV RL 36 5 yX5_packet cX5_packet 4 (some .int) 2 := ⟨⟨(tW_in 453 (by decide +kernel) rfl), (tW_in 456 (by decide +kernel) rfl), (tW_in 51 (by decide +kernel) rfl), ⟨by decide +kernel, by decide +kernel⟩, by decide +kernel⟩, (tW_in 454 (by decide +kernel) rfl), (tW_in 455 (by decide +kernel) rfl), by decide +kernel⟩
theorem cw_X5_105 : CV RX5 105 1 yX1_isQueued cX1_isQueued 1 (some .boolean) 0 := ⟨⟨(tW_in 457 (by decide +kernel) rfl), (tW_in 460 (by decide +kernel) rfl), (tW_in 55 (by decide +kernel) rfl), ⟨by decide +kernel, by decide +kernel⟩, by decide +kernel⟩, (tW_in 458 (by decide +kernel) rfl), (tW_in 459 (by decide +kernel) rfl), by decide +kernel⟩
theorem cw_X5_109 : CV RX5 109 4 yX4_isUrgent cX4_isUrgent 2 (some .boolean) 1 := ⟨⟨(tW_in 461 (by decide +kernel) rfl), (tW_in 464 (by decide +kernel) rfl), (tW_in 52 (by decide +kernel) rfl), ⟨by decide +kernel, by decide +kernel⟩, by decide +kernel⟩, (tW_in 462 (by decide +kernel) rfl), (tW_in 463 (by decide +kernel) rfl), by decide +kernel⟩
theorem cw_X4_269 : CV RX4 269 4 yX4_ticksOfRest cX4_ticksOfRest 4 (some .int) 1 := ⟨⟨(tW_in 465 (by decide +kernel) rfl), (tW_in 468 (by decide +kernel) rfl), (tW_in 52 (by decide +kernel) rfl), ⟨by decide +kernel, by decide +kernel⟩, by decide +kernel⟩, (tW_in 467 (by decide +kernel) rfl), (tW_in 0 (by decide +kernel) rfl), by decide +kernel⟩
theorem cw_X4_95 : CV RX4 95 1 yX1_unsent cX1_unsent 1 (some .int) 0 := ⟨⟨(tW_in 469 (by decide +kernel) rfl), (tW_in 472 (by decide +kernel) rfl), (tW_in 55 (by decide +kernel) rfl), ⟨by decide +kernel, by decide +kernel⟩, by decide +kernel⟩, (tW_in 470 (by decide +kernel) rfl), (tW_in 471 (by decide +kernel) rfl), by decide +kernel⟩
theorem cw_L_40 : CV RL 40 5 yX5_start cX5_start 2 (some .long) 1 := ⟨⟨(tW_in 473 (by decide +kernel) rfl), (tW_in 476 (by decide +kernel) rfl), (tW_in 51 (by decide +kernel) rfl), ⟨by decide +kernel, by decide +kernel⟩, by decide +kernel⟩, (tW_in 474 (by decide +kernel) rfl), (tW_in 475 (by decide +kernel) rfl), by decide +kernel⟩
theorem cw_L_47 : CV RL 47 5 yX5_put cX5_put 4 (some .int) 1 := ⟨⟨(tW_in 478 (by decide +kernel) rfl), (tW_in 481 (by decide +kernel) rfl), (tW_in 51 (by decide +kernel) rfl), ⟨by decide +kernel, by decide +kernel⟩, by decide +kernel⟩, (tW_in 479 (by decide +kernel) rfl), (tW_in 480 (by decide +kernel) rfl), by decide +kernel⟩
theorem cw_X5_119 : CS RX5 119 yX5_countCharacters cX5_countCharacters 7 (some .int) 1 := ⟨⟨(tW_in 482 (by decide +kernel) rfl), (tW_in 484 (by decide +kernel) rfl), (tW_in 51 (by decide +kernel) rfl), ⟨by decide +kernel, by decide +kernel⟩, by decide +kernel⟩, (tW_in 483 (by decide +kernel) rfl)⟩
theorem cw_X5_132 : CV RX5 132 2 yX2_append cX2_append 5 (none) 2 := ⟨⟨(tW_in 488 (by decide +kernel) rfl), (tW_in 491 (by decide +kernel) rfl), (tW_in 57 (by decide +kernel) rfl), ⟨by decide +kernel, by decide +kernel⟩, by decide +kernel⟩, (tW_in 489 (by decide +kernel) rfl), (tW_in 490 (by decide +kernel) rfl), by decide +kernel⟩
theorem cw_L_52 : CV RL 52 5 yX5_wipe cX5_wipe 2 (some .int) 0 := ⟨⟨(tW_in 493 (by decide +kernel) rfl), (tW_in 496 (by decide +kernel) rfl), (tW_in 51 (by decide +kernel) rfl), ⟨by decide +kernel, by decide +kernel⟩, by decide +kernel⟩, (tW_in 494 (by decide +kernel) rfl), (tW_in 495 (by decide +kernel) rfl), by decide +kernel⟩
theorem cw_L_57 : CV RL 57 5 yX5_fault cX5_fault 1 (some .int) 0 := ⟨⟨(tW_in 497 (by decide +kernel) rfl), (tW_in 500 (by decide +kernel) rfl), (tW_in 51 (by decide +kernel) rfl), ⟨by decide +kernel, by decide +kernel⟩, by decide +kernel⟩, (tW_in 498 (by decide +kernel) rfl), (tW_in 499 (by decide +kernel) rfl), by decide +kernel⟩
theorem cw_X5_136 : CV RX5 136 2 yX2_findFault cX2_findFault 1 (some .int) 0 := ⟨⟨(tW_in 501 (by decide +kernel) rfl), (tW_in 504 (by decide +kernel) rfl), (tW_in 57 (by decide +kernel) rfl), ⟨by decide +kernel, by decide +kernel⟩, by decide +kernel⟩, (tW_in 502 (by decide +kernel) rfl), (tW_in 503 (by decide +kernel) rfl), by decide +kernel⟩
theorem cw_X2_24 : CV RX2 24 2 yX2_readArrival cX2_readArrival 1 (some .boolean) 0 := ⟨⟨(tW_in 505 (by decide +kernel) rfl), (tW_in 508 (by decide +kernel) rfl), (tW_in 57 (by decide +kernel) rfl), ⟨by decide +kernel, by decide +kernel⟩, by decide +kernel⟩, (tW_in 507 (by decide +kernel) rfl), (tW_in 1 (by decide +kernel) rfl), by decide +kernel⟩
theorem cw_X2_31 : CV RX2 31 2 yX2_readNumber cX2_readNumber 5 (some .int) 1 := ⟨⟨(tW_in 509 (by decide +kernel) rfl), (tW_in 512 (by decide +kernel) rfl), (tW_in 57 (by decide +kernel) rfl), ⟨by decide +kernel, by decide +kernel⟩, by decide +kernel⟩, (tW_in 511 (by decide +kernel) rfl), (tW_in 2 (by decide +kernel) rfl), by decide +kernel⟩
theorem cw_X2_38 : CV RX2 38 2 yX2_readBehind cX2_readBehind 5 (some .int) 3 := ⟨⟨(tW_in 513 (by decide +kernel) rfl), (tW_in 516 (by decide +kernel) rfl), (tW_in 57 (by decide +kernel) rfl), ⟨by decide +kernel, by decide +kernel⟩, by decide +kernel⟩, (tW_in 515 (by decide +kernel) rfl), (tW_in 3 (by decide +kernel) rfl), by decide +kernel⟩
theorem cw_L_61 : CV RL 61 5 yX5_load cX5_load 2 (some .int) 0 := ⟨⟨(tW_in 517 (by decide +kernel) rfl), (tW_in 520 (by decide +kernel) rfl), (tW_in 51 (by decide +kernel) rfl), ⟨by decide +kernel, by decide +kernel⟩, by decide +kernel⟩, (tW_in 518 (by decide +kernel) rfl), (tW_in 519 (by decide +kernel) rfl), by decide +kernel⟩
theorem cw_X5_140 : CV RX5 140 5 yX5_hasFlowsOfPad cX5_hasFlowsOfPad 3 (some .boolean) 0 := ⟨⟨(tW_in 521 (by decide +kernel) rfl), (tW_in 524 (by decide +kernel) rfl), (tW_in 51 (by decide +kernel) rfl), ⟨by decide +kernel, by decide +kernel⟩, by decide +kernel⟩, (tW_in 523 (by decide +kernel) rfl), (tW_in 4 (by decide +kernel) rfl), by decide +kernel⟩
theorem cw_X5_301 : CV RX5 301 2 yX2_rewind cX2_rewind 1 (none) 0 := ⟨⟨(tW_in 525 (by decide +kernel) rfl), (tW_in 528 (by decide +kernel) rfl), (tW_in 57 (by decide +kernel) rfl), ⟨by decide +kernel, by decide +kernel⟩, by decide +kernel⟩, (tW_in 526 (by decide +kernel) rfl), (tW_in 527 (by decide +kernel) rfl), by decide +kernel⟩
theorem cw_X5_304 : CV RX5 304 2 yX2_readNext cX2_readNext 2 (some .boolean) 0 := ⟨⟨(tW_in 529 (by decide +kernel) rfl), (tW_in 532 (by decide +kernel) rfl), (tW_in 57 (by decide +kernel) rfl), ⟨by decide +kernel, by decide +kernel⟩, by decide +kernel⟩, (tW_in 530 (by decide +kernel) rfl), (tW_in 531 (by decide +kernel) rfl), by decide +kernel⟩
theorem cw_X5_143 : CV RX5 143 5 yX5_acceptArrivals cX5_acceptArrivals 5 (some .int) 0 := ⟨⟨(tW_in 533 (by decide +kernel) rfl), (tW_in 536 (by decide +kernel) rfl), (tW_in 51 (by decide +kernel) rfl), ⟨by decide +kernel, by decide +kernel⟩, by decide +kernel⟩, (tW_in 535 (by decide +kernel) rfl), (tW_in 5 (by decide +kernel) rfl), by decide +kernel⟩
theorem cw_L_65 : CV RL 65 5 yX5_advance cX5_advance 3 (some .int) 1 := ⟨⟨(tW_in 537 (by decide +kernel) rfl), (tW_in 540 (by decide +kernel) rfl), (tW_in 51 (by decide +kernel) rfl), ⟨by decide +kernel, by decide +kernel⟩, by decide +kernel⟩, (tW_in 538 (by decide +kernel) rfl), (tW_in 539 (by decide +kernel) rfl), by decide +kernel⟩
theorem cw_X5_150 : CV RX5 150 4 yX4_makeTick cX4_makeTick 2 (none) 0 := ⟨⟨(tW_in 542 (by decide +kernel) rfl), (tW_in 545 (by decide +kernel) rfl), (tW_in 52 (by decide +kernel) rfl), ⟨by decide +kernel, by decide +kernel⟩, by decide +kernel⟩, (tW_in 543 (by decide +kernel) rfl), (tW_in 544 (by decide +kernel) rfl), by decide +kernel⟩
theorem cw_X4_146 : CV RX4 146 4 yX4_moveTime cX4_moveTime 1 (none) 0 := ⟨⟨(tW_in 546 (by decide +kernel) rfl), (tW_in 549 (by decide +kernel) rfl), (tW_in 52 (by decide +kernel) rfl), ⟨by decide +kernel, by decide +kernel⟩, by decide +kernel⟩, (tW_in 548 (by decide +kernel) rfl), (tW_in 6 (by decide +kernel) rfl), by decide +kernel⟩
theorem cw_X4_171 : CV RX4 171 4 yX4_finishPiece cX4_finishPiece 4 (none) 0 := ⟨⟨(tW_in 550 (by decide +kernel) rfl), (tW_in 553 (by decide +kernel) rfl), (tW_in 52 (by decide +kernel) rfl), ⟨by decide +kernel, by decide +kernel⟩, by decide +kernel⟩, (tW_in 552 (by decide +kernel) rfl), (tW_in 7 (by decide +kernel) rfl), by decide +kernel⟩
theorem cw_X4_199 : CV RX4 199 4 yX4_recordPiece cX4_recordPiece 1 (none) 0 := ⟨⟨(tW_in 554 (by decide +kernel) rfl), (tW_in 557 (by decide +kernel) rfl), (tW_in 52 (by decide +kernel) rfl), ⟨by decide +kernel, by decide +kernel⟩, by decide +kernel⟩, (tW_in 556 (by decide +kernel) rfl), (tW_in 8 (by decide +kernel) rfl), by decide +kernel⟩
theorem cw_X4_217 : CV RX4 217 4 yX4_pieceAt cX4_pieceAt 2 (some (.object "FairLink$Piece")) 1 := ⟨⟨(tW_in 558 (by decide +kernel) rfl), (tW_in 561 (by decide +kernel) rfl), (tW_in 52 (by decide +kernel) rfl), ⟨by decide +kernel, by decide +kernel⟩, by decide +kernel⟩, (tW_in 559 (by decide +kernel) rfl), (tW_in 560 (by decide +kernel) rfl), by decide +kernel⟩
theorem cw_X4_221 : CV RX4 221 3 yX3_copyFrom cX3_copyFrom 2 (none) 1 := ⟨⟨(tW_in 562 (by decide +kernel) rfl), (tW_in 565 (by decide +kernel) rfl), (tW_in 56 (by decide +kernel) rfl), ⟨by decide +kernel, by decide +kernel⟩, by decide +kernel⟩, (tW_in 563 (by decide +kernel) rfl), (tW_in 564 (by decide +kernel) rfl), by decide +kernel⟩
theorem cw_X4_225 : CV RX4 225 3 yX3_clear cX3_clear 1 (none) 0 := ⟨⟨(tW_in 566 (by decide +kernel) rfl), (tW_in 231 (by decide +kernel) rfl), (tW_in 56 (by decide +kernel) rfl), ⟨by decide +kernel, by decide +kernel⟩, by decide +kernel⟩, (tW_in 229 (by decide +kernel) rfl), (tW_in 230 (by decide +kernel) rfl), by decide +kernel⟩
theorem cw_X4_202 : CV RX4 202 0 yX0_leaveQueue cX0_leaveQueue 4 (none) 1 := ⟨⟨(tW_in 567 (by decide +kernel) rfl), (tW_in 452 (by decide +kernel) rfl), (tW_in 54 (by decide +kernel) rfl), ⟨by decide +kernel, by decide +kernel⟩, by decide +kernel⟩, (tW_in 450 (by decide +kernel) rfl), (tW_in 451 (by decide +kernel) rfl), by decide +kernel⟩
theorem cw_X4_205 : CV RX4 205 4 yX4_deliver cX4_deliver 3 (none) 1 := ⟨⟨(tW_in 568 (by decide +kernel) rfl), (tW_in 571 (by decide +kernel) rfl), (tW_in 52 (by decide +kernel) rfl), ⟨by decide +kernel, by decide +kernel⟩, by decide +kernel⟩, (tW_in 570 (by decide +kernel) rfl), (tW_in 9 (by decide +kernel) rfl), by decide +kernel⟩
theorem cw_X4_231 : CV RX4 231 1 yX1_delay cX1_delay 1 (some .int) 0 := ⟨⟨(tW_in 572 (by decide +kernel) rfl), (tW_in 575 (by decide +kernel) rfl), (tW_in 55 (by decide +kernel) rfl), ⟨by decide +kernel, by decide +kernel⟩, by decide +kernel⟩, (tW_in 573 (by decide +kernel) rfl), (tW_in 574 (by decide +kernel) rfl), by decide +kernel⟩
theorem cw_X4_234 : CV RX4 234 1 yX1_isLate cX1_isLate 1 (some .boolean) 0 := ⟨⟨(tW_in 576 (by decide +kernel) rfl), (tW_in 579 (by decide +kernel) rfl), (tW_in 55 (by decide +kernel) rfl), ⟨by decide +kernel, by decide +kernel⟩, by decide +kernel⟩, (tW_in 577 (by decide +kernel) rfl), (tW_in 578 (by decide +kernel) rfl), by decide +kernel⟩
theorem cw_X4_238 : CV RX4 238 0 yX0_noteDelivery cX0_noteDelivery 3 (none) 2 := ⟨⟨(tW_in 580 (by decide +kernel) rfl), (tW_in 583 (by decide +kernel) rfl), (tW_in 54 (by decide +kernel) rfl), ⟨by decide +kernel, by decide +kernel⟩, by decide +kernel⟩, (tW_in 581 (by decide +kernel) rfl), (tW_in 582 (by decide +kernel) rfl), by decide +kernel⟩
theorem cw_X0_74 : CS RX0 74 yJ9_max_7cf53 cJ9_max_7cf53 2 (some .int) 2 := ⟨⟨(tW_in 584 (by decide +kernel) rfl), (tW_in 411 (by decide +kernel) rfl), (tW_in 59 (by decide +kernel) rfl), ⟨by decide +kernel, by decide +kernel⟩, by decide +kernel⟩, (tW_in 410 (by decide +kernel) rfl)⟩
theorem cw_X4_177 : CV RX4 177 4 yX4_deliverJoined cX4_deliverJoined 3 (none) 0 := ⟨⟨(tW_in 585 (by decide +kernel) rfl), (tW_in 588 (by decide +kernel) rfl), (tW_in 52 (by decide +kernel) rfl), ⟨by decide +kernel, by decide +kernel⟩, by decide +kernel⟩, (tW_in 587 (by decide +kernel) rfl), (tW_in 10 (by decide +kernel) rfl), by decide +kernel⟩
theorem cw_X4_149 : CV RX4 149 0 yX0_makeIdleTick cX0_makeIdleTick 4 (none) 1 := ⟨⟨(tW_in 589 (by decide +kernel) rfl), (tW_in 592 (by decide +kernel) rfl), (tW_in 54 (by decide +kernel) rfl), ⟨by decide +kernel, by decide +kernel⟩, by decide +kernel⟩, (tW_in 590 (by decide +kernel) rfl), (tW_in 591 (by decide +kernel) rfl), by decide +kernel⟩
theorem cw_X0_80 : CV RX0 80 0 yX0_forgive cX0_forgive 5 (none) 1 := ⟨⟨(tW_in 593 (by decide +kernel) rfl), (tW_in 596 (by decide +kernel) rfl), (tW_in 54 (by decide +kernel) rfl), ⟨by decide +kernel, by decide +kernel⟩, by decide +kernel⟩, (tW_in 595 (by decide +kernel) rfl), (tW_in 11 (by decide +kernel) rfl), by decide +kernel⟩
theorem cw_X4_153 : CV RX4 153 4 yX4_drainFluid cX4_drainFluid 3 (none) 0 := ⟨⟨(tW_in 598 (by decide +kernel) rfl), (tW_in 601 (by decide +kernel) rfl), (tW_in 52 (by decide +kernel) rfl), ⟨by decide +kernel, by decide +kernel⟩, by decide +kernel⟩, (tW_in 600 (by decide +kernel) rfl), (tW_in 12 (by decide +kernel) rfl), by decide +kernel⟩
theorem cw_X4_242 : CV RX4 242 0 yX0_loseFluid cX0_loseFluid 6 (none) 1 := ⟨⟨(tW_in 602 (by decide +kernel) rfl), (tW_in 605 (by decide +kernel) rfl), (tW_in 54 (by decide +kernel) rfl), ⟨by decide +kernel, by decide +kernel⟩, by decide +kernel⟩, (tW_in 603 (by decide +kernel) rfl), (tW_in 604 (by decide +kernel) rfl), by decide +kernel⟩
theorem cw_X0_86 : CS RX0 86 yJ9_min_f86c9 cJ9_min_f86c9 4 (some .long) 2 := ⟨⟨(tW_in 606 (by decide +kernel) rfl), (tW_in 608 (by decide +kernel) rfl), (tW_in 59 (by decide +kernel) rfl), ⟨by decide +kernel, by decide +kernel⟩, by decide +kernel⟩, (tW_in 607 (by decide +kernel) rfl)⟩
theorem cw_X0_90 : CV RX0 90 0 yX0_lag cX0_lag 1 (some .long) 0 := ⟨⟨(tW_in 609 (by decide +kernel) rfl), (tW_in 612 (by decide +kernel) rfl), (tW_in 54 (by decide +kernel) rfl), ⟨by decide +kernel, by decide +kernel⟩, by decide +kernel⟩, (tW_in 610 (by decide +kernel) rfl), (tW_in 611 (by decide +kernel) rfl), by decide +kernel⟩
theorem cw_X0_94 : CS RX0 94 yJ9_max_f86c9 cJ9_max_f86c9 4 (some .long) 2 := ⟨⟨(tW_in 613 (by decide +kernel) rfl), (tW_in 425 (by decide +kernel) rfl), (tW_in 59 (by decide +kernel) rfl), ⟨by decide +kernel, by decide +kernel⟩, by decide +kernel⟩, (tW_in 424 (by decide +kernel) rfl)⟩
theorem cw_X4_156 : CV RX4 156 4 yX4_beginPieceIfFree cX4_beginPieceIfFree 3 (none) 0 := ⟨⟨(tW_in 614 (by decide +kernel) rfl), (tW_in 617 (by decide +kernel) rfl), (tW_in 52 (by decide +kernel) rfl), ⟨by decide +kernel, by decide +kernel⟩, by decide +kernel⟩, (tW_in 616 (by decide +kernel) rfl), (tW_in 13 (by decide +kernel) rfl), by decide +kernel⟩
theorem cw_X4_245 : CV RX4 245 4 yX4_urgentFlow cX4_urgentFlow 5 (some .int) 0 := ⟨⟨(tW_in 618 (by decide +kernel) rfl), (tW_in 621 (by decide +kernel) rfl), (tW_in 52 (by decide +kernel) rfl), ⟨by decide +kernel, by decide +kernel⟩, by decide +kernel⟩, (tW_in 620 (by decide +kernel) rfl), (tW_in 14 (by decide +kernel) rfl), by decide +kernel⟩
theorem cw_X4_102 : CV RX4 102 0 yX0_head cX0_head 1 (some .int) 0 := ⟨⟨(tW_in 622 (by decide +kernel) rfl), (tW_in 625 (by decide +kernel) rfl), (tW_in 54 (by decide +kernel) rfl), ⟨by decide +kernel, by decide +kernel⟩, by decide +kernel⟩, (tW_in 623 (by decide +kernel) rfl), (tW_in 624 (by decide +kernel) rfl), by decide +kernel⟩
theorem cw_X4_262 : CV RX4 262 4 yX4_isUrgent cX4_isUrgent 2 (some .boolean) 1 := ⟨⟨(tW_in 626 (by decide +kernel) rfl), (tW_in 464 (by decide +kernel) rfl), (tW_in 52 (by decide +kernel) rfl), ⟨by decide +kernel, by decide +kernel⟩, by decide +kernel⟩, (tW_in 462 (by decide +kernel) rfl), (tW_in 463 (by decide +kernel) rfl), by decide +kernel⟩
theorem cw_X4_248 : CV RX4 248 4 yX4_leastTagFlow cX4_leastTagFlow 7 (some .int) 0 := ⟨⟨(tW_in 627 (by decide +kernel) rfl), (tW_in 630 (by decide +kernel) rfl), (tW_in 52 (by decide +kernel) rfl), ⟨by decide +kernel, by decide +kernel⟩, by decide +kernel⟩, (tW_in 629 (by decide +kernel) rfl), (tW_in 15 (by decide +kernel) rfl), by decide +kernel⟩
theorem cw_X4_251 : CV RX4 251 4 yX4_tagOrFinish cX4_tagOrFinish 3 (some .long) 1 := ⟨⟨(tW_in 631 (by decide +kernel) rfl), (tW_in 634 (by decide +kernel) rfl), (tW_in 52 (by decide +kernel) rfl), ⟨by decide +kernel, by decide +kernel⟩, by decide +kernel⟩, (tW_in 632 (by decide +kernel) rfl), (tW_in 633 (by decide +kernel) rfl), by decide +kernel⟩
theorem cw_X4_255 : CV RX4 255 4 yX4_beginPiece cX4_beginPiece 5 (none) 2 := ⟨⟨(tW_in 635 (by decide +kernel) rfl), (tW_in 638 (by decide +kernel) rfl), (tW_in 52 (by decide +kernel) rfl), ⟨by decide +kernel, by decide +kernel⟩, by decide +kernel⟩, (tW_in 637 (by decide +kernel) rfl), (tW_in 16 (by decide +kernel) rfl), by decide +kernel⟩
theorem cw_X4_259 : CS RX4 259 yJ9_min_7cf53 cJ9_min_7cf53 2 (some .int) 2 := ⟨⟨(tW_in 639 (by decide +kernel) rfl), (tW_in 641 (by decide +kernel) rfl), (tW_in 59 (by decide +kernel) rfl), ⟨by decide +kernel, by decide +kernel⟩, by decide +kernel⟩, (tW_in 640 (by decide +kernel) rfl)⟩
theorem cw_L_69 : CV RL 69 5 yX5_awaitDelivery cX5_awaitDelivery 3 (some .int) 1 := ⟨⟨(tW_in 642 (by decide +kernel) rfl), (tW_in 645 (by decide +kernel) rfl), (tW_in 51 (by decide +kernel) rfl), ⟨by decide +kernel, by decide +kernel⟩, by decide +kernel⟩, (tW_in 643 (by decide +kernel) rfl), (tW_in 644 (by decide +kernel) rfl), by decide +kernel⟩
theorem cw_L_73 : CV RL 73 5 yX5_flow cX5_flow 4 (some .int) 2 := ⟨⟨(tW_in 646 (by decide +kernel) rfl), (tW_in 649 (by decide +kernel) rfl), (tW_in 51 (by decide +kernel) rfl), ⟨by decide +kernel, by decide +kernel⟩, by decide +kernel⟩, (tW_in 647 (by decide +kernel) rfl), (tW_in 648 (by decide +kernel) rfl), by decide +kernel⟩
theorem cw_X5_156 : CV RX5 156 0 yX0_head cX0_head 1 (some .int) 0 := ⟨⟨(tW_in 650 (by decide +kernel) rfl), (tW_in 625 (by decide +kernel) rfl), (tW_in 54 (by decide +kernel) rfl), ⟨by decide +kernel, by decide +kernel⟩, by decide +kernel⟩, (tW_in 623 (by decide +kernel) rfl), (tW_in 624 (by decide +kernel) rfl), by decide +kernel⟩
theorem cw_X5_159 : CV RX5 159 4 yX4_unsentLength cX4_unsentLength 4 (some .int) 1 := ⟨⟨(tW_in 651 (by decide +kernel) rfl), (tW_in 654 (by decide +kernel) rfl), (tW_in 52 (by decide +kernel) rfl), ⟨by decide +kernel, by decide +kernel⟩, by decide +kernel⟩, (tW_in 652 (by decide +kernel) rfl), (tW_in 653 (by decide +kernel) rfl), by decide +kernel⟩
theorem cw_L_77 : CV RL 77 5 yX5_amount cX5_amount 4 (some .long) 2 := ⟨⟨(tW_in 655 (by decide +kernel) rfl), (tW_in 658 (by decide +kernel) rfl), (tW_in 51 (by decide +kernel) rfl), ⟨by decide +kernel, by decide +kernel⟩, by decide +kernel⟩, (tW_in 656 (by decide +kernel) rfl), (tW_in 657 (by decide +kernel) rfl), by decide +kernel⟩
theorem cw_X5_185 : CV RX5 185 4 yX4_tagOrFinish cX4_tagOrFinish 3 (some .long) 1 := ⟨⟨(tW_in 659 (by decide +kernel) rfl), (tW_in 634 (by decide +kernel) rfl), (tW_in 52 (by decide +kernel) rfl), ⟨by decide +kernel, by decide +kernel⟩, by decide +kernel⟩, (tW_in 632 (by decide +kernel) rfl), (tW_in 633 (by decide +kernel) rfl), by decide +kernel⟩
theorem cw_X5_192 : CS RX5 192 yJ9_max_f86c9 cJ9_max_f86c9 4 (some .long) 2 := ⟨⟨(tW_in 660 (by decide +kernel) rfl), (tW_in 425 (by decide +kernel) rfl), (tW_in 59 (by decide +kernel) rfl), ⟨by decide +kernel, by decide +kernel⟩, by decide +kernel⟩, (tW_in 424 (by decide +kernel) rfl)⟩
theorem cw_X5_207 : CV RX5 207 0 yX0_lag cX0_lag 1 (some .long) 0 := ⟨⟨(tW_in 661 (by decide +kernel) rfl), (tW_in 612 (by decide +kernel) rfl), (tW_in 54 (by decide +kernel) rfl), ⟨by decide +kernel, by decide +kernel⟩, by decide +kernel⟩, (tW_in 610 (by decide +kernel) rfl), (tW_in 611 (by decide +kernel) rfl), by decide +kernel⟩
theorem cw_L_82 : CV RL 82 5 yX5_virtualTime cX5_virtualTime 1 (some .long) 0 := ⟨⟨(tW_in 663 (by decide +kernel) rfl), (tW_in 666 (by decide +kernel) rfl), (tW_in 51 (by decide +kernel) rfl), ⟨by decide +kernel, by decide +kernel⟩, by decide +kernel⟩, (tW_in 664 (by decide +kernel) rfl), (tW_in 665 (by decide +kernel) rfl), by decide +kernel⟩
theorem cw_L_87 : CV RL 87 5 yX5_link cX5_link 2 (some .int) 1 := ⟨⟨(tW_in 667 (by decide +kernel) rfl), (tW_in 670 (by decide +kernel) rfl), (tW_in 51 (by decide +kernel) rfl), ⟨by decide +kernel, by decide +kernel⟩, by decide +kernel⟩, (tW_in 668 (by decide +kernel) rfl), (tW_in 669 (by decide +kernel) rfl), by decide +kernel⟩
theorem cw_X5_242 : CV RX5 242 4 yX4_nextFlow cX4_nextFlow 2 (some .int) 0 := ⟨⟨(tW_in 671 (by decide +kernel) rfl), (tW_in 674 (by decide +kernel) rfl), (tW_in 52 (by decide +kernel) rfl), ⟨by decide +kernel, by decide +kernel⟩, by decide +kernel⟩, (tW_in 672 (by decide +kernel) rfl), (tW_in 673 (by decide +kernel) rfl), by decide +kernel⟩
theorem cw_X5_248 : CV RX5 248 4 yX4_oldestPacket cX4_oldestPacket 1 (some .int) 0 := ⟨⟨(tW_in 675 (by decide +kernel) rfl), (tW_in 408 (by decide +kernel) rfl), (tW_in 52 (by decide +kernel) rfl), ⟨by decide +kernel, by decide +kernel⟩, by decide +kernel⟩, (tW_in 406 (by decide +kernel) rfl), (tW_in 407 (by decide +kernel) rfl), by decide +kernel⟩
theorem cw_L_91 : CV RL 91 5 yX5_piece cX5_piece 4 (some .int) 2 := ⟨⟨(tW_in 676 (by decide +kernel) rfl), (tW_in 679 (by decide +kernel) rfl), (tW_in 51 (by decide +kernel) rfl), ⟨by decide +kernel, by decide +kernel⟩, by decide +kernel⟩, (tW_in 677 (by decide +kernel) rfl), (tW_in 678 (by decide +kernel) rfl), by decide +kernel⟩
theorem cw_X5_251 : CV RX5 251 4 yX4_knowsPiece cX4_knowsPiece 2 (some .boolean) 1 := ⟨⟨(tW_in 680 (by decide +kernel) rfl), (tW_in 683 (by decide +kernel) rfl), (tW_in 52 (by decide +kernel) rfl), ⟨by decide +kernel, by decide +kernel⟩, by decide +kernel⟩, (tW_in 681 (by decide +kernel) rfl), (tW_in 682 (by decide +kernel) rfl), by decide +kernel⟩
theorem cw_X4_82 : CV RX4 82 4 yX4_oldestPiece cX4_oldestPiece 1 (some .int) 0 := ⟨⟨(tW_in 684 (by decide +kernel) rfl), (tW_in 687 (by decide +kernel) rfl), (tW_in 52 (by decide +kernel) rfl), ⟨by decide +kernel, by decide +kernel⟩, by decide +kernel⟩, (tW_in 685 (by decide +kernel) rfl), (tW_in 686 (by decide +kernel) rfl), by decide +kernel⟩
theorem cw_X5_254 : CV RX5 254 4 yX4_pieceAt cX4_pieceAt 2 (some (.object "FairLink$Piece")) 1 := ⟨⟨(tW_in 688 (by decide +kernel) rfl), (tW_in 561 (by decide +kernel) rfl), (tW_in 52 (by decide +kernel) rfl), ⟨by decide +kernel, by decide +kernel⟩, by decide +kernel⟩, (tW_in 559 (by decide +kernel) rfl), (tW_in 560 (by decide +kernel) rfl), by decide +kernel⟩
theorem cw_L_95 : CV RL 95 5 yX5_apart cX5_apart 5 (some .long) 2 := ⟨⟨(tW_in 689 (by decide +kernel) rfl), (tW_in 692 (by decide +kernel) rfl), (tW_in 51 (by decide +kernel) rfl), ⟨by decide +kernel, by decide +kernel⟩, by decide +kernel⟩, (tW_in 690 (by decide +kernel) rfl), (tW_in 691 (by decide +kernel) rfl), by decide +kernel⟩
theorem cw_X5_262 : CV RX5 262 0 yX0_share cX0_share 3 (some .long) 1 := ⟨⟨(tW_in 693 (by decide +kernel) rfl), (tW_in 433 (by decide +kernel) rfl), (tW_in 54 (by decide +kernel) rfl), ⟨by decide +kernel, by decide +kernel⟩, by decide +kernel⟩, (tW_in 431 (by decide +kernel) rfl), (tW_in 432 (by decide +kernel) rfl), by decide +kernel⟩
theorem cw_X5_266 : CS RX5 266 yJ9_abs_067f4 cJ9_abs_067f4 2 (some .long) 1 := ⟨⟨(tW_in 694 (by decide +kernel) rfl), (tW_in 696 (by decide +kernel) rfl), (tW_in 59 (by decide +kernel) rfl), ⟨by decide +kernel, by decide +kernel⟩, by decide +kernel⟩, (tW_in 695 (by decide +kernel) rfl)⟩
theorem cw_L_99 : CV RL 99 5 yX5_forecast cX5_forecast 3 (some .int) 2 := ⟨⟨(tW_in 697 (by decide +kernel) rfl), (tW_in 700 (by decide +kernel) rfl), (tW_in 51 (by decide +kernel) rfl), ⟨by decide +kernel, by decide +kernel⟩, by decide +kernel⟩, (tW_in 698 (by decide +kernel) rfl), (tW_in 699 (by decide +kernel) rfl), by decide +kernel⟩
theorem cw_X5_270 : CV RX5 270 5 yX5_freshCopy cX5_freshCopy 1 (some (.object "FairLink$State")) 0 := ⟨⟨(tW_in 701 (by decide +kernel) rfl), (tW_in 704 (by decide +kernel) rfl), (tW_in 51 (by decide +kernel) rfl), ⟨by decide +kernel, by decide +kernel⟩, by decide +kernel⟩, (tW_in 703 (by decide +kernel) rfl), (tW_in 17 (by decide +kernel) rfl), by decide +kernel⟩
theorem cw_X5_291 : CV RX5 291 4 yX4_copyFrom cX4_copyFrom 3 (none) 1 := ⟨⟨(tW_in 705 (by decide +kernel) rfl), (tW_in 708 (by decide +kernel) rfl), (tW_in 52 (by decide +kernel) rfl), ⟨by decide +kernel, by decide +kernel⟩, by decide +kernel⟩, (tW_in 706 (by decide +kernel) rfl), (tW_in 707 (by decide +kernel) rfl), by decide +kernel⟩
theorem cw_X4_273 : CV RX4 273 0 yX0_copyFrom cX0_copyFrom 2 (none) 1 := ⟨⟨(tW_in 709 (by decide +kernel) rfl), (tW_in 712 (by decide +kernel) rfl), (tW_in 54 (by decide +kernel) rfl), ⟨by decide +kernel, by decide +kernel⟩, by decide +kernel⟩, (tW_in 710 (by decide +kernel) rfl), (tW_in 711 (by decide +kernel) rfl), by decide +kernel⟩
theorem cw_X4_276 : CV RX4 276 1 yX1_copyFrom cX1_copyFrom 2 (none) 1 := ⟨⟨(tW_in 713 (by decide +kernel) rfl), (tW_in 716 (by decide +kernel) rfl), (tW_in 55 (by decide +kernel) rfl), ⟨by decide +kernel, by decide +kernel⟩, by decide +kernel⟩, (tW_in 714 (by decide +kernel) rfl), (tW_in 715 (by decide +kernel) rfl), by decide +kernel⟩
theorem cw_X4_279 : CV RX4 279 2 yX2_copyFrom cX2_copyFrom 2 (none) 1 := ⟨⟨(tW_in 717 (by decide +kernel) rfl), (tW_in 720 (by decide +kernel) rfl), (tW_in 57 (by decide +kernel) rfl), ⟨by decide +kernel, by decide +kernel⟩, by decide +kernel⟩, (tW_in 718 (by decide +kernel) rfl), (tW_in 719 (by decide +kernel) rfl), by decide +kernel⟩
theorem cw_X5_274 : CV RX5 274 4 yX4_ticksUntilDelivery cX4_ticksUntilDelivery 4 (some .int) 2 := ⟨⟨(tW_in 722 (by decide +kernel) rfl), (tW_in 725 (by decide +kernel) rfl), (tW_in 52 (by decide +kernel) rfl), ⟨by decide +kernel, by decide +kernel⟩, by decide +kernel⟩, (tW_in 723 (by decide +kernel) rfl), (tW_in 724 (by decide +kernel) rfl), by decide +kernel⟩
theorem cw_X4_159 : CV RX4 159 4 yX4_makeDeliveryTick cX4_makeDeliveryTick 1 (none) 0 := ⟨⟨(tW_in 726 (by decide +kernel) rfl), (tW_in 729 (by decide +kernel) rfl), (tW_in 52 (by decide +kernel) rfl), ⟨by decide +kernel, by decide +kernel⟩, by decide +kernel⟩, (tW_in 727 (by decide +kernel) rfl), (tW_in 728 (by decide +kernel) rfl), by decide +kernel⟩
theorem cw_L_103 : CV RL 103 5 yX5_leastWeight cX5_leastWeight 6 (some .int) 2 := ⟨⟨(tW_in 730 (by decide +kernel) rfl), (tW_in 733 (by decide +kernel) rfl), (tW_in 51 (by decide +kernel) rfl), ⟨by decide +kernel, by decide +kernel⟩, by decide +kernel⟩, (tW_in 731 (by decide +kernel) rfl), (tW_in 732 (by decide +kernel) rfl), by decide +kernel⟩
theorem cw_L_107 : CV RL 107 5 yX5_bestSplit cX5_bestSplit 11 (some .int) 5 := ⟨⟨(tW_in 734 (by decide +kernel) rfl), (tW_in 737 (by decide +kernel) rfl), (tW_in 51 (by decide +kernel) rfl), ⟨by decide +kernel, by decide +kernel⟩, by decide +kernel⟩, (tW_in 735 (by decide +kernel) rfl), (tW_in 736 (by decide +kernel) rfl), by decide +kernel⟩
theorem cw_X5_278 : CS RX5 278 yX5_areSplits cX5_areSplits 3 (some .boolean) 3 := ⟨⟨(tW_in 738 (by decide +kernel) rfl), (tW_in 740 (by decide +kernel) rfl), (tW_in 51 (by decide +kernel) rfl), ⟨by decide +kernel, by decide +kernel⟩, by decide +kernel⟩, (tW_in 739 (by decide +kernel) rfl)⟩
theorem cw_X5_282 : CV RX5 282 4 yX4_areQueuesEmpty cX4_areQueuesEmpty 2 (some .boolean) 0 := ⟨⟨(tW_in 741 (by decide +kernel) rfl), (tW_in 744 (by decide +kernel) rfl), (tW_in 52 (by decide +kernel) rfl), ⟨by decide +kernel, by decide +kernel⟩, by decide +kernel⟩, (tW_in 742 (by decide +kernel) rfl), (tW_in 743 (by decide +kernel) rfl), by decide +kernel⟩
theorem cw_X5_288 : CV RX5 288 5 yX5_greatestDelayWith cX5_greatestDelayWith 8 (some .int) 3 := ⟨⟨(tW_in 746 (by decide +kernel) rfl), (tW_in 749 (by decide +kernel) rfl), (tW_in 51 (by decide +kernel) rfl), ⟨by decide +kernel, by decide +kernel⟩, by decide +kernel⟩, (tW_in 748 (by decide +kernel) rfl), (tW_in 18 (by decide +kernel) rfl), by decide +kernel⟩
theorem cw_X5_313 : CV RX5 313 4 yX4_makeDeliveryTick cX4_makeDeliveryTick 1 (none) 0 := ⟨⟨(tW_in 750 (by decide +kernel) rfl), (tW_in 729 (by decide +kernel) rfl), (tW_in 52 (by decide +kernel) rfl), ⟨by decide +kernel, by decide +kernel⟩, by decide +kernel⟩, (tW_in 727 (by decide +kernel) rfl), (tW_in 728 (by decide +kernel) rfl), by decide +kernel⟩
theorem cw_X5_316 : CV RX5 316 1 yX1_delay cX1_delay 1 (some .int) 0 := ⟨⟨(tW_in 751 (by decide +kernel) rfl), (tW_in 575 (by decide +kernel) rfl), (tW_in 55 (by decide +kernel) rfl), ⟨by decide +kernel, by decide +kernel⟩, by decide +kernel⟩, (tW_in 573 (by decide +kernel) rfl), (tW_in 574 (by decide +kernel) rfl), by decide +kernel⟩
theorem cw_X5_319 : CS RX5 319 yJ9_max_7cf53 cJ9_max_7cf53 2 (some .int) 2 := ⟨⟨(tW_in 752 (by decide +kernel) rfl), (tW_in 411 (by decide +kernel) rfl), (tW_in 59 (by decide +kernel) rfl), ⟨by decide +kernel, by decide +kernel⟩, by decide +kernel⟩, (tW_in 410 (by decide +kernel) rfl)⟩
theorem cw_L_112 : CV RL 112 5 yX5_save cX5_save 2 (some .int) 1 := ⟨⟨(tW_in 753 (by decide +kernel) rfl), (tW_in 756 (by decide +kernel) rfl), (tW_in 51 (by decide +kernel) rfl), ⟨by decide +kernel, by decide +kernel⟩, by decide +kernel⟩, (tW_in 754 (by decide +kernel) rfl), (tW_in 755 (by decide +kernel) rfl), by decide +kernel⟩
theorem cw_L_116 : CV RL 116 5 yX5_restore cX5_restore 2 (some .int) 1 := ⟨⟨(tW_in 757 (by decide +kernel) rfl), (tW_in 760 (by decide +kernel) rfl), (tW_in 51 (by decide +kernel) rfl), ⟨by decide +kernel, by decide +kernel⟩, by decide +kernel⟩, (tW_in 758 (by decide +kernel) rfl), (tW_in 759 (by decide +kernel) rfl), by decide +kernel⟩
theorem cw_L_12 : CI RL 12 yX6_init cX6_init 1 0 := ⟨⟨(tW_in 763 (by decide +kernel) rfl), (tW_in 765 (by decide +kernel) rfl), (tW_in 58 (by decide +kernel) rfl), ⟨by decide +kernel, by decide +kernel⟩, by decide +kernel⟩, rfl, (tW_in 764 (by decide +kernel) rfl)⟩
theorem cw_L_17 : CV RL 17 6 yX6_addFlow cX6_addFlow 4 (some .int) 1 := ⟨⟨(tW_in 806 (by decide +kernel) rfl), (tW_in 809 (by decide +kernel) rfl), (tW_in 58 (by decide +kernel) rfl), ⟨by decide +kernel, by decide +kernel⟩, by decide +kernel⟩, (tW_in 807 (by decide +kernel) rfl), (tW_in 808 (by decide +kernel) rfl), by decide +kernel⟩
theorem cw_X6_36 : CS RX6 36 yX6_in cX6_in 6 (some .boolean) 3 := ⟨⟨(tW_in 811 (by decide +kernel) rfl), (tW_in 813 (by decide +kernel) rfl), (tW_in 58 (by decide +kernel) rfl), ⟨by decide +kernel, by decide +kernel⟩, by decide +kernel⟩, (tW_in 812 (by decide +kernel) rfl)⟩
theorem cw_X6_40 : CS RX6 40 yX6_flowAt cX6_flowAt 2 (some .int) 2 := ⟨⟨(tW_in 815 (by decide +kernel) rfl), (tW_in 817 (by decide +kernel) rfl), (tW_in 58 (by decide +kernel) rfl), ⟨by decide +kernel, by decide +kernel⟩, by decide +kernel⟩, (tW_in 816 (by decide +kernel) rfl)⟩
theorem cw_L_22 : CV RL 22 6 yX6_set cX6_set 5 (some .int) 3 := ⟨⟨(tW_in 819 (by decide +kernel) rfl), (tW_in 822 (by decide +kernel) rfl), (tW_in 58 (by decide +kernel) rfl), ⟨by decide +kernel, by decide +kernel⟩, by decide +kernel⟩, (tW_in 820 (by decide +kernel) rfl), (tW_in 821 (by decide +kernel) rfl), by decide +kernel⟩
theorem cw_X6_72 : CV RX6 72 6 yX6_isFlow cX6_isFlow 2 (some .boolean) 1 := ⟨⟨(tW_in 823 (by decide +kernel) rfl), (tW_in 826 (by decide +kernel) rfl), (tW_in 58 (by decide +kernel) rfl), ⟨by decide +kernel, by decide +kernel⟩, by decide +kernel⟩, (tW_in 825 (by decide +kernel) rfl), (tW_in 19 (by decide +kernel) rfl), by decide +kernel⟩
theorem cw_X6_75 : CS RX6 75 yX6_isSetting cX6_isSetting 2 (some .boolean) 2 := ⟨⟨(tW_in 827 (by decide +kernel) rfl), (tW_in 829 (by decide +kernel) rfl), (tW_in 58 (by decide +kernel) rfl), ⟨by decide +kernel, by decide +kernel⟩, by decide +kernel⟩, (tW_in 828 (by decide +kernel) rfl)⟩
theorem cw_X6_53 : CV RX6 53 6 yX6_ofFlow cX6_ofFlow 3 (some .long) 2 := ⟨⟨(tW_in 831 (by decide +kernel) rfl), (tW_in 834 (by decide +kernel) rfl), (tW_in 58 (by decide +kernel) rfl), ⟨by decide +kernel, by decide +kernel⟩, by decide +kernel⟩, (tW_in 833 (by decide +kernel) rfl), (tW_in 20 (by decide +kernel) rfl), by decide +kernel⟩
theorem cw_L_27 : CV RL 27 6 yX6_rule cX6_rule 5 (some .int) 2 := ⟨⟨(tW_in 835 (by decide +kernel) rfl), (tW_in 838 (by decide +kernel) rfl), (tW_in 58 (by decide +kernel) rfl), ⟨by decide +kernel, by decide +kernel⟩, by decide +kernel⟩, (tW_in 836 (by decide +kernel) rfl), (tW_in 837 (by decide +kernel) rfl), by decide +kernel⟩
theorem cw_L_31 : CV RL 31 6 yX6_offer cX6_offer 4 (some .int) 3 := ⟨⟨(tW_in 840 (by decide +kernel) rfl), (tW_in 843 (by decide +kernel) rfl), (tW_in 58 (by decide +kernel) rfl), ⟨by decide +kernel, by decide +kernel⟩, by decide +kernel⟩, (tW_in 841 (by decide +kernel) rfl), (tW_in 842 (by decide +kernel) rfl), by decide +kernel⟩
theorem cw_X6_87 : CV RX6 87 6 yX6_hasRoom cX6_hasRoom 4 (some .boolean) 1 := ⟨⟨(tW_in 846 (by decide +kernel) rfl), (tW_in 849 (by decide +kernel) rfl), (tW_in 58 (by decide +kernel) rfl), ⟨by decide +kernel, by decide +kernel⟩, by decide +kernel⟩, (tW_in 848 (by decide +kernel) rfl), (tW_in 21 (by decide +kernel) rfl), by decide +kernel⟩
theorem cw_X6_49 : CV RX6 49 6 yX6_of cX6_of 3 (some .long) 2 := ⟨⟨(tW_in 850 (by decide +kernel) rfl), (tW_in 853 (by decide +kernel) rfl), (tW_in 58 (by decide +kernel) rfl), ⟨by decide +kernel, by decide +kernel⟩, by decide +kernel⟩, (tW_in 852 (by decide +kernel) rfl), (tW_in 22 (by decide +kernel) rfl), by decide +kernel⟩
theorem cw_X6_46 : CS RX6 46 yX6_packetAt cX6_packetAt 2 (some .int) 2 := ⟨⟨(tW_in 854 (by decide +kernel) rfl), (tW_in 856 (by decide +kernel) rfl), (tW_in 58 (by decide +kernel) rfl), ⟨by decide +kernel, by decide +kernel⟩, by decide +kernel⟩, (tW_in 855 (by decide +kernel) rfl)⟩
theorem cw_X6_90 : CV RX6 90 6 yX6_take cX6_take 7 (some .int) 3 := ⟨⟨(tW_in 857 (by decide +kernel) rfl), (tW_in 860 (by decide +kernel) rfl), (tW_in 58 (by decide +kernel) rfl), ⟨by decide +kernel, by decide +kernel⟩, by decide +kernel⟩, (tW_in 859 (by decide +kernel) rfl), (tW_in 23 (by decide +kernel) rfl), by decide +kernel⟩
theorem cw_L_35 : CV RL 35 6 yX6_cancel cX6_cancel 3 (some .int) 1 := ⟨⟨(tW_in 862 (by decide +kernel) rfl), (tW_in 865 (by decide +kernel) rfl), (tW_in 58 (by decide +kernel) rfl), ⟨by decide +kernel, by decide +kernel⟩, by decide +kernel⟩, (tW_in 863 (by decide +kernel) rfl), (tW_in 864 (by decide +kernel) rfl), by decide +kernel⟩
theorem cw_X6_94 : CV RX6 94 6 yX6_isKnown cX6_isKnown 2 (some .boolean) 1 := ⟨⟨(tW_in 866 (by decide +kernel) rfl), (tW_in 869 (by decide +kernel) rfl), (tW_in 58 (by decide +kernel) rfl), ⟨by decide +kernel, by decide +kernel⟩, by decide +kernel⟩, (tW_in 868 (by decide +kernel) rfl), (tW_in 24 (by decide +kernel) rfl), by decide +kernel⟩
theorem cw_L_39 : CV RL 39 6 yX6_packet cX6_packet 3 (some .int) 2 := ⟨⟨(tW_in 872 (by decide +kernel) rfl), (tW_in 875 (by decide +kernel) rfl), (tW_in 58 (by decide +kernel) rfl), ⟨by decide +kernel, by decide +kernel⟩, by decide +kernel⟩, (tW_in 873 (by decide +kernel) rfl), (tW_in 874 (by decide +kernel) rfl), by decide +kernel⟩
theorem cw_X6_60 : CV RX6 60 6 yX6_isQueued cX6_isQueued 2 (some .boolean) 1 := ⟨⟨(tW_in 877 (by decide +kernel) rfl), (tW_in 880 (by decide +kernel) rfl), (tW_in 58 (by decide +kernel) rfl), ⟨by decide +kernel, by decide +kernel⟩, by decide +kernel⟩, (tW_in 879 (by decide +kernel) rfl), (tW_in 25 (by decide +kernel) rfl), by decide +kernel⟩
theorem cw_X6_105 : CV RX6 105 6 yX6_isUrgent cX6_isUrgent 2 (some .boolean) 1 := ⟨⟨(tW_in 881 (by decide +kernel) rfl), (tW_in 884 (by decide +kernel) rfl), (tW_in 58 (by decide +kernel) rfl), ⟨by decide +kernel, by decide +kernel⟩, by decide +kernel⟩, (tW_in 883 (by decide +kernel) rfl), (tW_in 26 (by decide +kernel) rfl), by decide +kernel⟩
theorem cw_X6_99 : CV RX6 99 6 yX6_restTicks cX6_restTicks 6 (some .long) 1 := ⟨⟨(tW_in 885 (by decide +kernel) rfl), (tW_in 888 (by decide +kernel) rfl), (tW_in 58 (by decide +kernel) rfl), ⟨by decide +kernel, by decide +kernel⟩, by decide +kernel⟩, (tW_in 887 (by decide +kernel) rfl), (tW_in 27 (by decide +kernel) rfl), by decide +kernel⟩
theorem cw_L_44 : CV RL 44 6 yX6_start cX6_start 2 (some .long) 1 := ⟨⟨(tW_in 889 (by decide +kernel) rfl), (tW_in 892 (by decide +kernel) rfl), (tW_in 58 (by decide +kernel) rfl), ⟨by decide +kernel, by decide +kernel⟩, by decide +kernel⟩, (tW_in 890 (by decide +kernel) rfl), (tW_in 891 (by decide +kernel) rfl), by decide +kernel⟩
theorem cw_L_51 : CV RL 51 6 yX6_put cX6_put 7 (some .int) 1 := ⟨⟨(tW_in 894 (by decide +kernel) rfl), (tW_in 897 (by decide +kernel) rfl), (tW_in 58 (by decide +kernel) rfl), ⟨by decide +kernel, by decide +kernel⟩, by decide +kernel⟩, (tW_in 895 (by decide +kernel) rfl), (tW_in 896 (by decide +kernel) rfl), by decide +kernel⟩
theorem cw_L_56 : CV RL 56 6 yX6_wipe cX6_wipe 2 (some .int) 0 := ⟨⟨(tW_in 902 (by decide +kernel) rfl), (tW_in 905 (by decide +kernel) rfl), (tW_in 58 (by decide +kernel) rfl), ⟨by decide +kernel, by decide +kernel⟩, by decide +kernel⟩, (tW_in 903 (by decide +kernel) rfl), (tW_in 904 (by decide +kernel) rfl), by decide +kernel⟩
theorem cw_L_60 : CV RL 60 6 yX6_fault cX6_fault 2 (some .int) 0 := ⟨⟨(tW_in 906 (by decide +kernel) rfl), (tW_in 909 (by decide +kernel) rfl), (tW_in 58 (by decide +kernel) rfl), ⟨by decide +kernel, by decide +kernel⟩, by decide +kernel⟩, (tW_in 907 (by decide +kernel) rfl), (tW_in 908 (by decide +kernel) rfl), by decide +kernel⟩
theorem cw_X6_146 : CV RX6 146 6 yX6_readArrival cX6_readArrival 2 (none) 0 := ⟨⟨(tW_in 910 (by decide +kernel) rfl), (tW_in 913 (by decide +kernel) rfl), (tW_in 58 (by decide +kernel) rfl), ⟨by decide +kernel, by decide +kernel⟩, by decide +kernel⟩, (tW_in 912 (by decide +kernel) rfl), (tW_in 28 (by decide +kernel) rfl), by decide +kernel⟩
theorem cw_X6_122 : CV RX6 122 6 yX6_next cX6_next 1 (some .int) 0 := ⟨⟨(tW_in 914 (by decide +kernel) rfl), (tW_in 917 (by decide +kernel) rfl), (tW_in 58 (by decide +kernel) rfl), ⟨by decide +kernel, by decide +kernel⟩, by decide +kernel⟩, (tW_in 916 (by decide +kernel) rfl), (tW_in 29 (by decide +kernel) rfl), by decide +kernel⟩
theorem cw_X6_142 : CV RX6 142 6 yX6_readNumber cX6_readNumber 3 (some .int) 1 := ⟨⟨(tW_in 920 (by decide +kernel) rfl), (tW_in 923 (by decide +kernel) rfl), (tW_in 58 (by decide +kernel) rfl), ⟨by decide +kernel, by decide +kernel⟩, by decide +kernel⟩, (tW_in 922 (by decide +kernel) rfl), (tW_in 30 (by decide +kernel) rfl), by decide +kernel⟩
theorem cw_L_64 : CV RL 64 6 yX6_load cX6_load 4 (some .int) 0 := ⟨⟨(tW_in 927 (by decide +kernel) rfl), (tW_in 930 (by decide +kernel) rfl), (tW_in 58 (by decide +kernel) rfl), ⟨by decide +kernel, by decide +kernel⟩, by decide +kernel⟩, (tW_in 928 (by decide +kernel) rfl), (tW_in 929 (by decide +kernel) rfl), by decide +kernel⟩
theorem cw_X6_149 : CV RX6 149 6 yX6_fault cX6_fault 2 (some .int) 0 := ⟨⟨(tW_in 931 (by decide +kernel) rfl), (tW_in 909 (by decide +kernel) rfl), (tW_in 58 (by decide +kernel) rfl), ⟨by decide +kernel, by decide +kernel⟩, by decide +kernel⟩, (tW_in 907 (by decide +kernel) rfl), (tW_in 908 (by decide +kernel) rfl), by decide +kernel⟩
theorem cw_L_68 : CV RL 68 6 yX6_advance cX6_advance 3 (some .int) 1 := ⟨⟨(tW_in 932 (by decide +kernel) rfl), (tW_in 935 (by decide +kernel) rfl), (tW_in 58 (by decide +kernel) rfl), ⟨by decide +kernel, by decide +kernel⟩, by decide +kernel⟩, (tW_in 933 (by decide +kernel) rfl), (tW_in 934 (by decide +kernel) rfl), by decide +kernel⟩
theorem cw_X6_198 : CV RX6 198 6 yX6_tick cX6_tick 2 (none) 0 := ⟨⟨(tW_in 937 (by decide +kernel) rfl), (tW_in 940 (by decide +kernel) rfl), (tW_in 58 (by decide +kernel) rfl), ⟨by decide +kernel, by decide +kernel⟩, by decide +kernel⟩, (tW_in 939 (by decide +kernel) rfl), (tW_in 31 (by decide +kernel) rfl), by decide +kernel⟩
theorem cw_X6_178 : CV RX6 178 6 yX6_pieceDone cX6_pieceDone 3 (none) 0 := ⟨⟨(tW_in 941 (by decide +kernel) rfl), (tW_in 944 (by decide +kernel) rfl), (tW_in 58 (by decide +kernel) rfl), ⟨by decide +kernel, by decide +kernel⟩, by decide +kernel⟩, (tW_in 943 (by decide +kernel) rfl), (tW_in 32 (by decide +kernel) rfl), by decide +kernel⟩
theorem cw_X6_159 : CV RX6 159 6 yX6_notePiece cX6_notePiece 3 (none) 1 := ⟨⟨(tW_in 945 (by decide +kernel) rfl), (tW_in 948 (by decide +kernel) rfl), (tW_in 58 (by decide +kernel) rfl), ⟨by decide +kernel, by decide +kernel⟩, by decide +kernel⟩, (tW_in 947 (by decide +kernel) rfl), (tW_in 33 (by decide +kernel) rfl), by decide +kernel⟩
theorem cw_X6_163 : CV RX6 163 6 yX6_deliver cX6_deliver 5 (none) 1 := ⟨⟨(tW_in 950 (by decide +kernel) rfl), (tW_in 953 (by decide +kernel) rfl), (tW_in 58 (by decide +kernel) rfl), ⟨by decide +kernel, by decide +kernel⟩, by decide +kernel⟩, (tW_in 952 (by decide +kernel) rfl), (tW_in 34 (by decide +kernel) rfl), by decide +kernel⟩
theorem cw_X6_181 : CV RX6 181 6 yX6_joinAll cX6_joinAll 2 (none) 0 := ⟨⟨(tW_in 955 (by decide +kernel) rfl), (tW_in 958 (by decide +kernel) rfl), (tW_in 58 (by decide +kernel) rfl), ⟨by decide +kernel, by decide +kernel⟩, by decide +kernel⟩, (tW_in 957 (by decide +kernel) rfl), (tW_in 35 (by decide +kernel) rfl), by decide +kernel⟩
theorem cw_X6_56 : CV RX6 56 6 yX6_oldest cX6_oldest 1 (some .int) 0 := ⟨⟨(tW_in 959 (by decide +kernel) rfl), (tW_in 962 (by decide +kernel) rfl), (tW_in 58 (by decide +kernel) rfl), ⟨by decide +kernel, by decide +kernel⟩, by decide +kernel⟩, (tW_in 961 (by decide +kernel) rfl), (tW_in 36 (by decide +kernel) rfl), by decide +kernel⟩
theorem cw_X6_184 : CV RX6 184 6 yX6_idle cX6_idle 8 (none) 1 := ⟨⟨(tW_in 963 (by decide +kernel) rfl), (tW_in 966 (by decide +kernel) rfl), (tW_in 58 (by decide +kernel) rfl), ⟨by decide +kernel, by decide +kernel⟩, by decide +kernel⟩, (tW_in 965 (by decide +kernel) rfl), (tW_in 37 (by decide +kernel) rfl), by decide +kernel⟩
theorem cw_X6_187 : CV RX6 187 6 yX6_flowOn cX6_flowOn 6 (none) 0 := ⟨⟨(tW_in 967 (by decide +kernel) rfl), (tW_in 970 (by decide +kernel) rfl), (tW_in 58 (by decide +kernel) rfl), ⟨by decide +kernel, by decide +kernel⟩, by decide +kernel⟩, (tW_in 969 (by decide +kernel) rfl), (tW_in 38 (by decide +kernel) rfl), by decide +kernel⟩
theorem cw_X6_190 : CV RX6 190 6 yX6_begin cX6_begin 7 (none) 0 := ⟨⟨(tW_in 971 (by decide +kernel) rfl), (tW_in 974 (by decide +kernel) rfl), (tW_in 58 (by decide +kernel) rfl), ⟨by decide +kernel, by decide +kernel⟩, by decide +kernel⟩, (tW_in 973 (by decide +kernel) rfl), (tW_in 39 (by decide +kernel) rfl), by decide +kernel⟩
theorem cw_X6_175 : CV RX6 175 6 yX6_nextFlow cX6_nextFlow 9 (some .int) 0 := ⟨⟨(tW_in 975 (by decide +kernel) rfl), (tW_in 978 (by decide +kernel) rfl), (tW_in 58 (by decide +kernel) rfl), ⟨by decide +kernel, by decide +kernel⟩, by decide +kernel⟩, (tW_in 977 (by decide +kernel) rfl), (tW_in 40 (by decide +kernel) rfl), by decide +kernel⟩
theorem cw_X6_166 : CV RX6 166 6 yX6_headOf cX6_headOf 3 (some .int) 1 := ⟨⟨(tW_in 979 (by decide +kernel) rfl), (tW_in 982 (by decide +kernel) rfl), (tW_in 58 (by decide +kernel) rfl), ⟨by decide +kernel, by decide +kernel⟩, by decide +kernel⟩, (tW_in 981 (by decide +kernel) rfl), (tW_in 41 (by decide +kernel) rfl), by decide +kernel⟩
theorem cw_X6_169 : CV RX6 169 6 yX6_tagOf cX6_tagOf 3 (some .long) 1 := ⟨⟨(tW_in 983 (by decide +kernel) rfl), (tW_in 986 (by decide +kernel) rfl), (tW_in 58 (by decide +kernel) rfl), ⟨by decide +kernel, by decide +kernel⟩, by decide +kernel⟩, (tW_in 985 (by decide +kernel) rfl), (tW_in 42 (by decide +kernel) rfl), by decide +kernel⟩
theorem cw_X6_193 : CV RX6 193 6 yX6_lagOf cX6_lagOf 2 (some .long) 1 := ⟨⟨(tW_in 987 (by decide +kernel) rfl), (tW_in 990 (by decide +kernel) rfl), (tW_in 58 (by decide +kernel) rfl), ⟨by decide +kernel, by decide +kernel⟩, by decide +kernel⟩, (tW_in 989 (by decide +kernel) rfl), (tW_in 43 (by decide +kernel) rfl), by decide +kernel⟩
theorem cw_L_72 : CV RL 72 6 yX6_awaitDelivery cX6_awaitDelivery 3 (some .int) 1 := ⟨⟨(tW_in 991 (by decide +kernel) rfl), (tW_in 994 (by decide +kernel) rfl), (tW_in 58 (by decide +kernel) rfl), ⟨by decide +kernel, by decide +kernel⟩, by decide +kernel⟩, (tW_in 992 (by decide +kernel) rfl), (tW_in 993 (by decide +kernel) rfl), by decide +kernel⟩
theorem cw_L_76 : CV RL 76 6 yX6_flow cX6_flow 3 (some .int) 2 := ⟨⟨(tW_in 995 (by decide +kernel) rfl), (tW_in 998 (by decide +kernel) rfl), (tW_in 58 (by decide +kernel) rfl), ⟨by decide +kernel, by decide +kernel⟩, by decide +kernel⟩, (tW_in 996 (by decide +kernel) rfl), (tW_in 997 (by decide +kernel) rfl), by decide +kernel⟩
theorem cw_X6_203 : CV RX6 203 6 yX6_restOf cX6_restOf 5 (some .long) 1 := ⟨⟨(tW_in 1000 (by decide +kernel) rfl), (tW_in 1003 (by decide +kernel) rfl), (tW_in 58 (by decide +kernel) rfl), ⟨by decide +kernel, by decide +kernel⟩, by decide +kernel⟩, (tW_in 1002 (by decide +kernel) rfl), (tW_in 44 (by decide +kernel) rfl), by decide +kernel⟩
theorem cw_L_81 : CV RL 81 6 yX6_amount cX6_amount 5 (some .long) 2 := ⟨⟨(tW_in 1004 (by decide +kernel) rfl), (tW_in 1007 (by decide +kernel) rfl), (tW_in 58 (by decide +kernel) rfl), ⟨by decide +kernel, by decide +kernel⟩, by decide +kernel⟩, (tW_in 1005 (by decide +kernel) rfl), (tW_in 1006 (by decide +kernel) rfl), by decide +kernel⟩
theorem cw_L_86 : CV RL 86 6 yX6_virtualTime cX6_virtualTime 1 (some .long) 0 := ⟨⟨(tW_in 1009 (by decide +kernel) rfl), (tW_in 1012 (by decide +kernel) rfl), (tW_in 58 (by decide +kernel) rfl), ⟨by decide +kernel, by decide +kernel⟩, by decide +kernel⟩, (tW_in 1010 (by decide +kernel) rfl), (tW_in 1011 (by decide +kernel) rfl), by decide +kernel⟩
theorem cw_L_90 : CV RL 90 6 yX6_link cX6_link 2 (some .int) 1 := ⟨⟨(tW_in 1013 (by decide +kernel) rfl), (tW_in 1016 (by decide +kernel) rfl), (tW_in 58 (by decide +kernel) rfl), ⟨by decide +kernel, by decide +kernel⟩, by decide +kernel⟩, (tW_in 1014 (by decide +kernel) rfl), (tW_in 1015 (by decide +kernel) rfl), by decide +kernel⟩
theorem cw_L_94 : CV RL 94 6 yX6_piece cX6_piece 4 (some .int) 2 := ⟨⟨(tW_in 1017 (by decide +kernel) rfl), (tW_in 1020 (by decide +kernel) rfl), (tW_in 58 (by decide +kernel) rfl), ⟨by decide +kernel, by decide +kernel⟩, by decide +kernel⟩, (tW_in 1018 (by decide +kernel) rfl), (tW_in 1019 (by decide +kernel) rfl), by decide +kernel⟩
theorem cw_L_98 : CV RL 98 6 yX6_apart cX6_apart 5 (some .long) 2 := ⟨⟨(tW_in 1021 (by decide +kernel) rfl), (tW_in 1024 (by decide +kernel) rfl), (tW_in 58 (by decide +kernel) rfl), ⟨by decide +kernel, by decide +kernel⟩, by decide +kernel⟩, (tW_in 1022 (by decide +kernel) rfl), (tW_in 1023 (by decide +kernel) rfl), by decide +kernel⟩
theorem cw_L_102 : CV RL 102 6 yX6_forecast cX6_forecast 4 (some .int) 2 := ⟨⟨(tW_in 1025 (by decide +kernel) rfl), (tW_in 1028 (by decide +kernel) rfl), (tW_in 58 (by decide +kernel) rfl), ⟨by decide +kernel, by decide +kernel⟩, by decide +kernel⟩, (tW_in 1026 (by decide +kernel) rfl), (tW_in 1027 (by decide +kernel) rfl), by decide +kernel⟩
theorem cw_X6_208 : CV RX6 208 6 yX6_putAside cX6_putAside 2 (none) 0 := ⟨⟨(tW_in 1029 (by decide +kernel) rfl), (tW_in 1032 (by decide +kernel) rfl), (tW_in 58 (by decide +kernel) rfl), ⟨by decide +kernel, by decide +kernel⟩, by decide +kernel⟩, (tW_in 1031 (by decide +kernel) rfl), (tW_in 45 (by decide +kernel) rfl), by decide +kernel⟩
theorem cw_X6_211 : CV RX6 211 6 yX6_ticksTo cX6_ticksTo 4 (some .int) 2 := ⟨⟨(tW_in 1033 (by decide +kernel) rfl), (tW_in 1036 (by decide +kernel) rfl), (tW_in 58 (by decide +kernel) rfl), ⟨by decide +kernel, by decide +kernel⟩, by decide +kernel⟩, (tW_in 1035 (by decide +kernel) rfl), (tW_in 46 (by decide +kernel) rfl), by decide +kernel⟩
theorem cw_X6_214 : CV RX6 214 6 yX6_putBack cX6_putBack 2 (none) 0 := ⟨⟨(tW_in 1037 (by decide +kernel) rfl), (tW_in 1040 (by decide +kernel) rfl), (tW_in 58 (by decide +kernel) rfl), ⟨by decide +kernel, by decide +kernel⟩, by decide +kernel⟩, (tW_in 1039 (by decide +kernel) rfl), (tW_in 47 (by decide +kernel) rfl), by decide +kernel⟩
theorem cw_L_106 : CV RL 106 6 yX6_leastWeight cX6_leastWeight 5 (some .int) 2 := ⟨⟨(tW_in 1041 (by decide +kernel) rfl), (tW_in 1044 (by decide +kernel) rfl), (tW_in 58 (by decide +kernel) rfl), ⟨by decide +kernel, by decide +kernel⟩, by decide +kernel⟩, (tW_in 1042 (by decide +kernel) rfl), (tW_in 1043 (by decide +kernel) rfl), by decide +kernel⟩
theorem cw_L_111 : CV RL 111 6 yX6_bestSplit cX6_bestSplit 13 (some .int) 5 := ⟨⟨(tW_in 1045 (by decide +kernel) rfl), (tW_in 1048 (by decide +kernel) rfl), (tW_in 58 (by decide +kernel) rfl), ⟨by decide +kernel, by decide +kernel⟩, by decide +kernel⟩, (tW_in 1046 (by decide +kernel) rfl), (tW_in 1047 (by decide +kernel) rfl), by decide +kernel⟩
theorem cw_X6_221 : CV RX6 221 6 yX6_markQueued cX6_markQueued 3 (some .int) 0 := ⟨⟨(tW_in 1050 (by decide +kernel) rfl), (tW_in 1053 (by decide +kernel) rfl), (tW_in 58 (by decide +kernel) rfl), ⟨by decide +kernel, by decide +kernel⟩, by decide +kernel⟩, (tW_in 1052 (by decide +kernel) rfl), (tW_in 48 (by decide +kernel) rfl), by decide +kernel⟩
theorem cw_X6_226 : CV RX6 226 6 yX6_worstOfMarked cX6_worstOfMarked 6 (some .long) 0 := ⟨⟨(tW_in 1055 (by decide +kernel) rfl), (tW_in 1058 (by decide +kernel) rfl), (tW_in 58 (by decide +kernel) rfl), ⟨by decide +kernel, by decide +kernel⟩, by decide +kernel⟩, (tW_in 1057 (by decide +kernel) rfl), (tW_in 49 (by decide +kernel) rfl), by decide +kernel⟩
theorem cw_L_115 : CV RL 115 6 yX6_save cX6_save 3 (some .int) 1 := ⟨⟨(tW_in 1060 (by decide +kernel) rfl), (tW_in 1063 (by decide +kernel) rfl), (tW_in 58 (by decide +kernel) rfl), ⟨by decide +kernel, by decide +kernel⟩, by decide +kernel⟩, (tW_in 1061 (by decide +kernel) rfl), (tW_in 1062 (by decide +kernel) rfl), by decide +kernel⟩
theorem cw_L_119 : CV RL 119 6 yX6_restore cX6_restore 3 (some .int) 1 := ⟨⟨(tW_in 1064 (by decide +kernel) rfl), (tW_in 1067 (by decide +kernel) rfl), (tW_in 58 (by decide +kernel) rfl), ⟨by decide +kernel, by decide +kernel⟩, by decide +kernel⟩, (tW_in 1065 (by decide +kernel) rfl), (tW_in 1066 (by decide +kernel) rfl), by decide +kernel⟩
theorem lc_X0_72 : Cond.constantLong RX0 72 (720720 : Int64) ∈ tW := tW_in 434 (by decide +kernel) rfl
theorem lc_X4_138 : Cond.constantLong RX4 138 (720720 : Int64) ∈ tW := tW_in 435 (by decide +kernel) rfl
theorem lc_X5_113 : Cond.constantLong RX5 113 (-1000000000000000001 : Int64) ∈ tW := tW_in 477 (by decide +kernel) rfl
theorem lc_X5_295 : Cond.constantLong RX5 295 (255 : Int64) ∈ tW := tW_in 485 (by decide +kernel) rfl
theorem lc_X5_297 : Cond.constantLong RX5 297 (33 : Int64) ∈ tW := tW_in 486 (by decide +kernel) rfl
theorem lc_X5_299 : Cond.constantLong RX5 299 (126 : Int64) ∈ tW := tW_in 487 (by decide +kernel) rfl
theorem lc_X2_19 : Cond.constantLong RX2 19 (255 : Int64) ∈ tW := tW_in 492 (by decide +kernel) rfl
theorem lc_X5_149 : Cond.constant RX5 149 (1000000 : Int32) ∈ tW := tW_in 541 (by decide +kernel) rfl
theorem lc_X0_84 : Cond.constantLong RX0 84 (2 : Int64) ∈ tW := tW_in 597 (by decide +kernel) rfl
theorem lc_X5_214 : Cond.constantLong RX5 214 (-1000000000000000002 : Int64) ∈ tW := tW_in 662 (by decide +kernel) rfl
theorem lc_X5_287 : Cond.constant RX5 287 (2147483647 : Int32) ∈ tW := tW_in 745 (by decide +kernel) rfl
theorem lc_X6_30 : Cond.constantLong RX6 30 (2 : Int64) ∈ tW := tW_in 767 (by decide +kernel) rfl
theorem lc_X6_32 : Cond.constantLong RX6 32 (10 : Int64) ∈ tW := tW_in 768 (by decide +kernel) rfl
theorem lc_X6_34 : Cond.constantLong RX6 34 (-6 : Int64) ∈ tW := tW_in 769 (by decide +kernel) rfl
theorem lc_X6_64 : Cond.constantLong RX6 64 (16 : Int64) ∈ tW := tW_in 810 (by decide +kernel) rfl
theorem lc_X6_66 : Cond.constantLong RX6 66 (6 : Int64) ∈ tW := tW_in 814 (by decide +kernel) rfl
theorem lc_X6_68 : Cond.constantLong RX6 68 (20 : Int64) ∈ tW := tW_in 818 (by decide +kernel) rfl
theorem lc_X6_70 : Cond.constantLong RX6 70 (1000 : Int64) ∈ tW := tW_in 830 (by decide +kernel) rfl
theorem lc_X6_79 : Cond.constantLong RX6 79 (50 : Int64) ∈ tW := tW_in 839 (by decide +kernel) rfl
theorem lc_X6_83 : Cond.constantLong RX6 83 (2000 : Int64) ∈ tW := tW_in 844 (by decide +kernel) rfl
theorem lc_X6_85 : Cond.constantLong RX6 85 (9999 : Int64) ∈ tW := tW_in 845 (by decide +kernel) rfl
theorem lc_X6_81 : Cond.constantLong RX6 81 (720720 : Int64) ∈ tW := tW_in 861 (by decide +kernel) rfl
theorem lc_X6_44 : Cond.constantLong RX6 44 (120 : Int64) ∈ tW := tW_in 870 (by decide +kernel) rfl
theorem lc_X6_97 : Cond.constantLong RX6 97 (4 : Int64) ∈ tW := tW_in 871 (by decide +kernel) rfl
theorem lc_X6_103 : Cond.constantLong RX6 103 (9 : Int64) ∈ tW := tW_in 876 (by decide +kernel) rfl
theorem lc_X6_108 : Cond.constantLong RX6 108 (-1000000000000000001 : Int64) ∈ tW := tW_in 893 (by decide +kernel) rfl
theorem lc_X6_110 : Cond.constantLong RX6 110 (255 : Int64) ∈ tW := tW_in 898 (by decide +kernel) rfl
theorem lc_X6_112 : Cond.constantLong RX6 112 (33 : Int64) ∈ tW := tW_in 899 (by decide +kernel) rfl
theorem lc_X6_114 : Cond.constantLong RX6 114 (126 : Int64) ∈ tW := tW_in 900 (by decide +kernel) rfl
theorem lc_X6_116 : Cond.constantLong RX6 116 (80 : Int64) ∈ tW := tW_in 901 (by decide +kernel) rfl
theorem lc_X6_138 : Cond.constantLong RX6 138 (97 : Int64) ∈ tW := tW_in 918 (by decide +kernel) rfl
theorem lc_X6_140 : Cond.constantLong RX6 140 (102 : Int64) ∈ tW := tW_in 919 (by decide +kernel) rfl
theorem lc_X6_125 : Cond.constantLong RX6 125 (49 : Int64) ∈ tW := tW_in 924 (by decide +kernel) rfl
theorem lc_X6_127 : Cond.constantLong RX6 127 (57 : Int64) ∈ tW := tW_in 925 (by decide +kernel) rfl
theorem lc_X6_133 : Cond.constantLong RX6 133 (48 : Int64) ∈ tW := tW_in 926 (by decide +kernel) rfl
theorem lc_X6_196 : Cond.constantLong RX6 196 (1000000 : Int64) ∈ tW := tW_in 936 (by decide +kernel) rfl
theorem lc_X6_157 : Cond.constantLong RX6 157 (60 : Int64) ∈ tW := tW_in 949 (by decide +kernel) rfl
theorem lc_X6_152 : Cond.constantLong RX6 152 (3 : Int64) ∈ tW := tW_in 954 (by decide +kernel) rfl
theorem lc_X6_201 : Cond.constantLong RX6 201 (14 : Int64) ∈ tW := tW_in 999 (by decide +kernel) rfl
theorem lc_X6_206 : Cond.constantLong RX6 206 (-1000000000000000002 : Int64) ∈ tW := tW_in 1008 (by decide +kernel) rfl
theorem lc_X6_219 : Cond.constantLong RX6 219 (500 : Int64) ∈ tW := tW_in 1049 (by decide +kernel) rfl
theorem lc_X6_224 : Cond.constantLong RX6 224 (-1 : Int64) ∈ tW := tW_in 1054 (by decide +kernel) rfl
theorem lc_X6_217 : Cond.constantLong RX6 217 (1000000000 : Int64) ∈ tW := tW_in 1059 (by decide +kernel) rfl
theorem lc_L_45 : Cond.constantLong RL 45 (4294967295 : Int64) ∈ tW := tW_in 1068 (by decide +kernel) rfl
theorem wa_0 : Cond.arrayClass (aty 0) ∈ tW := tW_in 160 (by decide +kernel) rfl
theorem wa_1 : Cond.arrayClass (aty 1) ∈ tW := tW_in 804 (by decide +kernel) rfl
theorem wa_2 : Cond.arrayClass (aty 2) ∈ tW := tW_in 805 (by decide +kernel) rfl
theorem wa_3 : Cond.arrayClass (aty 3) ∈ tW := tW_in 300 (by decide +kernel) rfl
theorem wc_L_7 : Cond.classLink RL 7 RX5 ∈ tW := tW_in 60 (by decide +kernel) rfl
theorem wi_X5 : Cond.instantiable RX5 3 ∈ tW := tW_in 61 (by decide +kernel) rfl
theorem wn_X5 : Cond.initialized RX5 ∈ tW := tW_in 51 (by decide +kernel) rfl
theorem wc_X5_7 : Cond.classLink RX5 7 RX4 ∈ tW := tW_in 68 (by decide +kernel) rfl
theorem wi_X4 : Cond.instantiable RX4 15 ∈ tW := tW_in 69 (by decide +kernel) rfl
theorem wn_X4 : Cond.initialized RX4 ∈ tW := tW_in 52 (by decide +kernel) rfl
theorem wc_X4_24 : Cond.classLink RX4 24 RX0 ∈ tW := tW_in 79 (by decide +kernel) rfl
theorem wi_X0 : Cond.instantiable RX0 15 ∈ tW := tW_in 81 (by decide +kernel) rfl
theorem wn_X0 : Cond.initialized RX0 ∈ tW := tW_in 54 (by decide +kernel) rfl
theorem wc_X4_31 : Cond.classLink RX4 31 RX1 ∈ tW := tW_in 161 (by decide +kernel) rfl
theorem wi_X1 : Cond.instantiable RX1 11 ∈ tW := tW_in 163 (by decide +kernel) rfl
theorem wn_X1 : Cond.initialized RX1 ∈ tW := tW_in 55 (by decide +kernel) rfl
theorem wc_X4_38 : Cond.classLink RX4 38 RX3 ∈ tW := tW_in 221 (by decide +kernel) rfl
theorem wi_X3 : Cond.instantiable RX3 7 ∈ tW := tW_in 223 (by decide +kernel) rfl
theorem wn_X3 : Cond.initialized RX3 ∈ tW := tW_in 56 (by decide +kernel) rfl
theorem wc_X4_49 : Cond.classLink RX4 49 RX2 ∈ tW := tW_in 267 (by decide +kernel) rfl
theorem wi_X2 : Cond.instantiable RX2 7 ∈ tW := tW_in 268 (by decide +kernel) rfl
theorem wn_X2 : Cond.initialized RX2 ∈ tW := tW_in 57 (by decide +kernel) rfl
theorem wc_L_10 : Cond.classLink RL 10 RX6 ∈ tW := tW_in 761 (by decide +kernel) rfl
theorem wi_X6 : Cond.instantiable RX6 11 ∈ tW := tW_in 762 (by decide +kernel) rfl
theorem wn_X6 : Cond.initialized RX6 ∈ tW := tW_in 58 (by decide +kernel) rfl
end
section
abbrev Sa : Type := Nat → Int
/-- one row of longs at x -/
def rL (L : ML) (x : Nat) (a : Sa) : ML := up1 L x (fun k => lI (a k))
theorem rL_at {L : ML} {x k : Nat} {a : Sa} : rL L x a x k = lI (a k) := by unfold rL; rw [up1_s]
theorem rL_out {L : ML} {x y : Nat} {a : Sa} (h : y ≠ x) : rL L x a y = L y := by unfold rL; rw [up1_n h]
theorem rL_up {L : ML} {x k : Nat} {a : Sa} {v : Int} : up2 (rL L x a) x k (lI v) = rL L x (up1 a k v) := by
  funext y j
  by_cases hy : y = x
  · subst hy
    rw [rL_at, up2_row]
    by_cases hj : j = k
    · subst hj; rw [up1_s, up1_s]
    · rw [up1_n hj, up1_n hj, rL_at]
  · rw [up2_rown hy, rL_out hy, rL_out hy]
theorem rL_self {L : ML} {x : Nat} {a : Sa} (h : ∀ k, L x k = lI (a k)) : rL L x a = L := by
  funext y j
  by_cases hy : y = x
  · subst hy; rw [rL_at, h]
  · rw [rL_out hy]
theorem rL_twice {L : ML} {x : Nat} {a a' : Sa} : rL (rL L x a) x a' = rL L x a' := by
  funext y j
  by_cases hy : y = x
  · subst hy; rw [rL_at, rL_at]
  · rw [rL_out hy, rL_out hy, rL_out hy]
section ROW
variable {p : Program} {l : Launch} {e : Env} {R : Room} {s : State} {m : MethodId} {args : Array Value} {below : List Frame} {meth : Method} {c : Code} {cc : ByteArray} {nL : Nat} {own : String} {G : Gd} {base : Nat} {Q : State → Prop} {pc : Nat} {lo lo' : List (Nat × Value)} {st : List Value} {Y : MY} {I : MI} {L : ML} {cells slots : Nat}
theorem a_lald (C : Cx p s m args c cc nL own G base) {x N : Nat} {z : Int32} {v : Int} {a : Sa} (i : Nat) (hd : decode cc pc = .ok (.laload, 1)) (hA : Is base Y x (.inr (1, N))) (hi : Ix z i N) (hv : a i = v) (kk : Rn p l e R s m args below meth c nL G base Q (pc + 1) lo (.long (lI v) :: st) Y I (rL L x a) cells slots) : Rn p l e R s m args below meth c nL G base Q pc lo (.int z :: .ref x :: st) Y I (rL L x a) cells slots := by
  subst hv
  exact r_lald C i hd hA hi (by rw [rL_at]; exact kk)
theorem a_last (C : Cx p s m args c cc nL own G base) {x N : Nat} {z : Int32} {v : Int} {a : Sa} (i : Nat) (hd : decode cc pc = .ok (.lastore, 1)) (hA : Is base Y x (.inr (1, N))) (hi : Ix z i N) (kk : ∀ a', a' = up1 a i v → Rn p l e R s m args below meth c nL G base Q (pc + 1) lo st Y I (rL L x a') cells slots) : Rn p l e R s m args below meth c nL G base Q pc lo (.long (lI v) :: .int z :: .ref x :: st) Y I (rL L x a) cells slots := r_last C i hd hA hi (fun L' e => by rw [e, rL_up]; exact kk _ rfl)
end ROW
theorem sw_split {x lw : Int} {n : Nat} (h : i32 x) : ((iI x).toInt < lw ∨ lw + n - 1 < (iI x).toInt) ∨ ∃ j : Nat, j < n ∧ x = lw + j := by
  rw [iI_toInt h.1 h.2]
  by_cases h1 : x < lw
  · exact Or.inl (Or.inl h1)
  · by_cases h2 : lw + n - 1 < x
    · exact Or.inl (Or.inr h2)
    · exact Or.inr ⟨(x - lw).toNat, by omega, by omega⟩
/-- the reference: an object and six arrays behind it -/
def MLy (base : Nat) (Y : MY) (M : Nat) : Prop := (Is base Y M (.inl 6) ∧ Is base Y (M + 1) (.inr (1, 1826)) ∧ Is base Y (M + 2) (.inr (1, 1826)) ∧ Is base Y (M + 3) (.inr (1, 3652)) ∧ Is base Y (M + 4) (.inr (2, 2)) ∧ Is base Y (M + 5) (.inr (0, 160)) ∧ Is base Y (M + 6) (.inr (2, 120))) ∧ Y.2.2 M 0 = some (M + 1) ∧ Y.2.2 M 1 = some (M + 2) ∧ Y.2.2 M 2 = some (M + 3) ∧ Y.2.2 M 3 = some (M + 4) ∧ Y.2.2 M 6 = some (M + 5) ∧ Y.2.2 M 10 = some (M + 6)
abbrev b2 (c : Prop) [Decidable c] : Int := if c then 1 else 0
def old (a : Sa) : Nat := (a 7 - 120).toNat
/-- the first packet from p on, within n, that waits in the queue of f -/
def hdN (a : Sa) (f : Nat) : Nat → Nat → Nat
  | 0, p => p
  | n + 1, p => if a (125 + 11 * (p % 120) + 0) = f ∧ a (125 + 11 * (p % 120) + 4) ≤ 1 then p else hdN a f n (p + 1)
def hdF (a : Sa) (f : Nat) : Int := if a (17 + 18 * f + 17) = 0 then -6 else (hdN a f 120 (old a) : Nat)
theorem b2_z {c : Prop} [Decidable c] : iI (b2 c) = 0 ∨ iI (b2 c) = 1 := by
  unfold b2
  split
  · exact Or.inr rfl
  · exact Or.inl rfl
theorem b2_1 {c : Prop} [Decidable c] (h : c) : b2 c = 1 := if_pos h
theorem b2_0 {c : Prop} [Decidable c] (h : ¬ c) : b2 c = 0 := if_neg h
theorem b2_i {c : Prop} [Decidable c] : -2147483648 ≤ b2 c ∧ b2 c < 2147483648 := by
  unfold b2
  split <;> omega
theorem b2_eq0 {c : Prop} [Decidable c] : b2 c = 0 ↔ ¬ c := by
  unfold b2
  split
  · constructor
    · intro h; omega
    · intro h; contradiction
  · constructor
    · intro _; assumption
    · intro _; rfl
theorem hdN_s (a : Sa) (f n p : Nat) : hdN a f (n + 1) p = if a (125 + 11 * (p % 120) + 0) = f ∧ a (125 + 11 * (p % 120) + 4) ≤ 1 then p else hdN a f n (p + 1) := rfl
theorem hdN_spec (a : Sa) (f : Nat) : ∀ (n p q : Nat), p ≤ q → q < p + n → (a (125 + 11 * (q % 120) + 0) = f ∧ a (125 + 11 * (q % 120) + 4) ≤ 1) → hdN a f n p ≤ q ∧ p ≤ hdN a f n p ∧ (a (125 + 11 * (hdN a f n p % 120) + 0) = f ∧ a (125 + 11 * (hdN a f n p % 120) + 4) ≤ 1)
  | 0, p, q, h1, h2, _ => absurd h2 (by omega)
  | n + 1, p, q, h1, h2, h3 => by
    unfold hdN
    by_cases h : a (125 + 11 * (p % 120) + 0) = f ∧ a (125 + 11 * (p % 120) + 4) ≤ 1
    · rw [if_pos h]
      exact ⟨h1, Nat.le_refl _, h⟩
    · rw [if_neg h]
      have hpq : p ≠ q := fun e => h (e ▸ h3)
      have := hdN_spec a f n (p + 1) q (by omega) (by omega) h3
      exact ⟨this.1, by omega, this.2.2⟩
/-- the bounds of the link's own numbers -/
def TopOK (N T : Int) (a : Sa) : Prop := (0 ≤ a 0 ∧ a 0 ≤ T ∧ T ≤ 1002000) ∧ (0 ≤ a 1 ∧ a 1 ≤ 1441440000 * a 7) ∧ (0 ≤ a 2 ∧ a 2 ≤ 6) ∧ (0 ≤ a 3 ∧ a 3 ≤ 50) ∧ (0 ≤ a 4 ∧ a 4 ≤ 50) ∧ (0 ≤ a 5 ∧ a 5 ≤ 1000) ∧ (0 ≤ a 6 ∧ a 6 ≤ 1) ∧ (0 ≤ a 7 ∧ a 7 ≤ N ∧ N ≤ 400000) ∧ (0 ≤ a 15 ∧ a 15 ≤ a 0)
def FlowOK (a : Sa) (f : Nat) : Prop := (1 ≤ a (17 + 18 * f + 0) ∧ a (17 + 18 * f + 0) ≤ 16) ∧ (1 ≤ a (17 + 18 * f + 1) ∧ a (17 + 18 * f + 1) ≤ 20) ∧ (0 ≤ a (17 + 18 * f + 2) ∧ a (17 + 18 * f + 2) ≤ 1000) ∧ (0 ≤ a (17 + 18 * f + 3) ∧ a (17 + 18 * f + 3) ≤ 1000) ∧ (0 ≤ a (17 + 18 * f + 4) ∧ a (17 + 18 * f + 4) ≤ 2) ∧ (0 ≤ a (17 + 18 * f + 5) ∧ a (17 + 18 * f + 5) ≤ a 0) ∧ (0 ≤ a (17 + 18 * f + 6) ∧ a (17 + 18 * f + 6) ≤ a 0) ∧ (0 ≤ a (17 + 18 * f + 9) ∧ a (17 + 18 * f + 9) ≤ a 0) ∧ (0 ≤ a (17 + 18 * f + 12) ∧ a (17 + 18 * f + 12) ≤ 1441440000 * a 7) ∧ (0 ≤ a (17 + 18 * f + 14) ∧ a (17 + 18 * f + 14) ≤ 1441440000 * a 7) ∧ (0 ≤ a (17 + 18 * f + 15) ∧ a (17 + 18 * f + 15) ≤ 720720 * a 0) ∧ (a (17 + 18 * f + 15) - 720720 * a (17 + 18 * f + 6) ≤ a (17 + 18 * f + 16) ∧ 0 ≤ a (17 + 18 * f + 16) ∧ a (17 + 18 * f + 16) ≤ 720720 * a 0) ∧ (0 ≤ a (17 + 18 * f + 17) ∧ a (17 + 18 * f + 17) ≤ 20)
def PkOK (a : Sa) (p : Nat) : Prop := (0 ≤ a (125 + 11 * (p % 120) + 0) ∧ a (125 + 11 * (p % 120) + 0) < a 2) ∧ (1 ≤ a (125 + 11 * (p % 120) + 1) ∧ a (125 + 11 * (p % 120) + 1) ≤ 2000) ∧ (0 ≤ a (125 + 11 * (p % 120) + 2) ∧ a (125 + 11 * (p % 120) + 2) ≤ a 0) ∧ (-6 ≤ a (125 + 11 * (p % 120) + 3) ∧ a (125 + 11 * (p % 120) + 3) ≤ a 0 + 9999) ∧ (0 ≤ a (125 + 11 * (p % 120) + 4) ∧ a (125 + 11 * (p % 120) + 4) ≤ 4) ∧ (0 ≤ a (125 + 11 * (p % 120) + 5) ∧ a (125 + 11 * (p % 120) + 5) ≤ a (125 + 11 * (p % 120) + 1)) ∧ (a (125 + 11 * (p % 120) + 4) ≤ 1 → a (125 + 11 * (p % 120) + 5) < a (125 + 11 * (p % 120) + 1)) ∧ (0 ≤ a (125 + 11 * (p % 120) + 6) ∧ a (125 + 11 * (p % 120) + 6) ≤ a (125 + 11 * (p % 120) + 5)) ∧ (-6 ≤ a (125 + 11 * (p % 120) + 8) ∧ a (125 + 11 * (p % 120) + 8) ≤ a 0) ∧ (0 ≤ a (125 + 11 * (p % 120) + 9) ∧ a (125 + 11 * (p % 120) + 9) ≤ 1441440000 * p) ∧ (0 ≤ a (125 + 11 * (p % 120) + 10) ∧ a (125 + 11 * (p % 120) + 10) ≤ a 0)
/-- the packet of which a piece is being sent -/
def NowOK (a : Sa) : Prop := (0 ≤ a 12 ∧ a 12 ≤ 50) ∧ ((a 8 = -6 ∧ a 9 = 0 ∧ a 10 = 0 ∧ a 11 = 0) ∨ ∃ p : Nat, a 8 = p ∧ old a ≤ p ∧ (p : Int) < a 7 ∧ a (125 + 11 * (p % 120) + 4) = 1 ∧ 1 ≤ a 9 ∧ a (125 + 11 * (p % 120) + 5) + a 9 ≤ a (125 + 11 * (p % 120) + 1) ∧ 1 ≤ a 10 ∧ a 10 ≤ 2050 ∧ (a 11 = 0 ∨ a 11 = 1) ∧ ∃ f : Nat, a (125 + 11 * (p % 120) + 0) = f ∧ a (17 + 18 * f + 6) + a 9 ≤ a 0 + a 10)
def knw (a : Sa) : List Nat := List.range' (old a) ((a 7).toNat - old a)
def isQ (a : Sa) (f p : Nat) : Bool := decide (a (125 + 11 * (p % 120) + 0) = f ∧ a (125 + 11 * (p % 120) + 4) ≤ 1)
def Qs (a : Sa) (f : Nat) : List Nat := (knw a).filter (isQ a f)
def isS (a : Sa) (p : Nat) : Bool := decide (a (125 + 11 * (p % 120) + 4) = 2)
def Inv (N T : Int) (a : Sa) : Prop := TopOK N T a ∧ (∀ f : Nat, (f : Int) < a 2 → FlowOK a f ∧ a (17 + 18 * f + 17) = (Qs a f).length) ∧ (∀ p : Nat, old a ≤ p → (p : Int) < a 7 → PkOK a p) ∧ NowOK a ∧ a 16 = ((knw a).filter (isS a)).length ∧ (0 ≤ a 1825 ∧ a 1825 ≤ 80) ∧ (∀ i : Nat, i < 80 → 0 ≤ a (1745 + i) ∧ a (1745 + i) ≤ 126)
theorem knw_mem {a : Sa} {p : Nat} : p ∈ knw a ↔ old a ≤ p ∧ p < (a 7).toNat := by
  unfold knw
  rw [List.mem_range']
  constructor
  · rintro ⟨i, hi, rfl⟩; omega
  · rintro ⟨h1, h2⟩; exact ⟨p - old a, by omega, by omega⟩
theorem Qs_mem {a : Sa} {f p : Nat} : p ∈ Qs a f ↔ (old a ≤ p ∧ p < (a 7).toNat) ∧ (a (125 + 11 * (p % 120) + 0) = f ∧ a (125 + 11 * (p % 120) + 4) ≤ 1) := by
  unfold Qs
  rw [List.mem_filter, knw_mem]
  unfold isQ
  rw [decide_eq_true_iff]
/-- a queue that is not empty has a first packet -/
theorem hd_ex {a : Sa} {N T : Int} (hI : Inv N T a) {f : Nat} (hf : (f : Int) < a 2) (hq : ¬ a (17 + 18 * f + 17) = 0) : ∃ q : Nat, old a ≤ q ∧ (q : Int) < a 7 ∧ q < old a + 120 ∧ a (125 + 11 * (q % 120) + 0) = f ∧ a (125 + 11 * (q % 120) + 4) ≤ 1 := by
  have h := (hI.2.1 f hf).2
  have hne : Qs a f ≠ [] := by
    intro e
    rw [e] at h
    exact hq h
  obtain ⟨q, hq2⟩ := List.exists_mem_of_ne_nil _ hne
  have hm := Qs_mem.mp hq2
  have h7 := hI.1
  unfold TopOK at h7
  have ho : old a = (a 7 - 120).toNat := rfl
  exact ⟨q, hm.1.1, by omega, by omega, hm.2.1, hm.2.2⟩
end
section
set_option maxHeartbeats 4000000 in
set_option maxRecDepth 20000 in
theorem k_X6_in {l : Launch} {G : Gd} {base : Nat} {Y : MY} {I : MI} {L : ML} {v lw hg : Int} (hv : i64 v) (hlw : i64 lw) (hhg : i64 hg) : Ct l yX6_in cX6_in 6 (some .boolean) (rmz 0 0) G base [.long (lI v), .long (lI lw), .long (lI hg)] Y I L (PI (b2 (lw ≤ v ∧ v ≤ hg)) Y I L) := by
  refine Ct.of (own := RX6) (lo := [(0, .long (lI v)), (2, .long (lI lw)), (4, .long (lI hg))]) (by decide) rfl (Nat.le_of_ble_eq_true rfl) rfl ?_
  intro zp ze zs zm zargs zbl zmt zc C hr hlk hnm
  refine r_lload_n C 0 dX6_in_0 rfl rfl ?_
  refine r_lload_n C 1 dX6_in_1 rfl rfl ?_
  refine n_lcmp_lt (tgt := 17) C dX6_in_2 dX6_in_3 rfl rfl (by decide) hv hlw (fun c2 => ?_) (fun c2 => ?_)
  · refine r_iconst (v := iI 0) C dX6_in_17 rfl ?_
    refine r_zret C hr hlk (by decide) dX6_in_18 (Nat.zero_le _) (Nat.zero_le _) ?_
    exact ⟨congrArg (fun z => some (Value.int (iI z))) (by unfold b2; split <;> omega), rfl, rfl, rfl⟩
  · refine r_lload_n C 0 dX6_in_6 rfl rfl ?_
    refine r_lload C 2 dX6_in_7 rfl ?_
    refine n_lcmp_gt (tgt := 17) C dX6_in_9 dX6_in_10 rfl rfl (by decide) hv hhg (fun c9 => ?_) (fun c9 => ?_)
    · refine r_iconst (v := iI 0) C dX6_in_17 rfl ?_
      refine r_zret C hr hlk (by decide) dX6_in_18 (Nat.zero_le _) (Nat.zero_le _) ?_
      exact ⟨congrArg (fun z => some (Value.int (iI z))) (by unfold b2; split <;> omega), rfl, rfl, rfl⟩
    · refine r_iconst (v := iI 1) C dX6_in_13 rfl ?_
      refine r_goto (tgt := 18) C dX6_in_14 (by decide) ?_
      refine r_zret C hr hlk (by decide) dX6_in_18 (Nat.zero_le _) (Nat.zero_le _) ?_
      exact ⟨congrArg (fun z => some (Value.int (iI z))) (by unfold b2; split <;> omega), rfl, rfl, rfl⟩
set_option maxHeartbeats 4000000 in
set_option maxRecDepth 20000 in
theorem k_X6_flowAt {l : Launch} {G : Gd} {base : Nat} {Y : MY} {I : MI} {L : ML} {f w : Int}  : Ct l yX6_flowAt cX6_flowAt 2 (some .int) (rmz 0 0) G base [.int (iI f), .int (iI w)] Y I L (PI (17 + 18 * f + w) Y I L) := by
  refine Ct.of (own := RX6) (lo := [(0, .int (iI f)), (1, .int (iI w))]) (by decide) rfl (Nat.le_of_ble_eq_true rfl) rfl ?_
  intro zp ze zs zm zargs zbl zmt zc C hr hlk hnm
  refine r_bipush (v := iI 17) C dX6_flowAt_0 (by decide) ?_
  refine r_bipush (v := iI 18) C dX6_flowAt_2 (by decide) ?_
  refine r_iload_n C 0 dX6_flowAt_4 rfl rfl ?_
  refine n_imul C dX6_flowAt_5 ?_
  refine n_iadd C dX6_flowAt_6 ?_
  refine r_iload_n C 1 dX6_flowAt_7 rfl rfl ?_
  refine n_iadd C dX6_flowAt_8 ?_
  refine r_iret C hr hlk dX6_flowAt_9 (Nat.zero_le _) (Nat.zero_le _) ?_
  exact ⟨congrArg (fun z => some (Value.int (iI z))) (rfl), rfl, rfl, rfl⟩
set_option maxHeartbeats 4000000 in
set_option maxRecDepth 20000 in
theorem k_X6_ofFlow {l : Launch} {G : Gd} {base : Nat} {Y : MY} {I : MI} {L : ML} {M : Nat} {a : Sa} {fi wi : Int} (f w : Nat) (hM : MLy base Y M) (hf : fi = f) (hw : wi = w) (hb : 17 + 18 * f + w < 1826) : Ct l yX6_ofFlow cX6_ofFlow 3 (some .long) (rmz 1 21) G base [.ref M, .int (iI fi), .int (iI wi)] Y I (rL L (M + 1) a) (PL (a (17 + 18 * f + w)) Y I (rL L (M + 1) a)) := by
  refine Ct.of (own := RX6) (lo := [(0, .ref M), (1, .int (iI fi)), (2, .int (iI wi))]) (by decide) rfl (Nat.le_of_ble_eq_true rfl) rfl ?_
  intro zp ze zs zm zargs zbl zmt zc C hr hlk hnm
  refine r_aload_n C 0 dX6_ofFlow_0 rfl rfl ?_
  refine r_getR C fl_X6_7 rfl dX6_ofFlow_1 hM.1.1 hM.2.1 ?_
  refine r_iload_n C 1 dX6_ofFlow_4 rfl rfl ?_
  refine r_iload_n C 2 dX6_ofFlow_5 rfl rfl ?_
  refine cS2_PI C (k_X6_flowAt ) cw_X6_40 (rm_ok rfl rfl (Nat.zero_le _) (Nat.zero_le _)) (Nat.le_of_ble_eq_true rfl) dX6_ofFlow_6 ?_
  refine a_lald C (v := (a (17 + 18 * f + w))) ((17 + 18 * f + w)) dX6_ofFlow_9 hM.1.2.1 ⟨congrArg iI (by omega), (by omega), by decide⟩ rfl ?_
  refine r_lret C hr hlk dX6_ofFlow_10 (Nat.zero_le _) (Nat.zero_le _) ?_
  exact ⟨congrArg (fun z => some (Value.long (lI z))) (rfl), rfl, rfl, rfl⟩
set_option maxHeartbeats 4000000 in
set_option maxRecDepth 20000 in
theorem k_X6_isFlow {l : Launch} {G : Gd} {base : Nat} {Y : MY} {I : MI} {L : ML} {M : Nat} {a : Sa} {f : Int} (hM : MLy base Y M) (hf : -2147483648 ≤ f ∧ f < 2147483648) (h2 : 0 ≤ a 2 ∧ a 2 ≤ 6) : Ct l yX6_isFlow cX6_isFlow 2 (some .boolean) (rmz 1 25) G base [.ref M, .int (iI f)] Y I (rL L (M + 1) a) (PI (b2 (0 ≤ f ∧ f ≤ a 2 - 1)) Y I (rL L (M + 1) a)) := by
  refine Ct.of (own := RX6) (lo := [(0, .ref M), (1, .int (iI f))]) (by decide) rfl (Nat.le_of_ble_eq_true rfl) rfl ?_
  intro zp ze zs zm zargs zbl zmt zc C hr hlk hnm
  refine r_iload_n C 1 dX6_isFlow_0 rfl rfl ?_
  refine n_i2l C dX6_isFlow_1 (by constructor <;> omega) ?_
  refine r_lconst (v := lI 0) C dX6_isFlow_2 (by decide) ?_
  refine r_aload_n C 0 dX6_isFlow_3 rfl rfl ?_
  refine r_getR C fl_X6_7 rfl dX6_isFlow_4 hM.1.1 hM.2.1 ?_
  refine r_iconst (v := iI 2) C dX6_isFlow_7 rfl ?_
  refine a_lald C (v := (a 2)) 2 dX6_isFlow_8 hM.1.2.1 ⟨rfl, by decide, by decide⟩ rfl ?_
  refine r_lconst (v := lI 1) C dX6_isFlow_9 (by decide) ?_
  refine n_lsub C dX6_isFlow_10 ?_
  refine cS3_PI C (k_X6_in (by constructor <;> omega) ⟨by decide, by decide⟩ (by constructor <;> omega)) cw_X6_36 (rm_ok rfl rfl (Nat.zero_le _) (Nat.zero_le _)) (Nat.le_of_ble_eq_true rfl) dX6_isFlow_11 ?_
  refine r_zret C hr hlk b2_z dX6_isFlow_14 (Nat.zero_le _) (Nat.zero_le _) ?_
  exact ⟨congrArg (fun z => some (Value.int (iI z))) (rfl), rfl, rfl, rfl⟩
set_option maxHeartbeats 4000000 in
set_option maxRecDepth 20000 in
theorem k_X6_isKnown {l : Launch} {G : Gd} {base : Nat} {Y : MY} {I : MI} {L : ML} {M : Nat} {a : Sa} {p : Int} (hM : MLy base Y M) (hp : -2147483648 ≤ p ∧ p < 2147483648) (h7 : 0 ≤ a 7 ∧ a 7 ≤ 400000) : Ct l yX6_isKnown cX6_isKnown 2 (some .boolean) (rmz 1 25) G base [.ref M, .int (iI p)] Y I (rL L (M + 1) a) (PI (b2 (0 ≤ p ∧ p < a 7 ∧ a 7 - 120 ≤ p)) Y I (rL L (M + 1) a)) := by
  refine Ct.of (own := RX6) (lo := [(0, .ref M), (1, .int (iI p))]) (by decide) rfl (Nat.le_of_ble_eq_true rfl) rfl ?_
  intro zp ze zs zm zargs zbl zmt zc C hr hlk hnm
  refine r_iload_n C 1 dX6_isKnown_0 rfl rfl ?_
  refine n_i2l C dX6_isKnown_1 (by constructor <;> omega) ?_
  refine r_lconst (v := lI 0) C dX6_isKnown_2 (by decide) ?_
  refine r_aload_n C 0 dX6_isKnown_3 rfl rfl ?_
  refine r_getR C fl_X6_7 rfl dX6_isKnown_4 hM.1.1 hM.2.1 ?_
  refine r_bipush (v := iI 7) C dX6_isKnown_7 (by decide) ?_
  refine a_lald C (v := (a 7)) 7 dX6_isKnown_9 hM.1.2.1 ⟨rfl, by decide, by decide⟩ rfl ?_
  refine r_lconst (v := lI 1) C dX6_isKnown_10 (by decide) ?_
  refine n_lsub C dX6_isKnown_11 ?_
  refine cS3_PI C (k_X6_in (by constructor <;> omega) ⟨by decide, by decide⟩ (by constructor <;> omega)) cw_X6_36 (rm_ok rfl rfl (Nat.zero_le _) (Nat.zero_le _)) (Nat.le_of_ble_eq_true rfl) dX6_isKnown_12 ?_
  refine n_if_eq (tgt := 39) C dX6_isKnown_15 (by decide) b2_i (fun c15 => ?_) (fun c15 => ?_)
  · refine r_iconst (v := iI 0) C dX6_isKnown_39 rfl ?_
    refine r_zret C hr hlk (by decide) dX6_isKnown_40 (Nat.zero_le _) (Nat.zero_le _) ?_
    exact ⟨congrArg (fun z => some (Value.int (iI z))) (by first | (rw [b2_1 (by omega)]; done) | (rw [b2_0 (by omega)]; done) | (rw [b2_eq0] at c15; rw [b2_0 (by omega)]) | (rw [b2_eq0, Classical.not_not] at c15; first | rw [b2_1 (by omega)] | rw [b2_0 (by omega)])), rfl, rfl, rfl⟩
  · refine r_iload_n C 1 dX6_isKnown_18 rfl rfl ?_
    refine n_i2l C dX6_isKnown_19 (by constructor <;> omega) ?_
    refine r_aload_n C 0 dX6_isKnown_20 rfl rfl ?_
    refine r_getR C fl_X6_7 rfl dX6_isKnown_21 hM.1.1 hM.2.1 ?_
    refine r_bipush (v := iI 7) C dX6_isKnown_24 (by decide) ?_
    refine a_lald C (v := (a 7)) 7 dX6_isKnown_26 hM.1.2.1 ⟨rfl, by decide, by decide⟩ rfl ?_
    refine n_ldc2 (v := 120) C lc_X6_44 (by decide) dX6_isKnown_27 ?_
    refine n_lsub C dX6_isKnown_30 ?_
    refine n_lcmp_lt (tgt := 39) C dX6_isKnown_31 dX6_isKnown_32 rfl rfl (by decide) (by constructor <;> omega) (by constructor <;> omega) (fun c31 => ?_) (fun c31 => ?_)
    · refine r_iconst (v := iI 0) C dX6_isKnown_39 rfl ?_
      refine r_zret C hr hlk (by decide) dX6_isKnown_40 (Nat.zero_le _) (Nat.zero_le _) ?_
      exact ⟨congrArg (fun z => some (Value.int (iI z))) (by first | (rw [b2_1 (by omega)]; done) | (rw [b2_0 (by omega)]; done) | (rw [b2_eq0] at c15; rw [b2_0 (by omega)]) | (rw [b2_eq0, Classical.not_not] at c15; first | rw [b2_1 (by omega)] | rw [b2_0 (by omega)])), rfl, rfl, rfl⟩
    · refine r_iconst (v := iI 1) C dX6_isKnown_35 rfl ?_
      refine r_goto (tgt := 40) C dX6_isKnown_36 (by decide) ?_
      refine r_zret C hr hlk (by decide) dX6_isKnown_40 (Nat.zero_le _) (Nat.zero_le _) ?_
      exact ⟨congrArg (fun z => some (Value.int (iI z))) (by first | (rw [b2_1 (by omega)]; done) | (rw [b2_0 (by omega)]; done) | (rw [b2_eq0] at c15; rw [b2_0 (by omega)]) | (rw [b2_eq0, Classical.not_not] at c15; first | rw [b2_1 (by omega)] | rw [b2_0 (by omega)])), rfl, rfl, rfl⟩
set_option maxHeartbeats 4000000 in
set_option maxRecDepth 20000 in
theorem k_X6_packetAt {l : Launch} {G : Gd} {base : Nat} {Y : MY} {I : MI} {L : ML} {pi wi : Int} (p w : Nat) (hp : pi = p) (hw : wi = w) (hb : p < 2147483648) : Ct l yX6_packetAt cX6_packetAt 2 (some .int) (rmz 0 0) G base [.int (iI pi), .int (iI wi)] Y I L (PI ((125 + 11 * (p % 120) + w : Nat) : Int) Y I L) := by
  refine Ct.of (own := RX6) (lo := [(0, .int (iI pi)), (1, .int (iI wi))]) (by decide) rfl (Nat.le_of_ble_eq_true rfl) rfl ?_
  intro zp ze zs zm zargs zbl zmt zc C hr hlk hnm
  refine r_bipush (v := iI 125) C dX6_packetAt_0 (by decide) ?_
  refine r_bipush (v := iI 11) C dX6_packetAt_2 (by decide) ?_
  refine r_iload_n C 0 dX6_packetAt_4 rfl rfl ?_
  refine r_bipush (v := iI 120) C dX6_packetAt_5 (by decide) ?_
  refine n_irem C dX6_packetAt_7 (by omega) (by omega) ?_
  refine n_imul C dX6_packetAt_8 ?_
  refine n_iadd C dX6_packetAt_9 ?_
  refine r_iload_n C 1 dX6_packetAt_10 rfl rfl ?_
  refine n_iadd C dX6_packetAt_11 ?_
  refine r_iret C hr hlk dX6_packetAt_12 (Nat.zero_le _) (Nat.zero_le _) ?_
  exact ⟨congrArg (fun z => some (Value.int (iI z))) (by omega), rfl, rfl, rfl⟩
set_option maxHeartbeats 4000000 in
set_option maxRecDepth 20000 in
theorem k_X6_of {l : Launch} {G : Gd} {base : Nat} {Y : MY} {I : MI} {L : ML} {M : Nat} {a : Sa} {pi wi : Int} (p w : Nat) (hM : MLy base Y M) (hp : pi = p) (hw : wi = w) (hb : p < 2147483648 ∧ w ≤ 10) : Ct l yX6_of cX6_of 3 (some .long) (rmz 1 21) G base [.ref M, .int (iI pi), .int (iI wi)] Y I (rL L (M + 1) a) (PL (a (125 + 11 * (p % 120) + w)) Y I (rL L (M + 1) a)) := by
  refine Ct.of (own := RX6) (lo := [(0, .ref M), (1, .int (iI pi)), (2, .int (iI wi))]) (by decide) rfl (Nat.le_of_ble_eq_true rfl) rfl ?_
  intro zp ze zs zm zargs zbl zmt zc C hr hlk hnm
  refine r_aload_n C 0 dX6_of_0 rfl rfl ?_
  refine r_getR C fl_X6_7 rfl dX6_of_1 hM.1.1 hM.2.1 ?_
  refine r_iload_n C 1 dX6_of_4 rfl rfl ?_
  refine r_iload_n C 2 dX6_of_5 rfl rfl ?_
  refine cS2_PI C (k_X6_packetAt p w (by omega) (by omega) (by omega)) cw_X6_46 (rm_ok rfl rfl (Nat.zero_le _) (Nat.zero_le _)) (Nat.le_of_ble_eq_true rfl) dX6_of_6 ?_
  refine a_lald C (v := (a (125 + 11 * (p % 120) + w))) ((125 + 11 * (p % 120) + w)) dX6_of_9 hM.1.2.1 ⟨congrArg iI (by omega), (by omega), by decide⟩ rfl ?_
  refine r_lret C hr hlk dX6_of_10 (Nat.zero_le _) (Nat.zero_le _) ?_
  exact ⟨congrArg (fun z => some (Value.long (lI z))) (rfl), rfl, rfl, rfl⟩
set_option maxHeartbeats 4000000 in
set_option maxRecDepth 20000 in
theorem k_X6_oldest {l : Launch} {G : Gd} {base : Nat} {Y : MY} {I : MI} {L : ML} {M : Nat} {a : Sa}  (hM : MLy base Y M) (h7 : 0 ≤ a 7 ∧ a 7 ≤ 400000) : Ct l yX6_oldest cX6_oldest 1 (some .int) (rmz 0 0) G base [.ref M] Y I (rL L (M + 1) a) (PI ((old a : Nat) : Int) Y I (rL L (M + 1) a)) := by
  refine Ct.of (own := RX6) (lo := [(0, .ref M)]) (by decide) rfl (Nat.le_of_ble_eq_true rfl) rfl ?_
  intro zp ze zs zm zargs zbl zmt zc C hr hlk hnm
  refine r_aload_n C 0 dX6_oldest_0 rfl rfl ?_
  refine r_getR C fl_X6_7 rfl dX6_oldest_1 hM.1.1 hM.2.1 ?_
  refine r_bipush (v := iI 7) C dX6_oldest_4 (by decide) ?_
  refine a_lald C (v := (a 7)) 7 dX6_oldest_6 hM.1.2.1 ⟨rfl, by decide, by decide⟩ rfl ?_
  refine n_ldc2 (v := 120) C lc_X6_44 (by decide) dX6_oldest_7 ?_
  refine n_lcmp_le (tgt := 28) C dX6_oldest_10 dX6_oldest_11 rfl rfl (by decide) (by constructor <;> omega) ⟨by decide, by decide⟩ (fun c10 => ?_) (fun c10 => ?_)
  · refine r_lconst (v := lI 0) C dX6_oldest_28 (by decide) ?_
    refine n_l2i C dX6_oldest_29 ?_
    refine r_iret C hr hlk dX6_oldest_30 (Nat.zero_le _) (Nat.zero_le _) ?_
    exact ⟨congrArg (fun z => some (Value.int (iI z))) (by unfold old; omega), rfl, rfl, rfl⟩
  · refine r_aload_n C 0 dX6_oldest_14 rfl rfl ?_
    refine r_getR C fl_X6_7 rfl dX6_oldest_15 hM.1.1 hM.2.1 ?_
    refine r_bipush (v := iI 7) C dX6_oldest_18 (by decide) ?_
    refine a_lald C (v := (a 7)) 7 dX6_oldest_20 hM.1.2.1 ⟨rfl, by decide, by decide⟩ rfl ?_
    refine n_ldc2 (v := 120) C lc_X6_44 (by decide) dX6_oldest_21 ?_
    refine n_lsub C dX6_oldest_24 ?_
    refine r_goto (tgt := 29) C dX6_oldest_25 (by decide) ?_
    refine n_l2i C dX6_oldest_29 ?_
    refine r_iret C hr hlk dX6_oldest_30 (Nat.zero_le _) (Nat.zero_le _) ?_
    exact ⟨congrArg (fun z => some (Value.int (iI z))) (by unfold old; omega), rfl, rfl, rfl⟩
set_option maxHeartbeats 4000000 in
set_option maxRecDepth 20000 in
theorem k_X6_isQueued {l : Launch} {G : Gd} {base : Nat} {Y : MY} {I : MI} {L : ML} {M : Nat} {a : Sa} {pi : Int} (p : Nat) (hM : MLy base Y M) (hp : pi = p) (hb : p < 2147483648) (hs : 0 ≤ a (125 + 11 * (p % 120) + 4) ∧ a (125 + 11 * (p % 120) + 4) ≤ 4) : Ct l yX6_isQueued cX6_isQueued 2 (some .boolean) (rmz 2 43) G base [.ref M, .int (iI pi)] Y I (rL L (M + 1) a) (PI (b2 (a (125 + 11 * (p % 120) + 4) ≤ 1)) Y I (rL L (M + 1) a)) := by
  refine Ct.of (own := RX6) (lo := [(0, .ref M), (1, .int (iI pi))]) (by decide) rfl (Nat.le_of_ble_eq_true rfl) rfl ?_
  intro zp ze zs zm zargs zbl zmt zc C hr hlk hnm
  refine r_aload_n C 0 dX6_isQueued_0 rfl rfl ?_
  refine r_iload_n C 1 dX6_isQueued_1 rfl rfl ?_
  refine r_iconst (v := iI 4) C dX6_isQueued_2 rfl ?_
  refine cV2_PL C (k_X6_of p 4 hM (by omega) (by omega) (by omega)) cw_X6_49 (rm_ok rfl rfl (Nat.zero_le _) (Nat.zero_le _)) (Nat.le_of_ble_eq_true rfl) hM.1.1 dX6_isQueued_3 ?_
  refine r_lconst (v := lI 1) C dX6_isQueued_6 (by decide) ?_
  refine n_lcmp_gt (tgt := 15) C dX6_isQueued_7 dX6_isQueued_8 rfl rfl (by decide) (by constructor <;> omega) ⟨by decide, by decide⟩ (fun c7 => ?_) (fun c7 => ?_)
  · refine r_iconst (v := iI 0) C dX6_isQueued_15 rfl ?_
    refine r_zret C hr hlk (by decide) dX6_isQueued_16 (Nat.zero_le _) (Nat.zero_le _) ?_
    exact ⟨congrArg (fun z => some (Value.int (iI z))) (by unfold b2; split <;> omega), rfl, rfl, rfl⟩
  · refine r_iconst (v := iI 1) C dX6_isQueued_11 rfl ?_
    refine r_goto (tgt := 16) C dX6_isQueued_12 (by decide) ?_
    refine r_zret C hr hlk (by decide) dX6_isQueued_16 (Nat.zero_le _) (Nat.zero_le _) ?_
    exact ⟨congrArg (fun z => some (Value.int (iI z))) (by unfold b2; split <;> omega), rfl, rfl, rfl⟩
set_option maxHeartbeats 4000000 in
set_option maxRecDepth 20000 in
theorem k_X6_headOf {l : Launch} {G : Gd} {base : Nat} {Y : MY} {I : MI} {L : ML} {M : Nat} {a : Sa} {N T : Int} (hI : Inv N T a) {fi : Int} (f : Nat) (hM : MLy base Y M) (hf : fi = f) (hf2 : (f : Int) < a 2) : Ct l yX6_headOf cX6_headOf 3 (some .int) (rmz 3 64) G base [.ref M, .int (iI fi)] Y I (rL L (M + 1) a) (PI (hdF a f) Y I (rL L (M + 1) a)) := by
  refine Ct.of (own := RX6) (lo := [(0, .ref M), (1, .int (iI fi))]) (by decide) rfl (Nat.le_of_ble_eq_true rfl) rfl ?_
  intro zp ze zs zm zargs zbl zmt zc C hr hlk hnm
  have hT := hI.1
  unfold TopOK at hT
  have hF := (hI.2.1 f hf2).1
  unfold FlowOK at hF
  refine r_aload_n C 0 dX6_headOf_0 rfl rfl ?_
  refine r_iload_n C 1 dX6_headOf_1 rfl rfl ?_
  refine r_bipush (v := iI 17) C dX6_headOf_2 (by decide) ?_
  refine cV2_PL C (k_X6_ofFlow f 17 hM (by omega) (by omega) (by omega)) cw_X6_53 (rm_ok rfl rfl (Nat.zero_le _) (Nat.zero_le _)) (Nat.le_of_ble_eq_true rfl) hM.1.1 dX6_headOf_4 ?_
  refine r_lconst (v := lI 0) C dX6_headOf_7 (by decide) ?_
  refine n_lcmp_ne (tgt := 15) C dX6_headOf_8 dX6_headOf_9 rfl rfl (by decide) (by constructor <;> omega) ⟨by decide, by decide⟩ (fun c8 => ?_) (fun c8 => ?_)
  · refine r_aload_n C 0 dX6_headOf_15 rfl rfl ?_
    refine cV0_PI C (k_X6_oldest hM (by omega)) cw_X6_56 (rm_ok rfl rfl (Nat.zero_le _) (Nat.zero_le _)) (Nat.le_of_ble_eq_true rfl) hM.1.1 dX6_headOf_16 ?_
    refine n_topi (fun x19 ex19 => ?_)
    refine r_istore_n (lo' := [(2, .int (iI x19)), (0, .ref M), (1, .int (iI fi))]) C dX6_headOf_19 rfl (by decide) rfl ?_
    have lp20 : ∀ (k : Nat) (x2 : Int) (q : Nat) (n : Nat) (hx2 : x2 = q) (hq : old a ≤ q ∧ q + n = old a + 120) (hg : ∃ r : Nat, q ≤ r ∧ r < q + n ∧ (r : Int) < a 7 ∧ a (125 + 11 * (r % 120) + 0) = f ∧ a (125 + 11 * (r % 120) + 4) ≤ 1) (he : hdN a f n q = hdN a f 120 (old a)), n = k → Bd zp l ze (rmz 3 64) zs zm zargs zbl zmt zc 3 G base (PI (hdF a f) Y I (rL L (M + 1) a)) 20 [(2, .int (iI x2)), (0, .ref M), (1, .int (iI fi))] [] Y I (rL L (M + 1) a) 0 0 := by
      intro k
      induction k using Nat.strongRecOn with
      | _ k ih =>
      intro x2 q n hx2 hq hg he hk
      obtain ⟨r, hr1, hr2, hr3, hr4, hr5⟩ := hg
      have ho : old a = (a 7 - 120).toNat := rfl
      have hPq := hI.2.2.1 q hq.1 (by omega)
      unfold PkOK at hPq
      obtain ⟨n, rfl⟩ : ∃ n2, n = n2 + 1 := ⟨n - 1, by omega⟩
      rw [hdN_s a f n q] at he
      refine r_aload_n C 1 dX6_headOf_20 rfl rfl ?_
      refine r_iload_n C 0 dX6_headOf_21 rfl rfl ?_
      refine r_iconst (v := iI 0) C dX6_headOf_22 rfl ?_
      refine cV2_PL C (k_X6_of q 0 hM (by omega) (by omega) (by omega)) cw_X6_49 (rm_ok rfl rfl (Nat.zero_le _) (Nat.zero_le _)) (Nat.le_of_ble_eq_true rfl) hM.1.1 dX6_headOf_23 ?_
      refine r_iload_n C 2 dX6_headOf_26 rfl rfl ?_
      refine n_i2l C dX6_headOf_27 (by constructor <;> omega) ?_
      refine n_lcmp_ne (tgt := 40) C dX6_headOf_28 dX6_headOf_29 rfl rfl (by decide) (by constructor <;> omega) (by constructor <;> omega) (fun c28 => ?_) (fun c28 => ?_)
      · have hne : ¬ (a (125 + 11 * (q % 120) + 0) = f ∧ a (125 + 11 * (q % 120) + 4) ≤ 1) := by
          first | (intro z; omega) | (rw [b2_eq0] at c37; intro z; omega)
        rw [if_neg hne] at he
        have hqr : q ≠ r := fun z => hne (z ▸ ⟨hr4, hr5⟩)
        have hgn : ∃ r : Nat, q + 1 ≤ r ∧ r < q + 1 + n ∧ (r : Int) < a 7 ∧ a (125 + 11 * (r % 120) + 0) = f ∧ a (125 + 11 * (r % 120) + 4) ≤ 1 := ⟨r, by omega, by omega, hr3, hr4, hr5⟩
        have hen : hdN a f n (q + 1) = hdN a f 120 (old a) := he
        refine n_iinc (lo' := [(2, .int (iI (x2 + 1))), (0, .ref M), (1, .int (iI fi))]) C 0 dX6_headOf_40 rfl rfl (by decide) rfl ?_
        refine r_goto (tgt := 20) C dX6_headOf_43 (by decide) ?_
        exact ih _ (by first | omega | (rw [← hk]; omega)) ((x2 + 1)) (q + 1) n (by omega) (by omega) (by exact hgn) (by exact hen) rfl
      · refine r_aload_n C 1 dX6_headOf_32 rfl rfl ?_
        refine r_iload_n C 0 dX6_headOf_33 rfl rfl ?_
        refine cV1_PI C (k_X6_isQueued q hM (by omega) (by omega) (by omega)) cw_X6_60 (rm_ok rfl rfl (Nat.zero_le _) (Nat.zero_le _)) (Nat.le_of_ble_eq_true rfl) hM.1.1 dX6_headOf_34 ?_
        refine n_if_ne (tgt := 46) C dX6_headOf_37 (by decide) b2_i (fun c37 => ?_) (fun c37 => ?_)
        · refine r_iload_n C 0 dX6_headOf_46 rfl rfl ?_
          refine r_iret C hr hlk dX6_headOf_47 (Nat.zero_le _) (Nat.zero_le _) ?_
          rw [b2_eq0, Classical.not_not] at c37
          rw [if_pos ⟨by omega, c37⟩] at he
          exact ⟨congrArg (fun z => some (Value.int (iI z))) (by unfold hdF; rw [if_neg c8, ← he]; omega), rfl, rfl, rfl⟩
        · have hne : ¬ (a (125 + 11 * (q % 120) + 0) = f ∧ a (125 + 11 * (q % 120) + 4) ≤ 1) := by
            first | (intro z; omega) | (rw [b2_eq0] at c37; intro z; omega)
          rw [if_neg hne] at he
          have hqr : q ≠ r := fun z => hne (z ▸ ⟨hr4, hr5⟩)
          have hgn : ∃ r : Nat, q + 1 ≤ r ∧ r < q + 1 + n ∧ (r : Int) < a 7 ∧ a (125 + 11 * (r % 120) + 0) = f ∧ a (125 + 11 * (r % 120) + 4) ≤ 1 := ⟨r, by omega, by omega, hr3, hr4, hr5⟩
          have hen : hdN a f n (q + 1) = hdN a f 120 (old a) := he
          refine n_iinc (lo' := [(2, .int (iI (x2 + 1))), (0, .ref M), (1, .int (iI fi))]) C 0 dX6_headOf_40 rfl rfl (by decide) rfl ?_
          refine r_goto (tgt := 20) C dX6_headOf_43 (by decide) ?_
          exact ih _ (by first | omega | (rw [← hk]; omega)) ((x2 + 1)) (q + 1) n (by omega) (by omega) (by exact hgn) (by exact hen) rfl
    exact lp20 _ x19 (old a) 120 (by omega) (by omega) (by obtain ⟨r, h1, h2, h3, h4, h5⟩ := hd_ex hI hf2 c8; exact ⟨r, h1, h3, h2, h4, h5⟩) rfl rfl
  · refine r_bipush (v := iI (-6)) C dX6_headOf_12 (by decide) ?_
    refine r_iret C hr hlk dX6_headOf_14 (Nat.zero_le _) (Nat.zero_le _) ?_
    exact ⟨congrArg (fun z => some (Value.int (iI z))) (by unfold hdF; rw [if_pos c8]), rfl, rfl, rfl⟩
end
section
def tkS (a : Sa) (f : Nat) : Int := if a (17 + 18 * f + 12) < a 1 then a 1 else a (17 + 18 * f + 12)
def tkA (a : Sa) (f p : Nat) (n d : Int) : Sa := (up1 (up1 (up1 (up1 (up1 (up1 (up1 (up1 (up1 (up1 (up1 (up1 (up1 (up1 (up1 (up1 a (125 + 11 * (p % 120) + 0) f) (125 + 11 * (p % 120) + 1) n) (125 + 11 * (p % 120) + 2) (a 0)) (125 + 11 * (p % 120) + 3) (if d = 0 then -6 else a 0 + d)) (125 + 11 * (p % 120) + 4) 0) (125 + 11 * (p % 120) + 5) 0) (125 + 11 * (p % 120) + 6) 0) (125 + 11 * (p % 120) + 7) 0) (125 + 11 * (p % 120) + 8) (-6)) (125 + 11 * (p % 120) + 9) (tkS a f)) (125 + 11 * (p % 120) + 10) 0) (17 + 18 * f + 12) (tkS a f + n * 720720 / a (17 + 18 * f + 0))) (17 + 18 * f + 14) (a (17 + 18 * f + 14) + n * 720720)) (17 + 18 * f + 17) (a (17 + 18 * f + 17) + 1)) (17 + 18 * f + 11) (a (17 + 18 * f + 11) + 1)) 7 (a 7 + 1))
/-- a packet of length n, with the deadline d from now, comes to flow f -/
def take (a : Sa) (f : Nat) (n d : Int) : Sa := tkA a f (a 7).toNat n d
def hasR (a : Sa) (f : Nat) : Int := b2 (a (17 + 18 * f + 17) < a (17 + 18 * f + 1) ∧ ¬ (120 ≤ a 7 ∧ a (125 + 11 * (old a % 120) + 4) ≤ 2))
def setOK (k v : Int) : Prop := (k = 0 ∧ 1 ≤ v ∧ v ≤ 16) ∨ (k = 1 ∧ 1 ≤ v ∧ v ≤ 20) ∨ (k = 2 ∧ 0 ≤ v ∧ v ≤ 1000) ∨ (k = 3 ∧ 0 ≤ v ∧ v ≤ 1000) ∨ (k = 4 ∧ 0 ≤ v ∧ v ≤ 2)
noncomputable def setB (k v : Int) : Int := @ite _ (setOK k v) (Classical.propDecidable _) 1 0
theorem setB_1 {k v : Int} (h : setOK k v) : setB k v = 1 := @if_pos _ (Classical.propDecidable _) h _ _ _
theorem setB_0 {k v : Int} (h : ¬ setOK k v) : setB k v = 0 := @if_neg _ (Classical.propDecidable _) h _ _ _
theorem setB_z {k v : Int} : iI (setB k v) = 0 ∨ iI (setB k v) = 1 := by
  by_cases h : setOK k v
  · rw [setB_1 h]; exact Or.inr rfl
  · rw [setB_0 h]; exact Or.inl rfl
theorem setB_i {k v : Int} : -2147483648 ≤ setB k v ∧ setB k v < 2147483648 := by
  by_cases h : setOK k v
  · rw [setB_1 h]; omega
  · rw [setB_0 h]; omega
theorem setB_eq0 {k v : Int} : setB k v = 0 ↔ ¬ setOK k v := by
  by_cases h : setOK k v
  · rw [setB_1 h]; constructor
    · intro z; omega
    · intro z; exact absurd h z
  · rw [setB_0 h]; exact ⟨fun _ => h, fun _ => rfl⟩
def rulOK (k v : Int) : Prop := (k = 0 ∧ 0 ≤ v ∧ v ≤ 50) ∨ (k = 1 ∧ 0 ≤ v ∧ v ≤ 50) ∨ (k = 2 ∧ 0 ≤ v ∧ v ≤ 1000) ∨ (k = 3 ∧ 0 ≤ v ∧ v ≤ 1)
/-- the ticks that the rest of a packet takes -/
def rstT (a : Sa) (f p : Nat) : Int := if a (17 + 18 * f + 2) = 0 ∨ a (125 + 11 * (p % 120) + 1) - a (125 + 11 * (p % 120) + 5) ≤ a (17 + 18 * f + 2) then a 3 + (a (125 + 11 * (p % 120) + 1) - a (125 + 11 * (p % 120) + 5)) else (a (125 + 11 * (p % 120) + 1) - a (125 + 11 * (p % 120) + 5)) + a 3 * (((a (125 + 11 * (p % 120) + 1) - a (125 + 11 * (p % 120) + 5)) + a (17 + 18 * f + 2) - 1) / a (17 + 18 * f + 2))
def flP (a : Sa) (p : Nat) : Nat := (a (125 + 11 * (p % 120) + 0)).toNat
def urg (a : Sa) (p : Nat) : Int := b2 (a 6 = 1 ∧ ¬ a (125 + 11 * (p % 120) + 3) = -6 ∧ a (125 + 11 * (p % 120) + 3) ≤ a 0 + rstT a (flP a p) p + a 5)
theorem rst_b {a : Sa} {N T : Int} (hI : Inv N T a) {p : Nat} (h1 : old a ≤ p) (h2 : (p : Int) < a 7) : 0 ≤ rstT a (flP a p) p ∧ rstT a (flP a p) p ≤ 200000 := by
  have hT := hI.1
  unfold TopOK at hT
  have hP := hI.2.2.1 p h1 h2
  unfold PkOK at hP
  have hf : ((flP a p : Nat) : Int) < a 2 := by unfold flP; omega
  have hF := (hI.2.1 _ hf).1
  unfold FlowOK at hF
  unfold rstT
  have hr : 0 ≤ a (125 + 11 * (p % 120) + 1) - a (125 + 11 * (p % 120) + 5) ∧ a (125 + 11 * (p % 120) + 1) - a (125 + 11 * (p % 120) + 5) ≤ 2000 := by omega
  have hs1 : 0 ≤ a (17 + 18 * flP a p + 2) ∧ a (17 + 18 * flP a p + 2) ≤ 1000 := by omega
  have h30 : 0 ≤ a 3 ∧ a 3 ≤ 50 := by omega
  clear hT hP hf hF
  generalize a (125 + 11 * (p % 120) + 1) - a (125 + 11 * (p % 120) + 5) = r at hr ⊢
  generalize a (17 + 18 * flP a p + 2) = s at hs1 ⊢
  split
  · omega
  · have hs0 : 0 < s := by omega
    have hq : 0 ≤ (r + s - 1) / s ∧ (r + s - 1) / s ≤ 3000 := by
      constructor
      · exact Int.ediv_nonneg (by omega) (by omega)
      · have := Int.ediv_le_self s (show 0 ≤ r + s - 1 by omega)
        omega
    have h3 : 0 ≤ a 3 * ((r + s - 1) / s) := Int.mul_nonneg (by omega) hq.1
    have h4 : a 3 * ((r + s - 1) / s) ≤ 50 * 3000 := Int.mul_le_mul (by omega) hq.2 hq.1 (by omega)
    omega
def zeF (a : Sa) (f : Nat) : Nat → Sa
  | 0 => a
  | n + 1 => up1 (zeF a f n) (17 + 18 * f + n) 0
def addF (a : Sa) (f : Nat) (w : Int) : Sa := (up1 (up1 (up1 (up1 (zeF a f 18) (17 + 18 * f + 0) w) (17 + 18 * f + 1) 20) (17 + 18 * f + 4) 2) 2 (a 2 + 1))
theorem zeF_n {a : Sa} {f : Nat} {k : Nat} : ∀ n, (k < 17 + 18 * f ∨ 17 + 18 * f + n ≤ k) → zeF a f n k = a k
  | 0, _ => rfl
  | n + 1, h => by
    unfold zeF
    rw [up1_n (by omega)]
    exact zeF_n n (by omega)
theorem zeF_z {a : Sa} {f : Nat} {k : Nat} : ∀ n, k < n → zeF a f n (17 + 18 * f + k) = 0
  | 0, h => absurd h (by omega)
  | n + 1, h => by
    unfold zeF
    by_cases e : k = n
    · subst e; rw [up1_s]
    · rw [up1_n (by omega)]; exact zeF_z n (by omega)
def canc (a : Sa) (p : Nat) : Sa := up1 (up1 a (125 + 11 * (p % 120) + 4) 4) (17 + 18 * flP a p + 17) (a (17 + 18 * flP a p + 17) - 1)
end
section
set_option maxHeartbeats 4000000 in
set_option maxRecDepth 20000 in
theorem k_X6_hasRoom {l : Launch} {G : Gd} {base : Nat} {Y : MY} {I : MI} {L : ML} {M : Nat} {a : Sa} {N T : Int} (hI : Inv N T a) {fi : Int} (f : Nat) (hM : MLy base Y M) (hf : fi = f) (hf2 : (f : Int) < a 2) : Ct l yX6_hasRoom cX6_hasRoom 4 (some .boolean) (rmz 2 43) G base [.ref M, .int (iI fi)] Y I (rL L (M + 1) a) (PI (hasR a f) Y I (rL L (M + 1) a)) := by
  refine Ct.of (own := RX6) (lo := [(0, .ref M), (1, .int (iI fi))]) (by decide) rfl (Nat.le_of_ble_eq_true rfl) rfl ?_
  intro zp ze zs zm zargs zbl zmt zc C hr hlk hnm
  have hT := hI.1
  unfold TopOK at hT
  have hF := (hI.2.1 f hf2).1
  unfold FlowOK at hF
  have ho : old a = (a 7 - 120).toNat := rfl
  refine r_aload_n C 0 dX6_hasRoom_0 rfl rfl ?_
  refine r_getR C fl_X6_7 rfl dX6_hasRoom_1 hM.1.1 hM.2.1 ?_
  refine r_bipush (v := iI 7) C dX6_hasRoom_4 (by decide) ?_
  refine a_lald C (v := (a 7)) 7 dX6_hasRoom_6 hM.1.2.1 ⟨rfl, by decide, by decide⟩ rfl ?_
  refine n_l2i C dX6_hasRoom_7 ?_
  refine r_bipush (v := iI 120) C dX6_hasRoom_8 (by decide) ?_
  refine n_isub C dX6_hasRoom_10 ?_
  refine n_topi (fun x11 ex11 => ?_)
  refine r_istore_n (lo' := [(2, .int (iI x11)), (0, .ref M), (1, .int (iI fi))]) C dX6_hasRoom_11 rfl (by decide) rfl ?_
  have jn34 : ∀ x34 : Int, (x11 < 0 ∧ x34 = 0) ∨ (0 ≤ x11 ∧ 2 < (a (125 + 11 * ((old a) % 120) + 4)) ∧ x34 = 0) ∨ (0 ≤ x11 ∧ (a (125 + 11 * ((old a) % 120) + 4)) ≤ 2 ∧ x34 = 1) → Bd zp l ze (rmz 2 43) zs zm zargs zbl zmt zc 4 G base (PI (hasR a f) Y I (rL L (M + 1) a)) 34 [(2, .int (iI x11)), (0, .ref M), (1, .int (iI fi))] [.int (iI x34)] Y I (rL L (M + 1) a) 0 0 := by
    intro x34 hx34
    refine r_istore_n (lo' := [(3, .int (iI x34)), (2, .int (iI x11)), (0, .ref M), (1, .int (iI fi))]) C dX6_hasRoom_34 rfl (by decide) rfl ?_
    refine r_aload_n C 2 dX6_hasRoom_35 rfl rfl ?_
    refine r_iload_n C 3 dX6_hasRoom_36 rfl rfl ?_
    refine r_bipush (v := iI 17) C dX6_hasRoom_37 (by decide) ?_
    refine cV2_PL C (k_X6_ofFlow f 17 hM (by omega) (by omega) (by omega)) cw_X6_53 (rm_ok rfl rfl (Nat.zero_le _) (Nat.zero_le _)) (Nat.le_of_ble_eq_true rfl) hM.1.1 dX6_hasRoom_39 ?_
    refine r_aload_n C 2 dX6_hasRoom_42 rfl rfl ?_
    refine r_iload_n C 3 dX6_hasRoom_43 rfl rfl ?_
    refine r_iconst (v := iI 1) C dX6_hasRoom_44 rfl ?_
    refine cV2_PL C (k_X6_ofFlow f 1 hM (by omega) (by omega) (by omega)) cw_X6_53 (rm_ok rfl rfl (Nat.zero_le _) (Nat.zero_le _)) (Nat.le_of_ble_eq_true rfl) hM.1.1 dX6_hasRoom_45 ?_
    refine n_lcmp_ge (tgt := 60) C dX6_hasRoom_48 dX6_hasRoom_49 rfl rfl (by decide) (by constructor <;> omega) (by constructor <;> omega) (fun c48 => ?_) (fun c48 => ?_)
    · refine r_iconst (v := iI 0) C dX6_hasRoom_60 rfl ?_
      refine r_zret C hr hlk (by decide) dX6_hasRoom_61 (Nat.zero_le _) (Nat.zero_le _) ?_
      exact ⟨congrArg (fun z => some (Value.int (iI z))) (by unfold hasR; first | (rw [b2_1 (by omega)]; done) | (rw [b2_0 (by omega)]; done)), rfl, rfl, rfl⟩
    · refine r_iload_n C 0 dX6_hasRoom_52 rfl rfl ?_
      refine n_if_ne (tgt := 60) C dX6_hasRoom_53 (by decide) (by constructor <;> omega) (fun c53 => ?_) (fun c53 => ?_)
      · refine r_iconst (v := iI 0) C dX6_hasRoom_60 rfl ?_
        refine r_zret C hr hlk (by decide) dX6_hasRoom_61 (Nat.zero_le _) (Nat.zero_le _) ?_
        exact ⟨congrArg (fun z => some (Value.int (iI z))) (by unfold hasR; first | (rw [b2_1 (by omega)]; done) | (rw [b2_0 (by omega)]; done)), rfl, rfl, rfl⟩
      · refine r_iconst (v := iI 1) C dX6_hasRoom_56 rfl ?_
        refine r_goto (tgt := 61) C dX6_hasRoom_57 (by decide) ?_
        refine r_zret C hr hlk (by decide) dX6_hasRoom_61 (Nat.zero_le _) (Nat.zero_le _) ?_
        exact ⟨congrArg (fun z => some (Value.int (iI z))) (by unfold hasR; first | (rw [b2_1 (by omega)]; done) | (rw [b2_0 (by omega)]; done)), rfl, rfl, rfl⟩
  refine r_iload_n C 0 dX6_hasRoom_12 rfl rfl ?_
  refine n_if_lt (tgt := 33) C dX6_hasRoom_13 (by decide) (by constructor <;> omega) (fun c13 => ?_) (fun c13 => ?_)
  · refine r_iconst (v := iI 0) C dX6_hasRoom_33 rfl ?_
    exact jn34 _ (Or.inl ⟨c13, rfl⟩)
  · have hP := hI.2.2.1 (old a) (Nat.le_refl _) (by omega)
    unfold PkOK at hP
    refine r_aload_n C 1 dX6_hasRoom_16 rfl rfl ?_
    refine r_iload_n C 0 dX6_hasRoom_17 rfl rfl ?_
    refine r_iconst (v := iI 4) C dX6_hasRoom_18 rfl ?_
    refine cV2_PL C (k_X6_of ((old a)) 4 hM (by omega) (by omega) (by omega)) cw_X6_49 (rm_ok rfl rfl (Nat.zero_le _) (Nat.zero_le _)) (Nat.le_of_ble_eq_true rfl) hM.1.1 dX6_hasRoom_19 ?_
    refine n_ldc2 (v := 2) C lc_X6_30 (by decide) dX6_hasRoom_22 ?_
    refine n_lcmp_gt (tgt := 33) C dX6_hasRoom_25 dX6_hasRoom_26 rfl rfl (by decide) (by constructor <;> omega) ⟨by decide, by decide⟩ (fun c25 => ?_) (fun c25 => ?_)
    · refine r_iconst (v := iI 0) C dX6_hasRoom_33 rfl ?_
      exact jn34 _ (Or.inr (Or.inl ⟨c13, c25, rfl⟩))
    · refine r_iconst (v := iI 1) C dX6_hasRoom_29 rfl ?_
      refine r_goto (tgt := 34) C dX6_hasRoom_30 (by decide) ?_
      exact jn34 _ (Or.inr (Or.inr (⟨c13, c25, rfl⟩)))
set_option maxHeartbeats 4000000 in
set_option maxRecDepth 20000 in
theorem k_X6_take {l : Launch} {G : Gd} {base : Nat} {Y : MY} {I : MI} {L : ML} {M : Nat} {a : Sa} {N T : Int} (hI : Inv N T a) {fi n d : Int} (f : Nat) (hM : MLy base Y M) (hf : fi = f) (hf2 : (f : Int) < a 2) (hn : 1 ≤ n ∧ n ≤ 2000) (hd : 0 ≤ d ∧ d ≤ 9999) : Ct l yX6_take cX6_take 7 (some .int) (rmz 2 43) G base [.ref M, .int (iI fi), .int (iI n), .int (iI d)] Y I (rL L (M + 1) a) (EI Y (fun r I' L' => r = a 7 ∧ I' = I ∧ L' = rL L (M + 1) (take a f n d))) := by
  refine Ct.of (own := RX6) (lo := [(0, .ref M), (1, .int (iI fi)), (2, .int (iI n)), (3, .int (iI d))]) (by decide) rfl (Nat.le_of_ble_eq_true rfl) rfl ?_
  intro zp ze zs zm zargs zbl zmt zc C hr hlk hnm
  have hT := hI.1
  unfold TopOK at hT
  have hF := (hI.2.1 f hf2).1
  unfold FlowOK at hF
  obtain ⟨p, hp⟩ := Int.eq_ofNat_of_zero_le (show 0 ≤ a 7 by omega)
  refine r_aload_n C 0 dX6_take_0 rfl rfl ?_
  refine r_getR C fl_X6_7 rfl dX6_take_1 hM.1.1 hM.2.1 ?_
  refine r_bipush (v := iI 7) C dX6_take_4 (by decide) ?_
  refine a_lald C (v := (a 7)) 7 dX6_take_6 hM.1.2.1 ⟨rfl, by decide, by decide⟩ rfl ?_
  refine n_l2i C dX6_take_7 ?_
  refine n_topi (fun x8 ex8 => ?_)
  refine r_istore (lo' := [(4, .int (iI x8)), (0, .ref M), (1, .int (iI fi)), (2, .int (iI n)), (3, .int (iI d))]) C dX6_take_8 (by decide) rfl ?_
  have jn43 : ∀ x43 : Int, ((a 1) ≤ (a (17 + 18 * f + 12)) ∧ x43 = (a (17 + 18 * f + 12))) ∨ ((a (17 + 18 * f + 12)) < (a 1) ∧ x43 = (a 1)) → Bd zp l ze (rmz 2 43) zs zm zargs zbl zmt zc 7 G base (EI Y (fun r I' L' => r = a 7 ∧ I' = I ∧ L' = rL L (M + 1) (take a f n d))) 43 [(4, .int (iI x8)), (0, .ref M), (1, .int (iI fi)), (2, .int (iI n)), (3, .int (iI d))] [.long (lI x43)] Y I (rL L (M + 1) a) 0 0 := by
    intro x43 hx43
    have hs : x43 = tkS a f := by
      unfold tkS
      split <;> omega
    refine r_lstore (lo' := [(5, .long (lI x43)), (4, .int (iI x8)), (0, .ref M), (1, .int (iI fi)), (2, .int (iI n)), (3, .int (iI d))]) C dX6_take_43 (by decide) rfl ?_
    refine r_aload_n C 2 dX6_take_45 rfl rfl ?_
    refine r_getR C fl_X6_7 rfl dX6_take_46 hM.1.1 hM.2.1 ?_
    refine r_iload C 1 dX6_take_49 rfl ?_
    refine r_iconst (v := iI 0) C dX6_take_51 rfl ?_
    refine cS2_PI C (k_X6_packetAt p 0 (by omega) (by omega) (by omega)) cw_X6_46 (rm_ok rfl rfl (Nat.zero_le _) (Nat.zero_le _)) (Nat.le_of_ble_eq_true rfl) dX6_take_52 ?_
    refine r_iload_n C 3 dX6_take_55 rfl rfl ?_
    refine n_i2l C dX6_take_56 (by constructor <;> omega) ?_
    refine a_last C ((125 + 11 * (p % 120) + 0)) dX6_take_57 hM.1.2.1 ⟨congrArg iI (by omega), (by omega), by decide⟩ (fun a57 ea57 => ?_)
    refine r_aload_n C 2 dX6_take_58 rfl rfl ?_
    refine r_getR C fl_X6_7 rfl dX6_take_59 hM.1.1 hM.2.1 ?_
    refine r_iload C 1 dX6_take_62 rfl ?_
    refine r_iconst (v := iI 1) C dX6_take_64 rfl ?_
    refine cS2_PI C (k_X6_packetAt p 1 (by omega) (by omega) (by omega)) cw_X6_46 (rm_ok rfl rfl (Nat.zero_le _) (Nat.zero_le _)) (Nat.le_of_ble_eq_true rfl) dX6_take_65 ?_
    refine r_iload_n C 4 dX6_take_68 rfl rfl ?_
    refine n_i2l C dX6_take_69 (by constructor <;> omega) ?_
    refine a_last C ((125 + 11 * (p % 120) + 1)) dX6_take_70 hM.1.2.1 ⟨congrArg iI (by omega), (by omega), by decide⟩ (fun a70 ea70 => ?_)
    refine r_aload_n C 2 dX6_take_71 rfl rfl ?_
    refine r_getR C fl_X6_7 rfl dX6_take_72 hM.1.1 hM.2.1 ?_
    refine r_iload C 1 dX6_take_75 rfl ?_
    refine r_iconst (v := iI 2) C dX6_take_77 rfl ?_
    refine cS2_PI C (k_X6_packetAt p 2 (by omega) (by omega) (by omega)) cw_X6_46 (rm_ok rfl rfl (Nat.zero_le _) (Nat.zero_le _)) (Nat.le_of_ble_eq_true rfl) dX6_take_78 ?_
    refine r_aload_n C 2 dX6_take_81 rfl rfl ?_
    refine r_getR C fl_X6_7 rfl dX6_take_82 hM.1.1 hM.2.1 ?_
    refine r_iconst (v := iI 0) C dX6_take_85 rfl ?_
    refine a_lald C (v := (a 0)) 0 dX6_take_86 hM.1.2.1 ⟨rfl, by decide, by decide⟩ (by rw [ea70, up1_n (by omega), ea57, up1_n (by omega)]) ?_
    refine a_last C ((125 + 11 * (p % 120) + 2)) dX6_take_87 hM.1.2.1 ⟨congrArg iI (by omega), (by omega), by decide⟩ (fun a87 ea87 => ?_)
    refine r_aload_n C 2 dX6_take_88 rfl rfl ?_
    refine r_getR C fl_X6_7 rfl dX6_take_89 hM.1.1 hM.2.1 ?_
    refine r_iload C 1 dX6_take_92 rfl ?_
    refine r_iconst (v := iI 3) C dX6_take_94 rfl ?_
    refine cS2_PI C (k_X6_packetAt p 3 (by omega) (by omega) (by omega)) cw_X6_46 (rm_ok rfl rfl (Nat.zero_le _) (Nat.zero_le _)) (Nat.le_of_ble_eq_true rfl) dX6_take_95 ?_
    have jn117 : ∀ x117 : Int, (¬ d = 0 ∧ x117 = ((a 0) + d)) ∨ (d = 0 ∧ x117 = (-6)) → Bd zp l ze (rmz 2 43) zs zm zargs zbl zmt zc 7 G base (EI Y (fun r I' L' => r = a 7 ∧ I' = I ∧ L' = rL L (M + 1) (take a f n d))) 117 [(5, .long (lI x43)), (4, .int (iI x8)), (0, .ref M), (1, .int (iI fi)), (2, .int (iI n)), (3, .int (iI d))] [.long (lI x117), .int (iI ((125 + 11 * (p % 120) + 3 : Nat) : Int)), .ref (M + 1)] Y I (rL L (M + 1) a87) 0 0 := by
      intro x117 hx117
      refine a_last C ((125 + 11 * (p % 120) + 3)) dX6_take_117 hM.1.2.1 ⟨congrArg iI (by omega), (by omega), by decide⟩ (fun a117 ea117 => ?_)
      refine r_aload_n C 2 dX6_take_118 rfl rfl ?_
      refine r_getR C fl_X6_7 rfl dX6_take_119 hM.1.1 hM.2.1 ?_
      refine r_iload C 1 dX6_take_122 rfl ?_
      refine r_iconst (v := iI 4) C dX6_take_124 rfl ?_
      refine cS2_PI C (k_X6_packetAt p 4 (by omega) (by omega) (by omega)) cw_X6_46 (rm_ok rfl rfl (Nat.zero_le _) (Nat.zero_le _)) (Nat.le_of_ble_eq_true rfl) dX6_take_125 ?_
      refine r_lconst (v := lI 0) C dX6_take_128 (by decide) ?_
      refine a_last C ((125 + 11 * (p % 120) + 4)) dX6_take_129 hM.1.2.1 ⟨congrArg iI (by omega), (by omega), by decide⟩ (fun a129 ea129 => ?_)
      refine r_aload_n C 2 dX6_take_130 rfl rfl ?_
      refine r_getR C fl_X6_7 rfl dX6_take_131 hM.1.1 hM.2.1 ?_
      refine r_iload C 1 dX6_take_134 rfl ?_
      refine r_iconst (v := iI 5) C dX6_take_136 rfl ?_
      refine cS2_PI C (k_X6_packetAt p 5 (by omega) (by omega) (by omega)) cw_X6_46 (rm_ok rfl rfl (Nat.zero_le _) (Nat.zero_le _)) (Nat.le_of_ble_eq_true rfl) dX6_take_137 ?_
      refine r_lconst (v := lI 0) C dX6_take_140 (by decide) ?_
      refine a_last C ((125 + 11 * (p % 120) + 5)) dX6_take_141 hM.1.2.1 ⟨congrArg iI (by omega), (by omega), by decide⟩ (fun a141 ea141 => ?_)
      refine r_aload_n C 2 dX6_take_142 rfl rfl ?_
      refine r_getR C fl_X6_7 rfl dX6_take_143 hM.1.1 hM.2.1 ?_
      refine r_iload C 1 dX6_take_146 rfl ?_
      refine r_bipush (v := iI 6) C dX6_take_148 (by decide) ?_
      refine cS2_PI C (k_X6_packetAt p 6 (by omega) (by omega) (by omega)) cw_X6_46 (rm_ok rfl rfl (Nat.zero_le _) (Nat.zero_le _)) (Nat.le_of_ble_eq_true rfl) dX6_take_150 ?_
      refine r_lconst (v := lI 0) C dX6_take_153 (by decide) ?_
      refine a_last C ((125 + 11 * (p % 120) + 6)) dX6_take_154 hM.1.2.1 ⟨congrArg iI (by omega), (by omega), by decide⟩ (fun a154 ea154 => ?_)
      refine r_aload_n C 2 dX6_take_155 rfl rfl ?_
      refine r_getR C fl_X6_7 rfl dX6_take_156 hM.1.1 hM.2.1 ?_
      refine r_iload C 1 dX6_take_159 rfl ?_
      refine r_bipush (v := iI 7) C dX6_take_161 (by decide) ?_
      refine cS2_PI C (k_X6_packetAt p 7 (by omega) (by omega) (by omega)) cw_X6_46 (rm_ok rfl rfl (Nat.zero_le _) (Nat.zero_le _)) (Nat.le_of_ble_eq_true rfl) dX6_take_163 ?_
      refine r_lconst (v := lI 0) C dX6_take_166 (by decide) ?_
      refine a_last C ((125 + 11 * (p % 120) + 7)) dX6_take_167 hM.1.2.1 ⟨congrArg iI (by omega), (by omega), by decide⟩ (fun a167 ea167 => ?_)
      refine r_aload_n C 2 dX6_take_168 rfl rfl ?_
      refine r_getR C fl_X6_7 rfl dX6_take_169 hM.1.1 hM.2.1 ?_
      refine r_iload C 1 dX6_take_172 rfl ?_
      refine r_bipush (v := iI 8) C dX6_take_174 (by decide) ?_
      refine cS2_PI C (k_X6_packetAt p 8 (by omega) (by omega) (by omega)) cw_X6_46 (rm_ok rfl rfl (Nat.zero_le _) (Nat.zero_le _)) (Nat.le_of_ble_eq_true rfl) dX6_take_176 ?_
      refine n_ldc2 (v := (-6)) C lc_X6_34 (by decide) dX6_take_179 ?_
      refine a_last C ((125 + 11 * (p % 120) + 8)) dX6_take_182 hM.1.2.1 ⟨congrArg iI (by omega), (by omega), by decide⟩ (fun a182 ea182 => ?_)
      refine r_aload_n C 2 dX6_take_183 rfl rfl ?_
      refine r_getR C fl_X6_7 rfl dX6_take_184 hM.1.1 hM.2.1 ?_
      refine r_iload C 1 dX6_take_187 rfl ?_
      refine r_bipush (v := iI 9) C dX6_take_189 (by decide) ?_
      refine cS2_PI C (k_X6_packetAt p 9 (by omega) (by omega) (by omega)) cw_X6_46 (rm_ok rfl rfl (Nat.zero_le _) (Nat.zero_le _)) (Nat.le_of_ble_eq_true rfl) dX6_take_191 ?_
      refine r_lload C 0 dX6_take_194 rfl ?_
      refine a_last C ((125 + 11 * (p % 120) + 9)) dX6_take_196 hM.1.2.1 ⟨congrArg iI (by omega), (by omega), by decide⟩ (fun a196 ea196 => ?_)
      refine r_aload_n C 2 dX6_take_197 rfl rfl ?_
      refine r_getR C fl_X6_7 rfl dX6_take_198 hM.1.1 hM.2.1 ?_
      refine r_iload C 1 dX6_take_201 rfl ?_
      refine r_bipush (v := iI 10) C dX6_take_203 (by decide) ?_
      refine cS2_PI C (k_X6_packetAt p 10 (by omega) (by omega) (by omega)) cw_X6_46 (rm_ok rfl rfl (Nat.zero_le _) (Nat.zero_le _)) (Nat.le_of_ble_eq_true rfl) dX6_take_205 ?_
      refine r_lconst (v := lI 0) C dX6_take_208 (by decide) ?_
      refine a_last C ((125 + 11 * (p % 120) + 10)) dX6_take_209 hM.1.2.1 ⟨congrArg iI (by omega), (by omega), by decide⟩ (fun a209 ea209 => ?_)
      refine r_aload_n C 2 dX6_take_210 rfl rfl ?_
      refine r_getR C fl_X6_7 rfl dX6_take_211 hM.1.1 hM.2.1 ?_
      refine r_iload_n C 3 dX6_take_214 rfl rfl ?_
      refine r_bipush (v := iI 12) C dX6_take_215 (by decide) ?_
      refine cS2_PI C (k_X6_flowAt ) cw_X6_40 (rm_ok rfl rfl (Nat.zero_le _) (Nat.zero_le _)) (Nat.le_of_ble_eq_true rfl) dX6_take_217 ?_
      refine r_lload C 0 dX6_take_220 rfl ?_
      refine r_iload_n C 4 dX6_take_222 rfl rfl ?_
      refine n_i2l C dX6_take_223 (by constructor <;> omega) ?_
      refine n_ldc2 (v := 720720) C lc_X6_81 (by decide) dX6_take_224 ?_
      refine n_lmul C dX6_take_227 ?_
      refine r_aload_n C 2 dX6_take_228 rfl rfl ?_
      refine r_iload_n C 3 dX6_take_229 rfl rfl ?_
      refine r_iconst (v := iI 0) C dX6_take_230 rfl ?_
      refine cV2_PL C (k_X6_ofFlow f 0 hM (by omega) (by omega) (by omega)) cw_X6_53 (rm_ok rfl rfl (Nat.zero_le _) (Nat.zero_le _)) (Nat.le_of_ble_eq_true rfl) hM.1.1 dX6_take_231 ?_
      refine n_eql (y := (a (17 + 18 * f + 0))) (by rw [ea209, up1_n (by omega), ea196, up1_n (by omega), ea182, up1_n (by omega), ea167, up1_n (by omega), ea154, up1_n (by omega), ea141, up1_n (by omega), ea129, up1_n (by omega), ea117, up1_n (by omega), ea87, up1_n (by omega), ea70, up1_n (by omega), ea57, up1_n (by omega)]) ?_
      refine n_ldiv C dX6_take_234 (by omega) (by omega) ?_
      refine n_ladd C dX6_take_235 ?_
      refine a_last C ((17 + 18 * f + 12)) dX6_take_236 hM.1.2.1 ⟨congrArg iI (by omega), (by omega), by decide⟩ (fun a236 ea236 => ?_)
      refine r_aload_n C 2 dX6_take_237 rfl rfl ?_
      refine r_getR C fl_X6_7 rfl dX6_take_238 hM.1.1 hM.2.1 ?_
      refine r_iload_n C 3 dX6_take_241 rfl rfl ?_
      refine r_bipush (v := iI 14) C dX6_take_242 (by decide) ?_
      refine cS2_PI C (k_X6_flowAt ) cw_X6_40 (rm_ok rfl rfl (Nat.zero_le _) (Nat.zero_le _)) (Nat.le_of_ble_eq_true rfl) dX6_take_244 ?_
      refine r_dup2 C dX6_take_247 rfl rfl ?_
      refine a_lald C (v := (a (17 + 18 * f + 14))) ((17 + 18 * f + 14)) dX6_take_248 hM.1.2.1 ⟨congrArg iI (by omega), (by omega), by decide⟩ (by rw [ea236, up1_n (by omega), ea209, up1_n (by omega), ea196, up1_n (by omega), ea182, up1_n (by omega), ea167, up1_n (by omega), ea154, up1_n (by omega), ea141, up1_n (by omega), ea129, up1_n (by omega), ea117, up1_n (by omega), ea87, up1_n (by omega), ea70, up1_n (by omega), ea57, up1_n (by omega)]) ?_
      refine r_iload_n C 4 dX6_take_249 rfl rfl ?_
      refine n_i2l C dX6_take_250 (by constructor <;> omega) ?_
      refine n_ldc2 (v := 720720) C lc_X6_81 (by decide) dX6_take_251 ?_
      refine n_lmul C dX6_take_254 ?_
      refine n_ladd C dX6_take_255 ?_
      refine a_last C ((17 + 18 * f + 14)) dX6_take_256 hM.1.2.1 ⟨congrArg iI (by omega), (by omega), by decide⟩ (fun a256 ea256 => ?_)
      refine r_aload_n C 2 dX6_take_257 rfl rfl ?_
      refine r_getR C fl_X6_7 rfl dX6_take_258 hM.1.1 hM.2.1 ?_
      refine r_iload_n C 3 dX6_take_261 rfl rfl ?_
      refine r_bipush (v := iI 17) C dX6_take_262 (by decide) ?_
      refine cS2_PI C (k_X6_flowAt ) cw_X6_40 (rm_ok rfl rfl (Nat.zero_le _) (Nat.zero_le _)) (Nat.le_of_ble_eq_true rfl) dX6_take_264 ?_
      refine r_dup2 C dX6_take_267 rfl rfl ?_
      refine a_lald C (v := (a (17 + 18 * f + 17))) ((17 + 18 * f + 17)) dX6_take_268 hM.1.2.1 ⟨congrArg iI (by omega), (by omega), by decide⟩ (by rw [ea256, up1_n (by omega), ea236, up1_n (by omega), ea209, up1_n (by omega), ea196, up1_n (by omega), ea182, up1_n (by omega), ea167, up1_n (by omega), ea154, up1_n (by omega), ea141, up1_n (by omega), ea129, up1_n (by omega), ea117, up1_n (by omega), ea87, up1_n (by omega), ea70, up1_n (by omega), ea57, up1_n (by omega)]) ?_
      refine r_lconst (v := lI 1) C dX6_take_269 (by decide) ?_
      refine n_ladd C dX6_take_270 ?_
      refine a_last C ((17 + 18 * f + 17)) dX6_take_271 hM.1.2.1 ⟨congrArg iI (by omega), (by omega), by decide⟩ (fun a271 ea271 => ?_)
      refine r_aload_n C 2 dX6_take_272 rfl rfl ?_
      refine r_getR C fl_X6_7 rfl dX6_take_273 hM.1.1 hM.2.1 ?_
      refine r_iload_n C 3 dX6_take_276 rfl rfl ?_
      refine r_bipush (v := iI 11) C dX6_take_277 (by decide) ?_
      refine cS2_PI C (k_X6_flowAt ) cw_X6_40 (rm_ok rfl rfl (Nat.zero_le _) (Nat.zero_le _)) (Nat.le_of_ble_eq_true rfl) dX6_take_279 ?_
      refine r_dup2 C dX6_take_282 rfl rfl ?_
      refine a_lald C (v := (a (17 + 18 * f + 11))) ((17 + 18 * f + 11)) dX6_take_283 hM.1.2.1 ⟨congrArg iI (by omega), (by omega), by decide⟩ (by rw [ea271, up1_n (by omega), ea256, up1_n (by omega), ea236, up1_n (by omega), ea209, up1_n (by omega), ea196, up1_n (by omega), ea182, up1_n (by omega), ea167, up1_n (by omega), ea154, up1_n (by omega), ea141, up1_n (by omega), ea129, up1_n (by omega), ea117, up1_n (by omega), ea87, up1_n (by omega), ea70, up1_n (by omega), ea57, up1_n (by omega)]) ?_
      refine r_lconst (v := lI 1) C dX6_take_284 (by decide) ?_
      refine n_ladd C dX6_take_285 ?_
      refine a_last C ((17 + 18 * f + 11)) dX6_take_286 hM.1.2.1 ⟨congrArg iI (by omega), (by omega), by decide⟩ (fun a286 ea286 => ?_)
      refine r_aload_n C 2 dX6_take_287 rfl rfl ?_
      refine r_getR C fl_X6_7 rfl dX6_take_288 hM.1.1 hM.2.1 ?_
      refine r_bipush (v := iI 7) C dX6_take_291 (by decide) ?_
      refine r_dup2 C dX6_take_293 rfl rfl ?_
      refine a_lald C (v := (a 7)) 7 dX6_take_294 hM.1.2.1 ⟨rfl, by decide, by decide⟩ (by rw [ea286, up1_n (by omega), ea271, up1_n (by omega), ea256, up1_n (by omega), ea236, up1_n (by omega), ea209, up1_n (by omega), ea196, up1_n (by omega), ea182, up1_n (by omega), ea167, up1_n (by omega), ea154, up1_n (by omega), ea141, up1_n (by omega), ea129, up1_n (by omega), ea117, up1_n (by omega), ea87, up1_n (by omega), ea70, up1_n (by omega), ea57, up1_n (by omega)]) ?_
      refine r_lconst (v := lI 1) C dX6_take_295 (by decide) ?_
      refine n_ladd C dX6_take_296 ?_
      refine a_last C 7 dX6_take_297 hM.1.2.1 ⟨rfl, by decide, by decide⟩ (fun a297 ea297 => ?_)
      refine r_iload C 1 dX6_take_298 rfl ?_
      refine r_iret C hr hlk dX6_take_300 (Nat.zero_le _) (Nat.zero_le _) ?_
      have hd2 : x117 = if d = 0 then -6 else a 0 + d := by
        split <;> omega
      subst ea297
      subst ea286
      subst ea271
      subst ea256
      subst ea236
      subst ea209
      subst ea196
      subst ea182
      subst ea167
      subst ea154
      subst ea141
      subst ea129
      subst ea117
      subst ea87
      subst ea70
      subst ea57
      refine ⟨_, rfl, rfl, ex8, rfl, ?_⟩
      unfold take
      rw [show (a 7).toNat = p by omega]
      subst hd2
      subst hs
      subst hf
      rfl
    refine r_iload_n C 5 dX6_take_98 rfl rfl ?_
    refine n_if_ne (tgt := 108) C dX6_take_99 (by decide) (by constructor <;> omega) (fun c99 => ?_) (fun c99 => ?_)
    · refine r_aload_n C 2 dX6_take_108 rfl rfl ?_
      refine r_getR C fl_X6_7 rfl dX6_take_109 hM.1.1 hM.2.1 ?_
      refine r_iconst (v := iI 0) C dX6_take_112 rfl ?_
      refine a_lald C (v := (a 0)) 0 dX6_take_113 hM.1.2.1 ⟨rfl, by decide, by decide⟩ (by rw [ea87, up1_n (by omega), ea70, up1_n (by omega), ea57, up1_n (by omega)]) ?_
      refine r_iload_n C 5 dX6_take_114 rfl rfl ?_
      refine n_i2l C dX6_take_115 (by constructor <;> omega) ?_
      refine n_ladd C dX6_take_116 ?_
      exact jn117 _ (Or.inl ⟨c99, rfl⟩)
    · refine n_ldc2 (v := (-6)) C lc_X6_34 (by decide) dX6_take_102 ?_
      refine r_goto (tgt := 117) C dX6_take_105 (by decide) ?_
      exact jn117 _ (Or.inr (⟨c99, rfl⟩))
  refine r_aload_n C 1 dX6_take_10 rfl rfl ?_
  refine r_getR C fl_X6_7 rfl dX6_take_11 hM.1.1 hM.2.1 ?_
  refine r_iconst (v := iI 1) C dX6_take_14 rfl ?_
  refine a_lald C (v := (a 1)) 1 dX6_take_15 hM.1.2.1 ⟨rfl, by decide, by decide⟩ rfl ?_
  refine r_aload_n C 1 dX6_take_16 rfl rfl ?_
  refine r_iload_n C 2 dX6_take_17 rfl rfl ?_
  refine r_bipush (v := iI 12) C dX6_take_18 (by decide) ?_
  refine cV2_PL C (k_X6_ofFlow f 12 hM (by omega) (by omega) (by omega)) cw_X6_53 (rm_ok rfl rfl (Nat.zero_le _) (Nat.zero_le _)) (Nat.le_of_ble_eq_true rfl) hM.1.1 dX6_take_20 ?_
  refine n_lcmp_le (tgt := 36) C dX6_take_23 dX6_take_24 rfl rfl (by decide) (by constructor <;> omega) (by constructor <;> omega) (fun c23 => ?_) (fun c23 => ?_)
  · refine r_aload_n C 1 dX6_take_36 rfl rfl ?_
    refine r_iload_n C 2 dX6_take_37 rfl rfl ?_
    refine r_bipush (v := iI 12) C dX6_take_38 (by decide) ?_
    refine cV2_PL C (k_X6_ofFlow f 12 hM (by omega) (by omega) (by omega)) cw_X6_53 (rm_ok rfl rfl (Nat.zero_le _) (Nat.zero_le _)) (Nat.le_of_ble_eq_true rfl) hM.1.1 dX6_take_40 ?_
    exact jn43 _ (Or.inl ⟨c23, rfl⟩)
  · refine r_aload_n C 1 dX6_take_27 rfl rfl ?_
    refine r_getR C fl_X6_7 rfl dX6_take_28 hM.1.1 hM.2.1 ?_
    refine r_iconst (v := iI 1) C dX6_take_31 rfl ?_
    refine a_lald C (v := (a 1)) 1 dX6_take_32 hM.1.2.1 ⟨rfl, by decide, by decide⟩ rfl ?_
    refine r_goto (tgt := 43) C dX6_take_33 (by decide) ?_
    exact jn43 _ (Or.inr (⟨c23, rfl⟩))
set_option maxHeartbeats 4000000 in
set_option maxRecDepth 20000 in
theorem k_X6_addFlow {l : Launch} {G : Gd} {base : Nat} {Y : MY} {I : MI} {L : ML} {M : Nat} {a : Sa} {N T : Int} (hI : Inv N T a) {w : Int} (hM : MLy base Y M) (hw : -2147483648 ≤ w ∧ w < 2147483648) : Ct l yX6_addFlow cX6_addFlow 4 (some .int) (rmz 1 25) G base [.ref M, .int (iI w)] Y I (rL L (M + 1) a) (EI Y (fun r I' L' => I' = I ∧ ((¬ (1 ≤ w ∧ w ≤ 16) ∧ r = -2 ∧ L' = rL L (M + 1) a) ∨ ((1 ≤ w ∧ w ≤ 16) ∧ a 2 = 6 ∧ r = -4 ∧ L' = rL L (M + 1) a) ∨ ((1 ≤ w ∧ w ≤ 16) ∧ a 2 < 6 ∧ r = a 2 ∧ L' = rL L (M + 1) (addF a (a 2).toNat w))))) := by
  refine Ct.of (own := RX6) (lo := [(0, .ref M), (1, .int (iI w))]) (by decide) rfl (Nat.le_of_ble_eq_true rfl) rfl ?_
  intro zp ze zs zm zargs zbl zmt zc C hr hlk hnm
  have hT := hI.1
  unfold TopOK at hT
  obtain ⟨f, hfa⟩ := Int.eq_ofNat_of_zero_le (show 0 ≤ a 2 by omega)
  refine r_iload_n C 1 dX6_addFlow_0 rfl rfl ?_
  refine n_i2l C dX6_addFlow_1 (by constructor <;> omega) ?_
  refine r_lconst (v := lI 1) C dX6_addFlow_2 (by decide) ?_
  refine n_ldc2 (v := 16) C lc_X6_64 (by decide) dX6_addFlow_3 ?_
  refine cS3_PI C (k_X6_in (by constructor <;> omega) ⟨by decide, by decide⟩ ⟨by decide, by decide⟩) cw_X6_36 (rm_ok rfl rfl (Nat.zero_le _) (Nat.zero_le _)) (Nat.le_of_ble_eq_true rfl) dX6_addFlow_6 ?_
  refine n_if_ne (tgt := 15) C dX6_addFlow_9 (by decide) b2_i (fun c9 => ?_) (fun c9 => ?_)
  · refine r_aload_n C 0 dX6_addFlow_15 rfl rfl ?_
    refine r_getR C fl_X6_7 rfl dX6_addFlow_16 hM.1.1 hM.2.1 ?_
    refine r_iconst (v := iI 2) C dX6_addFlow_19 rfl ?_
    refine a_lald C (v := (a 2)) 2 dX6_addFlow_20 hM.1.2.1 ⟨rfl, by decide, by decide⟩ rfl ?_
    refine n_ldc2 (v := 6) C lc_X6_66 (by decide) dX6_addFlow_21 ?_
    refine n_lcmp_ne (tgt := 31) C dX6_addFlow_24 dX6_addFlow_25 rfl rfl (by decide) (by constructor <;> omega) ⟨by decide, by decide⟩ (fun c24 => ?_) (fun c24 => ?_)
    · refine r_aload_n C 0 dX6_addFlow_31 rfl rfl ?_
      refine r_getR C fl_X6_7 rfl dX6_addFlow_32 hM.1.1 hM.2.1 ?_
      refine r_iconst (v := iI 2) C dX6_addFlow_35 rfl ?_
      refine a_lald C (v := (a 2)) 2 dX6_addFlow_36 hM.1.2.1 ⟨rfl, by decide, by decide⟩ rfl ?_
      refine n_l2i C dX6_addFlow_37 ?_
      refine n_topi (fun x38 ex38 => ?_)
      refine r_istore_n (lo' := [(2, .int (iI x38)), (0, .ref M), (1, .int (iI w))]) C dX6_addFlow_38 rfl (by decide) rfl ?_
      refine r_iconst (v := iI 0) C dX6_addFlow_39 rfl ?_
      refine r_istore_n (lo' := [(3, .int (iI 0)), (2, .int (iI x38)), (0, .ref M), (1, .int (iI w))]) C dX6_addFlow_40 rfl (by decide) rfl ?_
      have lp41 : ∀ (k : Nat) (x3 : Int) (i : Nat) (a1 : Sa) (hx3 : x3 = i) (hi : i ≤ 18) (ha1 : a1 = zeF a f i), 18 - i = k → Bd zp l ze (rmz 1 25) zs zm zargs zbl zmt zc 4 G base (EI Y (fun r I' L' => I' = I ∧ ((¬ (1 ≤ w ∧ w ≤ 16) ∧ r = -2 ∧ L' = rL L (M + 1) a) ∨ ((1 ≤ w ∧ w ≤ 16) ∧ a 2 = 6 ∧ r = -4 ∧ L' = rL L (M + 1) a) ∨ ((1 ≤ w ∧ w ≤ 16) ∧ a 2 < 6 ∧ r = a 2 ∧ L' = rL L (M + 1) (addF a (a 2).toNat w))))) 41 [(3, .int (iI x3)), (2, .int (iI x38)), (0, .ref M), (1, .int (iI w))] [] Y I (rL L (M + 1) a1) 0 0 := by
        intro k
        induction k using Nat.strongRecOn with
        | _ k ih =>
        intro x3 i a1 hx3 hi ha1 hk
        refine r_iload_n C 0 dX6_addFlow_41 rfl rfl ?_
        refine r_bipush (v := iI 18) C dX6_addFlow_42 (by decide) ?_
        refine n_icmp_ge (tgt := 64) C dX6_addFlow_44 (by decide) (by constructor <;> omega) ⟨by decide, by decide⟩ (fun c44 => ?_) (fun c44 => ?_)
        · have hi18 : i = 18 := by omega
          subst hi18
          refine r_aload_n C 2 dX6_addFlow_64 rfl rfl ?_
          refine r_getR C fl_X6_7 rfl dX6_addFlow_65 hM.1.1 hM.2.1 ?_
          refine r_iload_n C 1 dX6_addFlow_68 rfl rfl ?_
          refine r_iconst (v := iI 0) C dX6_addFlow_69 rfl ?_
          refine cS2_PI C (k_X6_flowAt ) cw_X6_40 (rm_ok rfl rfl (Nat.zero_le _) (Nat.zero_le _)) (Nat.le_of_ble_eq_true rfl) dX6_addFlow_70 ?_
          refine r_iload_n C 3 dX6_addFlow_73 rfl rfl ?_
          refine n_i2l C dX6_addFlow_74 (by constructor <;> omega) ?_
          refine a_last C ((17 + 18 * f + 0)) dX6_addFlow_75 hM.1.2.1 ⟨congrArg iI (by omega), (by omega), by decide⟩ (fun a75 ea75 => ?_)
          refine r_aload_n C 2 dX6_addFlow_76 rfl rfl ?_
          refine r_getR C fl_X6_7 rfl dX6_addFlow_77 hM.1.1 hM.2.1 ?_
          refine r_iload_n C 1 dX6_addFlow_80 rfl rfl ?_
          refine r_iconst (v := iI 1) C dX6_addFlow_81 rfl ?_
          refine cS2_PI C (k_X6_flowAt ) cw_X6_40 (rm_ok rfl rfl (Nat.zero_le _) (Nat.zero_le _)) (Nat.le_of_ble_eq_true rfl) dX6_addFlow_82 ?_
          refine n_ldc2 (v := 20) C lc_X6_68 (by decide) dX6_addFlow_85 ?_
          refine a_last C ((17 + 18 * f + 1)) dX6_addFlow_88 hM.1.2.1 ⟨congrArg iI (by omega), (by omega), by decide⟩ (fun a88 ea88 => ?_)
          refine r_aload_n C 2 dX6_addFlow_89 rfl rfl ?_
          refine r_getR C fl_X6_7 rfl dX6_addFlow_90 hM.1.1 hM.2.1 ?_
          refine r_iload_n C 1 dX6_addFlow_93 rfl rfl ?_
          refine r_iconst (v := iI 4) C dX6_addFlow_94 rfl ?_
          refine cS2_PI C (k_X6_flowAt ) cw_X6_40 (rm_ok rfl rfl (Nat.zero_le _) (Nat.zero_le _)) (Nat.le_of_ble_eq_true rfl) dX6_addFlow_95 ?_
          refine n_ldc2 (v := 2) C lc_X6_30 (by decide) dX6_addFlow_98 ?_
          refine a_last C ((17 + 18 * f + 4)) dX6_addFlow_101 hM.1.2.1 ⟨congrArg iI (by omega), (by omega), by decide⟩ (fun a101 ea101 => ?_)
          refine r_aload_n C 2 dX6_addFlow_102 rfl rfl ?_
          refine r_getR C fl_X6_7 rfl dX6_addFlow_103 hM.1.1 hM.2.1 ?_
          refine r_iconst (v := iI 2) C dX6_addFlow_106 rfl ?_
          refine r_dup2 C dX6_addFlow_107 rfl rfl ?_
          refine a_lald C (v := (a1 2)) 2 dX6_addFlow_108 hM.1.2.1 ⟨rfl, by decide, by decide⟩ (by rw [ea101, up1_n (by omega), ea88, up1_n (by omega), ea75, up1_n (by omega)]) ?_
          refine r_lconst (v := lI 1) C dX6_addFlow_109 (by decide) ?_
          refine n_ladd C dX6_addFlow_110 ?_
          refine a_last C 2 dX6_addFlow_111 hM.1.2.1 ⟨rfl, by decide, by decide⟩ (fun a111 ea111 => ?_)
          refine r_iload_n C 1 dX6_addFlow_112 rfl rfl ?_
          refine r_iret C hr hlk dX6_addFlow_113 (Nat.zero_le _) (Nat.zero_le _) ?_
          rw [b2_eq0, Classical.not_not] at c9
          have h2 : a1 2 = a 2 := by rw [ha1]; exact zeF_n 18 (by omega)
          subst ea111
          subst ea101
          subst ea88
          subst ea75
          refine ⟨_, rfl, rfl, rfl, Or.inr (Or.inr ⟨c9, by omega, by omega, ?_⟩)⟩
          unfold addF
          rw [show (a 2).toNat = f by omega, h2, ← ha1]
        · refine r_aload_n C 2 dX6_addFlow_47 rfl rfl ?_
          refine r_getR C fl_X6_7 rfl dX6_addFlow_48 hM.1.1 hM.2.1 ?_
          refine r_iload_n C 1 dX6_addFlow_51 rfl rfl ?_
          refine r_iload_n C 0 dX6_addFlow_52 rfl rfl ?_
          refine cS2_PI C (k_X6_flowAt ) cw_X6_40 (rm_ok rfl rfl (Nat.zero_le _) (Nat.zero_le _)) (Nat.le_of_ble_eq_true rfl) dX6_addFlow_53 ?_
          refine r_lconst (v := lI 0) C dX6_addFlow_56 (by decide) ?_
          refine a_last C ((17 + 18 * f + i)) dX6_addFlow_57 hM.1.2.1 ⟨congrArg iI (by omega), (by omega), by decide⟩ (fun a57 ea57 => ?_)
          refine n_iinc (lo' := [(3, .int (iI (x3 + 1))), (2, .int (iI x38)), (0, .ref M), (1, .int (iI w))]) C 0 dX6_addFlow_58 rfl rfl (by decide) rfl ?_
          refine r_goto (tgt := 41) C dX6_addFlow_61 (by decide) ?_
          exact ih _ (by first | omega | (rw [← hk]; omega)) ((x3 + 1)) (i + 1) a57 (by omega) (by omega) (by rw [ea57, ha1]; rfl) rfl
      exact lp41 _ 0 0 a rfl (by omega) rfl rfl
    · refine r_bipush (v := iI (-4)) C dX6_addFlow_28 (by decide) ?_
      refine r_iret C hr hlk dX6_addFlow_30 (Nat.zero_le _) (Nat.zero_le _) ?_
      rw [b2_eq0, Classical.not_not] at c9
      exact ⟨_, rfl, rfl, rfl, Or.inr (Or.inl ⟨c9, c24, rfl, rfl⟩)⟩
  · refine r_bipush (v := iI (-2)) C dX6_addFlow_12 (by decide) ?_
    refine r_iret C hr hlk dX6_addFlow_14 (Nat.zero_le _) (Nat.zero_le _) ?_
    rw [b2_eq0] at c9
    exact ⟨_, rfl, rfl, rfl, Or.inl ⟨c9, rfl, rfl⟩⟩
set_option maxHeartbeats 4000000 in
set_option maxRecDepth 20000 in
theorem k_X6_isSetting {l : Launch} {G : Gd} {base : Nat} {Y : MY} {I : MI} {L : ML} {k v : Int} (hk : -2147483648 ≤ k ∧ k < 2147483648) (hv : -2147483648 ≤ v ∧ v < 2147483648) : Ct l yX6_isSetting cX6_isSetting 2 (some .boolean) (rmz 1 25) G base [.int (iI k), .int (iI v)] Y I L (PI (setB k v) Y I L) := by
  refine Ct.of (own := RX6) (lo := [(0, .int (iI k)), (1, .int (iI v))]) (by decide) rfl (Nat.le_of_ble_eq_true rfl) rfl ?_
  intro zp ze zs zm zargs zbl zmt zc C hr hlk hnm
  refine r_iload_n C 0 dX6_isSetting_0 rfl rfl ?_
  rcases sw_split (x := k) (lw := 0) (n := 4) (by constructor <;> omega) with c1 | ⟨j1, c1, q1⟩
  · refine r_tableOut (tgt := 62) C dX6_isSetting_1 (by first | exact c1 | exact c1.imp id id) (by decide) ?_
    refine r_iload_n C 0 dX6_isSetting_62 rfl rfl ?_
    refine r_iconst (v := iI 4) C dX6_isSetting_63 rfl ?_
    refine n_icmp_ne (tgt := 83) C dX6_isSetting_64 (by decide) (by constructor <;> omega) ⟨by decide, by decide⟩ (fun c64 => ?_) (fun c64 => ?_)
    · refine r_iconst (v := iI 0) C dX6_isSetting_83 rfl ?_
      refine r_zret C hr hlk (by decide) dX6_isSetting_84 (Nat.zero_le _) (Nat.zero_le _) ?_
      exact ⟨congrArg (fun z => some (Value.int (iI z))) (by
          by_cases hc : setOK k v
          · rw [setB_1 hc]; unfold setOK at hc; first | rfl | (rw [b2_1 (by omega)]) | (exfalso; rw [b2_eq0] at c76; omega) | (exfalso; omega)
          · rw [setB_0 hc]; unfold setOK at hc; first | rfl | (rw [b2_0 (by omega)]) | (exfalso; rw [b2_eq0, Classical.not_not] at c76; omega) | (exfalso; omega)), rfl, rfl, rfl⟩
    · refine r_iload_n C 1 dX6_isSetting_67 rfl rfl ?_
      refine n_i2l C dX6_isSetting_68 (by constructor <;> omega) ?_
      refine r_lconst (v := lI 0) C dX6_isSetting_69 (by decide) ?_
      refine n_ldc2 (v := 2) C lc_X6_30 (by decide) dX6_isSetting_70 ?_
      refine cS3_PI C (k_X6_in (by constructor <;> omega) ⟨by decide, by decide⟩ ⟨by decide, by decide⟩) cw_X6_36 (rm_ok rfl rfl (Nat.zero_le _) (Nat.zero_le _)) (Nat.le_of_ble_eq_true rfl) dX6_isSetting_73 ?_
      refine n_if_eq (tgt := 83) C dX6_isSetting_76 (by decide) b2_i (fun c76 => ?_) (fun c76 => ?_)
      · refine r_iconst (v := iI 0) C dX6_isSetting_83 rfl ?_
        refine r_zret C hr hlk (by decide) dX6_isSetting_84 (Nat.zero_le _) (Nat.zero_le _) ?_
        exact ⟨congrArg (fun z => some (Value.int (iI z))) (by
            by_cases hc : setOK k v
            · rw [setB_1 hc]; unfold setOK at hc; first | rfl | (rw [b2_1 (by omega)]) | (exfalso; rw [b2_eq0] at c76; omega) | (exfalso; omega)
            · rw [setB_0 hc]; unfold setOK at hc; first | rfl | (rw [b2_0 (by omega)]) | (exfalso; rw [b2_eq0, Classical.not_not] at c76; omega) | (exfalso; omega)), rfl, rfl, rfl⟩
      · refine r_iconst (v := iI 1) C dX6_isSetting_79 rfl ?_
        refine r_goto (tgt := 84) C dX6_isSetting_80 (by decide) ?_
        refine r_zret C hr hlk (by decide) dX6_isSetting_84 (Nat.zero_le _) (Nat.zero_le _) ?_
        exact ⟨congrArg (fun z => some (Value.int (iI z))) (by
            by_cases hc : setOK k v
            · rw [setB_1 hc]; unfold setOK at hc; first | rfl | (rw [b2_1 (by omega)]) | (exfalso; rw [b2_eq0] at c76; omega) | (exfalso; omega)
            · rw [setB_0 hc]; unfold setOK at hc; first | rfl | (rw [b2_0 (by omega)]) | (exfalso; rw [b2_eq0, Classical.not_not] at c76; omega) | (exfalso; omega)), rfl, rfl, rfl⟩
  · match j1, c1, q1 with
    | 0, c1, q1 =>
      refine n_eqi (y := 0) q1 ?_
      refine r_tableIn (tgt := 32) C dX6_isSetting_1 (by decide) (by decide) (off := 31) (by decide) (by decide) ?_
      refine r_iload_n C 1 dX6_isSetting_32 rfl rfl ?_
      refine n_i2l C dX6_isSetting_33 (by constructor <;> omega) ?_
      refine r_lconst (v := lI 1) C dX6_isSetting_34 (by decide) ?_
      refine n_ldc2 (v := 16) C lc_X6_64 (by decide) dX6_isSetting_35 ?_
      refine cS3_PI C (k_X6_in (by constructor <;> omega) ⟨by decide, by decide⟩ ⟨by decide, by decide⟩) cw_X6_36 (rm_ok rfl rfl (Nat.zero_le _) (Nat.zero_le _)) (Nat.le_of_ble_eq_true rfl) dX6_isSetting_38 ?_
      refine r_zret C hr hlk b2_z dX6_isSetting_41 (Nat.zero_le _) (Nat.zero_le _) ?_
      exact ⟨congrArg (fun z => some (Value.int (iI z))) (by
          by_cases hc : setOK k v
          · rw [setB_1 hc]; unfold setOK at hc; first | rfl | (rw [b2_1 (by omega)]) | (exfalso; rw [b2_eq0] at c76; omega) | (exfalso; omega)
          · rw [setB_0 hc]; unfold setOK at hc; first | rfl | (rw [b2_0 (by omega)]) | (exfalso; rw [b2_eq0, Classical.not_not] at c76; omega) | (exfalso; omega)), rfl, rfl, rfl⟩
    | 1, c1, q1 =>
      refine n_eqi (y := 1) q1 ?_
      refine r_tableIn (tgt := 42) C dX6_isSetting_1 (by decide) (by decide) (off := 41) (by decide) (by decide) ?_
      refine r_iload_n C 1 dX6_isSetting_42 rfl rfl ?_
      refine n_i2l C dX6_isSetting_43 (by constructor <;> omega) ?_
      refine r_lconst (v := lI 1) C dX6_isSetting_44 (by decide) ?_
      refine n_ldc2 (v := 20) C lc_X6_68 (by decide) dX6_isSetting_45 ?_
      refine cS3_PI C (k_X6_in (by constructor <;> omega) ⟨by decide, by decide⟩ ⟨by decide, by decide⟩) cw_X6_36 (rm_ok rfl rfl (Nat.zero_le _) (Nat.zero_le _)) (Nat.le_of_ble_eq_true rfl) dX6_isSetting_48 ?_
      refine r_zret C hr hlk b2_z dX6_isSetting_51 (Nat.zero_le _) (Nat.zero_le _) ?_
      exact ⟨congrArg (fun z => some (Value.int (iI z))) (by
          by_cases hc : setOK k v
          · rw [setB_1 hc]; unfold setOK at hc; first | rfl | (rw [b2_1 (by omega)]) | (exfalso; rw [b2_eq0] at c76; omega) | (exfalso; omega)
          · rw [setB_0 hc]; unfold setOK at hc; first | rfl | (rw [b2_0 (by omega)]) | (exfalso; rw [b2_eq0, Classical.not_not] at c76; omega) | (exfalso; omega)), rfl, rfl, rfl⟩
    | 2, c1, q1 =>
      refine n_eqi (y := 2) q1 ?_
      refine r_tableIn (tgt := 52) C dX6_isSetting_1 (by decide) (by decide) (off := 51) (by decide) (by decide) ?_
      refine r_iload_n C 1 dX6_isSetting_52 rfl rfl ?_
      refine n_i2l C dX6_isSetting_53 (by constructor <;> omega) ?_
      refine r_lconst (v := lI 0) C dX6_isSetting_54 (by decide) ?_
      refine n_ldc2 (v := 1000) C lc_X6_70 (by decide) dX6_isSetting_55 ?_
      refine cS3_PI C (k_X6_in (by constructor <;> omega) ⟨by decide, by decide⟩ ⟨by decide, by decide⟩) cw_X6_36 (rm_ok rfl rfl (Nat.zero_le _) (Nat.zero_le _)) (Nat.le_of_ble_eq_true rfl) dX6_isSetting_58 ?_
      refine r_zret C hr hlk b2_z dX6_isSetting_61 (Nat.zero_le _) (Nat.zero_le _) ?_
      exact ⟨congrArg (fun z => some (Value.int (iI z))) (by
          by_cases hc : setOK k v
          · rw [setB_1 hc]; unfold setOK at hc; first | rfl | (rw [b2_1 (by omega)]) | (exfalso; rw [b2_eq0] at c76; omega) | (exfalso; omega)
          · rw [setB_0 hc]; unfold setOK at hc; first | rfl | (rw [b2_0 (by omega)]) | (exfalso; rw [b2_eq0, Classical.not_not] at c76; omega) | (exfalso; omega)), rfl, rfl, rfl⟩
    | 3, c1, q1 =>
      refine n_eqi (y := 3) q1 ?_
      refine r_tableIn (tgt := 52) C dX6_isSetting_1 (by decide) (by decide) (off := 51) (by decide) (by decide) ?_
      refine r_iload_n C 1 dX6_isSetting_52 rfl rfl ?_
      refine n_i2l C dX6_isSetting_53 (by constructor <;> omega) ?_
      refine r_lconst (v := lI 0) C dX6_isSetting_54 (by decide) ?_
      refine n_ldc2 (v := 1000) C lc_X6_70 (by decide) dX6_isSetting_55 ?_
      refine cS3_PI C (k_X6_in (by constructor <;> omega) ⟨by decide, by decide⟩ ⟨by decide, by decide⟩) cw_X6_36 (rm_ok rfl rfl (Nat.zero_le _) (Nat.zero_le _)) (Nat.le_of_ble_eq_true rfl) dX6_isSetting_58 ?_
      refine r_zret C hr hlk b2_z dX6_isSetting_61 (Nat.zero_le _) (Nat.zero_le _) ?_
      exact ⟨congrArg (fun z => some (Value.int (iI z))) (by
          by_cases hc : setOK k v
          · rw [setB_1 hc]; unfold setOK at hc; first | rfl | (rw [b2_1 (by omega)]) | (exfalso; rw [b2_eq0] at c76; omega) | (exfalso; omega)
          · rw [setB_0 hc]; unfold setOK at hc; first | rfl | (rw [b2_0 (by omega)]) | (exfalso; rw [b2_eq0, Classical.not_not] at c76; omega) | (exfalso; omega)), rfl, rfl, rfl⟩
    | j + 4, c1, q1 => exact absurd c1 (by omega)
end
