section
-- ===== PART A: goes FIRST, ahead of the names: the tables' words, and 'selects' of the private methods out of them =====
/-- a private method of a class that the tables say can be made, by its rows of tables_1 -/
def lw_okq (q : MethodName × Nat) : Prop := (q.1.cls ≠ "java/lang/invoke/MethodHandle" ∧ q.1.cls ≠ "java/lang/invoke/VarHandle") ∧ Cond.instantiable q.1.cls q.2 ∈ tables_1 ∧ Cond.privateMethod q.1 ∈ tables_1 ∧ Cond.instanceMethod q.1 ∈ tables_1
theorem lw_p0 : lw_okq (⟨"RequestGate$Conditions", "canTake", "(III)Z"⟩, 5) := ⟨⟨by decide +kernel, by decide +kernel⟩, List.mem_of_getElem? (i := 102) (by decide +kernel), List.mem_of_getElem? (i := 257) (by decide +kernel), List.mem_of_getElem? (i := 258) (by decide +kernel)⟩
theorem lw_p1 : lw_okq (⟨"java/util/ArrayList", "add", "(Ljava/lang/Object;[Ljava/lang/Object;I)V"⟩, 3) := ⟨⟨by decide +kernel, by decide +kernel⟩, List.mem_of_getElem? (i := 134) (by decide +kernel), List.mem_of_getElem? (i := 332) (by decide +kernel), List.mem_of_getElem? (i := 333) (by decide +kernel)⟩
theorem lw_p2 : lw_okq (⟨"java/util/ArrayList", "grow", "()[Ljava/lang/Object;"⟩, 3) := ⟨⟨by decide +kernel, by decide +kernel⟩, List.mem_of_getElem? (i := 134) (by decide +kernel), List.mem_of_getElem? (i := 336) (by decide +kernel), List.mem_of_getElem? (i := 337) (by decide +kernel)⟩
theorem lw_p3 : lw_okq (⟨"java/util/ArrayList", "grow", "(I)[Ljava/lang/Object;"⟩, 3) := ⟨⟨by decide +kernel, by decide +kernel⟩, List.mem_of_getElem? (i := 134) (by decide +kernel), List.mem_of_getElem? (i := 340) (by decide +kernel), List.mem_of_getElem? (i := 341) (by decide +kernel)⟩
theorem lw_p4 : lw_okq (⟨"RequestGate", "draw", "()I"⟩, 19) := ⟨⟨by decide +kernel, by decide +kernel⟩, List.mem_of_getElem? (i := 24) (by decide +kernel), List.mem_of_getElem? (i := 407) (by decide +kernel), List.mem_of_getElem? (i := 408) (by decide +kernel)⟩
theorem lw_p5 : lw_okq (⟨"RequestGate", "isConditionOrNone", "(I)Z"⟩, 19) := ⟨⟨by decide +kernel, by decide +kernel⟩, List.mem_of_getElem? (i := 24) (by decide +kernel), List.mem_of_getElem? (i := 443) (by decide +kernel), List.mem_of_getElem? (i := 444) (by decide +kernel)⟩
theorem lw_p6 : lw_okq (⟨"RequestGate", "isTypeOrNone", "(I)Z"⟩, 19) := ⟨⟨by decide +kernel, by decide +kernel⟩, List.mem_of_getElem? (i := 24) (by decide +kernel), List.mem_of_getElem? (i := 447) (by decide +kernel), List.mem_of_getElem? (i := 448) (by decide +kernel)⟩
theorem lw_p7 : lw_okq (⟨"RequestGate", "isType", "(I)Z"⟩, 19) := ⟨⟨by decide +kernel, by decide +kernel⟩, List.mem_of_getElem? (i := 24) (by decide +kernel), List.mem_of_getElem? (i := 451) (by decide +kernel), List.mem_of_getElem? (i := 452) (by decide +kernel)⟩
theorem lw_p8 : lw_okq (⟨"java/util/ArrayList", "fastRemove", "([Ljava/lang/Object;I)V"⟩, 3) := ⟨⟨by decide +kernel, by decide +kernel⟩, List.mem_of_getElem? (i := 134) (by decide +kernel), List.mem_of_getElem? (i := 524) (by decide +kernel), List.mem_of_getElem? (i := 525) (by decide +kernel)⟩
theorem lw_p9 : lw_okq (⟨"RequestGate", "isUser", "(I)Z"⟩, 19) := ⟨⟨by decide +kernel, by decide +kernel⟩, List.mem_of_getElem? (i := 24) (by decide +kernel), List.mem_of_getElem? (i := 533) (by decide +kernel), List.mem_of_getElem? (i := 534) (by decide +kernel)⟩
theorem lw_p10 : lw_okq (⟨"RequestGate", "make", "(LRequestGate$Tickets;IZ)I"⟩, 19) := ⟨⟨by decide +kernel, by decide +kernel⟩, List.mem_of_getElem? (i := 24) (by decide +kernel), List.mem_of_getElem? (i := 566) (by decide +kernel), List.mem_of_getElem? (i := 567) (by decide +kernel)⟩
theorem lw_p11 : lw_okq (⟨"RequestGate$PlainPath", "decode", "(LRequestGate$Text;II)Z"⟩, 1) := ⟨⟨by decide +kernel, by decide +kernel⟩, List.mem_of_getElem? (i := 48) (by decide +kernel), List.mem_of_getElem? (i := 641) (by decide +kernel), List.mem_of_getElem? (i := 642) (by decide +kernel)⟩
theorem lw_p12 : lw_okq (⟨"RequestGate$PlainPath", "place", "(Z)Z"⟩, 1) := ⟨⟨by decide +kernel, by decide +kernel⟩, List.mem_of_getElem? (i := 48) (by decide +kernel), List.mem_of_getElem? (i := 653) (by decide +kernel), List.mem_of_getElem? (i := 654) (by decide +kernel)⟩
theorem lw_p13 : lw_okq (⟨"RequestGate", "subjectOf", "(LRequestGate$Ticket;)I"⟩, 19) := ⟨⟨by decide +kernel, by decide +kernel⟩, List.mem_of_getElem? (i := 24) (by decide +kernel), List.mem_of_getElem? (i := 675) (by decide +kernel), List.mem_of_getElem? (i := 676) (by decide +kernel)⟩
theorem lw_p14 : lw_okq (⟨"RequestGate", "subjectBySeries", "(II)I"⟩, 19) := ⟨⟨by decide +kernel, by decide +kernel⟩, List.mem_of_getElem? (i := 24) (by decide +kernel), List.mem_of_getElem? (i := 679) (by decide +kernel), List.mem_of_getElem? (i := 680) (by decide +kernel)⟩
theorem lw_p15 : lw_okq (⟨"RequestGate", "decide", "(II)I"⟩, 19) := ⟨⟨by decide +kernel, by decide +kernel⟩, List.mem_of_getElem? (i := 24) (by decide +kernel), List.mem_of_getElem? (i := 683) (by decide +kernel), List.mem_of_getElem? (i := 684) (by decide +kernel)⟩
def lw_privs_1 : List (MethodName × Nat) := [(⟨"RequestGate$Conditions", "canTake", "(III)Z"⟩, 5), (⟨"java/util/ArrayList", "add", "(Ljava/lang/Object;[Ljava/lang/Object;I)V"⟩, 3), (⟨"java/util/ArrayList", "grow", "()[Ljava/lang/Object;"⟩, 3), (⟨"java/util/ArrayList", "grow", "(I)[Ljava/lang/Object;"⟩, 3), (⟨"RequestGate", "draw", "()I"⟩, 19), (⟨"RequestGate", "isConditionOrNone", "(I)Z"⟩, 19), (⟨"RequestGate", "isTypeOrNone", "(I)Z"⟩, 19), (⟨"RequestGate", "isType", "(I)Z"⟩, 19), (⟨"java/util/ArrayList", "fastRemove", "([Ljava/lang/Object;I)V"⟩, 3), (⟨"RequestGate", "isUser", "(I)Z"⟩, 19), (⟨"RequestGate", "make", "(LRequestGate$Tickets;IZ)I"⟩, 19), (⟨"RequestGate$PlainPath", "decode", "(LRequestGate$Text;II)Z"⟩, 1), (⟨"RequestGate$PlainPath", "place", "(Z)Z"⟩, 1), (⟨"RequestGate", "subjectOf", "(LRequestGate$Ticket;)I"⟩, 19), (⟨"RequestGate", "subjectBySeries", "(II)I"⟩, 19), (⟨"RequestGate", "decide", "(II)I"⟩, 19)]
theorem lw_r1 : ∀ q ∈ lw_privs_1, lw_okq q := List.forall_mem_cons.mpr ⟨lw_p0, List.forall_mem_cons.mpr ⟨lw_p1, List.forall_mem_cons.mpr ⟨lw_p2, List.forall_mem_cons.mpr ⟨lw_p3, List.forall_mem_cons.mpr ⟨lw_p4, List.forall_mem_cons.mpr ⟨lw_p5, List.forall_mem_cons.mpr ⟨lw_p6, List.forall_mem_cons.mpr ⟨lw_p7, List.forall_mem_cons.mpr ⟨lw_p8, List.forall_mem_cons.mpr ⟨lw_p9, List.forall_mem_cons.mpr ⟨lw_p10, List.forall_mem_cons.mpr ⟨lw_p11, List.forall_mem_cons.mpr ⟨lw_p12, List.forall_mem_cons.mpr ⟨lw_p13, List.forall_mem_cons.mpr ⟨lw_p14, List.forall_mem_cons.mpr ⟨lw_p15, fun _ h => absurd h List.not_mem_nil⟩⟩⟩⟩⟩⟩⟩⟩⟩⟩⟩⟩⟩⟩⟩⟩
theorem lw_p16 : lw_okq (⟨"RequestGate", "firstRuleThatFits", "(I)I"⟩, 19) := ⟨⟨by decide +kernel, by decide +kernel⟩, List.mem_of_getElem? (i := 24) (by decide +kernel), List.mem_of_getElem? (i := 687) (by decide +kernel), List.mem_of_getElem? (i := 688) (by decide +kernel)⟩
theorem lw_p17 : lw_okq (⟨"RequestGate$Layer", "layOnOne", "(LRequestGate$Pieces;ILRequestGate$Pieces;)V"⟩, 2) := ⟨⟨by decide +kernel, by decide +kernel⟩, List.mem_of_getElem? (i := 88) (by decide +kernel), List.mem_of_getElem? (i := 717) (by decide +kernel), List.mem_of_getElem? (i := 718) (by decide +kernel)⟩
theorem lw_p18 : lw_okq (⟨"RequestGate$Layer", "covers", "(LRequestGate$Pieces;ILRequestGate$Pieces;I)Z"⟩, 2) := ⟨⟨by decide +kernel, by decide +kernel⟩, List.mem_of_getElem? (i := 88) (by decide +kernel), List.mem_of_getElem? (i := 721) (by decide +kernel), List.mem_of_getElem? (i := 722) (by decide +kernel)⟩
theorem lw_p19 : lw_okq (⟨"RequestGate", "isTrue", "(III)Z"⟩, 19) := ⟨⟨by decide +kernel, by decide +kernel⟩, List.mem_of_getElem? (i := 24) (by decide +kernel), List.mem_of_getElem? (i := 727) (by decide +kernel), List.mem_of_getElem? (i := 728) (by decide +kernel)⟩
theorem lw_p20 : lw_okq (⟨"RequestGate$Conditions", "jointValue", "(I)I"⟩, 5) := ⟨⟨by decide +kernel, by decide +kernel⟩, List.mem_of_getElem? (i := 102) (by decide +kernel), List.mem_of_getElem? (i := 739) (by decide +kernel), List.mem_of_getElem? (i := 740) (by decide +kernel)⟩
theorem lw_p21 : lw_okq (⟨"RequestGate$Conditions", "singleValue", "(IIII)I"⟩, 5) := ⟨⟨by decide +kernel, by decide +kernel⟩, List.mem_of_getElem? (i := 102) (by decide +kernel), List.mem_of_getElem? (i := 746) (by decide +kernel), List.mem_of_getElem? (i := 747) (by decide +kernel)⟩
theorem lw_p22 : lw_okq (⟨"RequestGate", "typeThatDeclares", "(II)I"⟩, 19) := ⟨⟨by decide +kernel, by decide +kernel⟩, List.mem_of_getElem? (i := 24) (by decide +kernel), List.mem_of_getElem? (i := 755) (by decide +kernel), List.mem_of_getElem? (i := 756) (by decide +kernel)⟩
theorem lw_p23 : lw_okq (⟨"RequestGate", "conditionAt", "(II)I"⟩, 19) := ⟨⟨by decide +kernel, by decide +kernel⟩, List.mem_of_getElem? (i := 24) (by decide +kernel), List.mem_of_getElem? (i := 763) (by decide +kernel), List.mem_of_getElem? (i := 764) (by decide +kernel)⟩
theorem lw_p24 : lw_okq (⟨"RequestGate", "conditionByInterfaces", "(II)I"⟩, 19) := ⟨⟨by decide +kernel, by decide +kernel⟩, List.mem_of_getElem? (i := 24) (by decide +kernel), List.mem_of_getElem? (i := 772) (by decide +kernel), List.mem_of_getElem? (i := 773) (by decide +kernel)⟩
theorem lw_p25 : lw_okq (⟨"RequestGateModel", "isExpression", "(I)Z"⟩, 56) := ⟨⟨by decide +kernel, by decide +kernel⟩, List.mem_of_getElem? (i := 805) (by decide +kernel), List.mem_of_getElem? (i := 992) (by decide +kernel), List.mem_of_getElem? (i := 993) (by decide +kernel)⟩
theorem lw_p26 : lw_okq (⟨"RequestGateModel", "included", "(I)I"⟩, 56) := ⟨⟨by decide +kernel, by decide +kernel⟩, List.mem_of_getElem? (i := 805) (by decide +kernel), List.mem_of_getElem? (i := 1000) (by decide +kernel), List.mem_of_getElem? (i := 1001) (by decide +kernel)⟩
theorem lw_p27 : lw_okq (⟨"RequestGateModel", "isPattern", "()Z"⟩, 56) := ⟨⟨by decide +kernel, by decide +kernel⟩, List.mem_of_getElem? (i := 805) (by decide +kernel), List.mem_of_getElem? (i := 1008) (by decide +kernel), List.mem_of_getElem? (i := 1009) (by decide +kernel)⟩
theorem lw_p28 : lw_okq (⟨"RequestGateModel", "draw", "()I"⟩, 56) := ⟨⟨by decide +kernel, by decide +kernel⟩, List.mem_of_getElem? (i := 805) (by decide +kernel), List.mem_of_getElem? (i := 1019) (by decide +kernel), List.mem_of_getElem? (i := 1020) (by decide +kernel)⟩
theorem lw_p29 : lw_okq (⟨"RequestGateModel", "isUser", "(I)Z"⟩, 56) := ⟨⟨by decide +kernel, by decide +kernel⟩, List.mem_of_getElem? (i := 805) (by decide +kernel), List.mem_of_getElem? (i := 1030) (by decide +kernel), List.mem_of_getElem? (i := 1031) (by decide +kernel)⟩
theorem lw_p30 : lw_okq (⟨"RequestGateModel", "sessionBy", "(I)I"⟩, 56) := ⟨⟨by decide +kernel, by decide +kernel⟩, List.mem_of_getElem? (i := 805) (by decide +kernel), List.mem_of_getElem? (i := 1034) (by decide +kernel), List.mem_of_getElem? (i := 1035) (by decide +kernel)⟩
theorem lw_p31 : lw_okq (⟨"RequestGateModel", "live", "(I)Z"⟩, 56) := ⟨⟨by decide +kernel, by decide +kernel⟩, List.mem_of_getElem? (i := 805) (by decide +kernel), List.mem_of_getElem? (i := 1038) (by decide +kernel), List.mem_of_getElem? (i := 1039) (by decide +kernel)⟩
def lw_privs_2 : List (MethodName × Nat) := [(⟨"RequestGate", "firstRuleThatFits", "(I)I"⟩, 19), (⟨"RequestGate$Layer", "layOnOne", "(LRequestGate$Pieces;ILRequestGate$Pieces;)V"⟩, 2), (⟨"RequestGate$Layer", "covers", "(LRequestGate$Pieces;ILRequestGate$Pieces;I)Z"⟩, 2), (⟨"RequestGate", "isTrue", "(III)Z"⟩, 19), (⟨"RequestGate$Conditions", "jointValue", "(I)I"⟩, 5), (⟨"RequestGate$Conditions", "singleValue", "(IIII)I"⟩, 5), (⟨"RequestGate", "typeThatDeclares", "(II)I"⟩, 19), (⟨"RequestGate", "conditionAt", "(II)I"⟩, 19), (⟨"RequestGate", "conditionByInterfaces", "(II)I"⟩, 19), (⟨"RequestGateModel", "isExpression", "(I)Z"⟩, 56), (⟨"RequestGateModel", "included", "(I)I"⟩, 56), (⟨"RequestGateModel", "isPattern", "()Z"⟩, 56), (⟨"RequestGateModel", "draw", "()I"⟩, 56), (⟨"RequestGateModel", "isUser", "(I)Z"⟩, 56), (⟨"RequestGateModel", "sessionBy", "(I)I"⟩, 56), (⟨"RequestGateModel", "live", "(I)Z"⟩, 56)]
theorem lw_r2 : ∀ q ∈ lw_privs_2, lw_okq q := List.forall_mem_cons.mpr ⟨lw_p16, List.forall_mem_cons.mpr ⟨lw_p17, List.forall_mem_cons.mpr ⟨lw_p18, List.forall_mem_cons.mpr ⟨lw_p19, List.forall_mem_cons.mpr ⟨lw_p20, List.forall_mem_cons.mpr ⟨lw_p21, List.forall_mem_cons.mpr ⟨lw_p22, List.forall_mem_cons.mpr ⟨lw_p23, List.forall_mem_cons.mpr ⟨lw_p24, List.forall_mem_cons.mpr ⟨lw_p25, List.forall_mem_cons.mpr ⟨lw_p26, List.forall_mem_cons.mpr ⟨lw_p27, List.forall_mem_cons.mpr ⟨lw_p28, List.forall_mem_cons.mpr ⟨lw_p29, List.forall_mem_cons.mpr ⟨lw_p30, List.forall_mem_cons.mpr ⟨lw_p31, fun _ h => absurd h List.not_mem_nil⟩⟩⟩⟩⟩⟩⟩⟩⟩⟩⟩⟩⟩⟩⟩⟩
theorem lw_p32 : lw_okq (⟨"RequestGateModel", "makeSession", "(IZ)I"⟩, 56) := ⟨⟨by decide +kernel, by decide +kernel⟩, List.mem_of_getElem? (i := 805) (by decide +kernel), List.mem_of_getElem? (i := 1042) (by decide +kernel), List.mem_of_getElem? (i := 1043) (by decide +kernel)⟩
theorem lw_p33 : lw_okq (⟨"RequestGateModel", "makeSeries", "(I)V"⟩, 56) := ⟨⟨by decide +kernel, by decide +kernel⟩, List.mem_of_getElem? (i := 805) (by decide +kernel), List.mem_of_getElem? (i := 1046) (by decide +kernel), List.mem_of_getElem? (i := 1047) (by decide +kernel)⟩
theorem lw_p34 : lw_okq (⟨"RequestGateModel", "endSeries", "(I)V"⟩, 56) := ⟨⟨by decide +kernel, by decide +kernel⟩, List.mem_of_getElem? (i := 805) (by decide +kernel), List.mem_of_getElem? (i := 1054) (by decide +kernel), List.mem_of_getElem? (i := 1055) (by decide +kernel)⟩
theorem lw_p35 : lw_okq (⟨"RequestGateModel", "mayBe", "(II)Z"⟩, 56) := ⟨⟨by decide +kernel, by decide +kernel⟩, List.mem_of_getElem? (i := 805) (by decide +kernel), List.mem_of_getElem? (i := 1066) (by decide +kernel), List.mem_of_getElem? (i := 1067) (by decide +kernel)⟩
theorem lw_p36 : lw_okq (⟨"RequestGateModel", "guard", "(III)I"⟩, 56) := ⟨⟨by decide +kernel, by decide +kernel⟩, List.mem_of_getElem? (i := 805) (by decide +kernel), List.mem_of_getElem? (i := 1078) (by decide +kernel), List.mem_of_getElem? (i := 1079) (by decide +kernel)⟩
theorem lw_p37 : lw_okq (⟨"RequestGateModel", "valueOf", "(IIZI)I"⟩, 56) := ⟨⟨by decide +kernel, by decide +kernel⟩, List.mem_of_getElem? (i := 805) (by decide +kernel), List.mem_of_getElem? (i := 1082) (by decide +kernel), List.mem_of_getElem? (i := 1083) (by decide +kernel)⟩
theorem lw_p38 : lw_okq (⟨"RequestGateModel", "simple", "(IIZI)I"⟩, 56) := ⟨⟨by decide +kernel, by decide +kernel⟩, List.mem_of_getElem? (i := 805) (by decide +kernel), List.mem_of_getElem? (i := 1086) (by decide +kernel), List.mem_of_getElem? (i := 1087) (by decide +kernel)⟩
theorem lw_p39 : lw_okq (⟨"RequestGateModel", "read", "()Z"⟩, 56) := ⟨⟨by decide +kernel, by decide +kernel⟩, List.mem_of_getElem? (i := 805) (by decide +kernel), List.mem_of_getElem? (i := 1097) (by decide +kernel), List.mem_of_getElem? (i := 1098) (by decide +kernel)⟩
theorem lw_p40 : lw_okq (⟨"RequestGateModel", "settle", "(I)Z"⟩, 56) := ⟨⟨by decide +kernel, by decide +kernel⟩, List.mem_of_getElem? (i := 805) (by decide +kernel), List.mem_of_getElem? (i := 1104) (by decide +kernel), List.mem_of_getElem? (i := 1105) (by decide +kernel)⟩
theorem lw_p41 : lw_okq (⟨"RequestGateModel", "dots", "(II)Z"⟩, 56) := ⟨⟨by decide +kernel, by decide +kernel⟩, List.mem_of_getElem? (i := 805) (by decide +kernel), List.mem_of_getElem? (i := 1108) (by decide +kernel), List.mem_of_getElem? (i := 1109) (by decide +kernel)⟩
theorem lw_p42 : lw_okq (⟨"RequestGateModel", "ask", "(III)I"⟩, 56) := ⟨⟨by decide +kernel, by decide +kernel⟩, List.mem_of_getElem? (i := 805) (by decide +kernel), List.mem_of_getElem? (i := 1112) (by decide +kernel), List.mem_of_getElem? (i := 1113) (by decide +kernel)⟩
theorem lw_p43 : lw_okq (⟨"RequestGateModel", "seriesBy", "(I)I"⟩, 56) := ⟨⟨by decide +kernel, by decide +kernel⟩, List.mem_of_getElem? (i := 805) (by decide +kernel), List.mem_of_getElem? (i := 1116) (by decide +kernel), List.mem_of_getElem? (i := 1117) (by decide +kernel)⟩
theorem lw_p44 : lw_okq (⟨"RequestGateModel", "ruleFits", "(I)Z"⟩, 56) := ⟨⟨by decide +kernel, by decide +kernel⟩, List.mem_of_getElem? (i := 805) (by decide +kernel), List.mem_of_getElem? (i := 1120) (by decide +kernel), List.mem_of_getElem? (i := 1121) (by decide +kernel)⟩
theorem lw_p45 : lw_okq (⟨"RequestGateModel", "pieceFits", "(III)Z"⟩, 56) := ⟨⟨by decide +kernel, by decide +kernel⟩, List.mem_of_getElem? (i := 805) (by decide +kernel), List.mem_of_getElem? (i := 1124) (by decide +kernel), List.mem_of_getElem? (i := 1125) (by decide +kernel)⟩
def lw_privs_3 : List (MethodName × Nat) := [(⟨"RequestGateModel", "makeSession", "(IZ)I"⟩, 56), (⟨"RequestGateModel", "makeSeries", "(I)V"⟩, 56), (⟨"RequestGateModel", "endSeries", "(I)V"⟩, 56), (⟨"RequestGateModel", "mayBe", "(II)Z"⟩, 56), (⟨"RequestGateModel", "guard", "(III)I"⟩, 56), (⟨"RequestGateModel", "valueOf", "(IIZI)I"⟩, 56), (⟨"RequestGateModel", "simple", "(IIZI)I"⟩, 56), (⟨"RequestGateModel", "read", "()Z"⟩, 56), (⟨"RequestGateModel", "settle", "(I)Z"⟩, 56), (⟨"RequestGateModel", "dots", "(II)Z"⟩, 56), (⟨"RequestGateModel", "ask", "(III)I"⟩, 56), (⟨"RequestGateModel", "seriesBy", "(I)I"⟩, 56), (⟨"RequestGateModel", "ruleFits", "(I)Z"⟩, 56), (⟨"RequestGateModel", "pieceFits", "(III)Z"⟩, 56)]
theorem lw_r3 : ∀ q ∈ lw_privs_3, lw_okq q := List.forall_mem_cons.mpr ⟨lw_p32, List.forall_mem_cons.mpr ⟨lw_p33, List.forall_mem_cons.mpr ⟨lw_p34, List.forall_mem_cons.mpr ⟨lw_p35, List.forall_mem_cons.mpr ⟨lw_p36, List.forall_mem_cons.mpr ⟨lw_p37, List.forall_mem_cons.mpr ⟨lw_p38, List.forall_mem_cons.mpr ⟨lw_p39, List.forall_mem_cons.mpr ⟨lw_p40, List.forall_mem_cons.mpr ⟨lw_p41, List.forall_mem_cons.mpr ⟨lw_p42, List.forall_mem_cons.mpr ⟨lw_p43, List.forall_mem_cons.mpr ⟨lw_p44, List.forall_mem_cons.mpr ⟨lw_p45, fun _ h => absurd h List.not_mem_nil⟩⟩⟩⟩⟩⟩⟩⟩⟩⟩⟩⟩⟩⟩
def lw_privs : List (MethodName × Nat) := lw_privs_1 ++ (lw_privs_2 ++ (lw_privs_3))
def lw_tbl : List Cond := k2_sels lw_privs ++ tables_1
theorem lw_privs_ok : ∀ q ∈ lw_privs, lw_okq q := by
  show ∀ q ∈ lw_privs_1 ++ (lw_privs_2 ++ (lw_privs_3)), lw_okq q
  exact List.forall_mem_append.mpr ⟨lw_r1, List.forall_mem_append.mpr ⟨lw_r2, lw_r3⟩⟩
end
section
/-! names, laid out by a program of mine from the Statement: classes, fields, methods, words -/
def zz_ws : List Cond := lw_tbl.filter goodWord
theorem zz_wsG : GoodIn zz_ws zz_ws := fun _ hw => ⟨hw, good_of_word (List.mem_filter.mp hw).2⟩
theorem zz_in {w : Cond} (h : w ∈ tables_1) (hg : goodWord w = true) : w ∈ zz_ws := List.mem_filter.mpr ⟨List.mem_append_right _ h, hg⟩
theorem zz_inp {y : MethodName} {n : Nat} (h : (y, n) ∈ lw_privs) : Cond.selects y.cls y y ∈ zz_ws := List.mem_filter.mpr ⟨List.mem_append_left _ (List.mem_map.mpr ⟨(y, n), h, rfl⟩), rfl⟩
def fF_0 : u_T := fun k => match k with
  | 0 => ("RequestGate", "buffer", "LRequestGate$Text;", true)
  | 1 => ("RequestGate", "path", "LRequestGate$PlainPath;", true)
  | 2 => ("RequestGate", "layer", "LRequestGate$Layer;", true)
  | 3 => ("RequestGate", "conditions", "LRequestGate$Conditions;", true)
  | 4 => ("RequestGate", "inclusions", "LRequestGate$Roles;", true)
  | 5 => ("RequestGate", "rules", "Ljava/util/ArrayList;", true)
  | 6 => ("RequestGate", "users", "Ljava/util/ArrayList;", true)
  | 7 => ("RequestGate", "services", "Ljava/util/ArrayList;", true)
  | 8 => ("RequestGate", "sessions", "LRequestGate$Tickets;", true)
  | 9 => ("RequestGate", "memory", "LRequestGate$Tickets;", true)
  | 10 => ("RequestGate", "subject", "I", false)
  | 11 => ("RequestGate", "requestIsOpen", "Z", false)
  | 12 => ("RequestGate", "time", "I", false)
  | 13 => ("RequestGate", "drawn", "I", false)
  | 14 => ("RequestGate", "opened", "I", false)
  | 15 => ("RequestGate", "bodiesRun", "I", false)
  | 16 => ("RequestGate", "bodiesBarred", "I", false)
  | 17 => ("RequestGate", "thefts", "I", false)
  | _ => ("RequestGate", "lockings", "I", false)
def fF_1 : u_T := fun k => match k with
  | 0 => ("RequestGate$Text", "characters", "[C", true)
  | _ => ("RequestGate$Text", "length", "I", false)
def fF_2 : u_T := fun k => match k with
  | 0 => ("RequestGate$Pieces", "characters", "[C", true)
  | 1 => ("RequestGate$Pieces", "starts", "[I", true)
  | 2 => ("RequestGate$Pieces", "ends", "[I", true)
  | 3 => ("RequestGate$Pieces", "begun", "I", false)
  | 4 => ("RequestGate$Pieces", "written", "I", false)
  | _ => ("RequestGate$Pieces", "size", "I", false)
def fF_3 : u_T := fun k => match k with
  | _ => ("RequestGate$PlainPath", "segments", "LRequestGate$Pieces;", true)
def fF_4 : u_T := fun k => match k with
  | 0 => ("RequestGate$Layer", "laid", "[Z", true)
  | _ => ("RequestGate$Layer", "reached", "[Z", true)
def fF_5 : u_T := fun k => match k with
  | 0 => ("RequestGate$Rule", "pattern", "LRequestGate$Pieces;", true)
  | 1 => ("RequestGate$Rule", "expression", "I", true)
  | _ => ("RequestGate$Rule", "methods", "I", true)
def fF_6 : u_T := fun k => match k with
  | _ => ("RequestGate$Roles", "included", "[I", true)
def fF_7 : u_T := fun k => match k with
  | 0 => ("RequestGate$Conditions", "ops", "[I", true)
  | 1 => ("RequestGate$Conditions", "firsts", "[I", true)
  | 2 => ("RequestGate$Conditions", "seconds", "[I", true)
  | 3 => ("RequestGate$Conditions", "values", "[I", true)
  | _ => ("RequestGate$Conditions", "size", "I", false)
def fF_8 : u_T := fun k => match k with
  | 0 => ("RequestGate$User", "given", "I", true)
  | 1 => ("RequestGate$User", "scheme", "I", false)
  | 2 => ("RequestGate$User", "salt", "I", false)
  | 3 => ("RequestGate$User", "hash", "I", false)
  | 4 => ("RequestGate$User", "wrongTries", "I", false)
  | _ => ("RequestGate$User", "lockedUntil", "I", false)
def fF_9 : u_T := fun k => match k with
  | 0 => ("RequestGate$Ticket", "user", "I", true)
  | 1 => ("RequestGate$Ticket", "id", "I", true)
  | 2 => ("RequestGate$Ticket", "token", "I", false)
  | 3 => ("RequestGate$Ticket", "remembered", "Z", true)
  | 4 => ("RequestGate$Ticket", "made", "I", true)
  | _ => ("RequestGate$Ticket", "lastUsed", "I", false)
def fF_10 : u_T := fun k => match k with
  | _ => ("RequestGate$Tickets", "all", "Ljava/util/ArrayList;", true)
def fF_11 : u_T := fun k => match k with
  | 0 => ("RequestGate$Service", "parent", "I", true)
  | 1 => ("RequestGate$Service", "face", "I", true)
  | 2 => ("RequestGate$Service", "condition", "I", true)
  | 3 => ("RequestGate$Service", "declared", "[Z", true)
  | _ => ("RequestGate$Service", "conditions", "[I", true)
def fF_12 : u_T := fun k => match k with
  | 0 => ("java/util/ArrayList", "elementData", "[Ljava/lang/Object;", false)
  | 1 => ("java/util/ArrayList", "size", "I", false)
  | _ => ("java/util/AbstractList", "modCount", "I", false)
def fF_13 : u_T := fun k => match k with
  | 0 => ("RequestGateModel", "drawn", "I", false)
  | 1 => ("RequestGateModel", "time", "I", false)
  | 2 => ("RequestGateModel", "opened", "I", false)
  | 3 => ("RequestGateModel", "ran", "I", false)
  | 4 => ("RequestGateModel", "kept", "I", false)
  | 5 => ("RequestGateModel", "thefts", "I", false)
  | 6 => ("RequestGateModel", "locks", "I", false)
  | 7 => ("RequestGateModel", "added", "[I", true)
  | 8 => ("RequestGateModel", "users", "I", false)
  | 9 => ("RequestGateModel", "given", "[I", true)
  | 10 => ("RequestGateModel", "scheme", "[I", true)
  | 11 => ("RequestGateModel", "salt", "[I", true)
  | 12 => ("RequestGateModel", "hash", "[I", true)
  | 13 => ("RequestGateModel", "fails", "[I", true)
  | 14 => ("RequestGateModel", "lockedTo", "[I", true)
  | 15 => ("RequestGateModel", "made", "[Z", true)
  | 16 => ("RequestGateModel", "sessionId", "[I", true)
  | 17 => ("RequestGateModel", "sessionToken", "[I", true)
  | 18 => ("RequestGateModel", "remembered", "[Z", true)
  | 19 => ("RequestGateModel", "madeAt", "[I", true)
  | 20 => ("RequestGateModel", "usedAt", "[I", true)
  | 21 => ("RequestGateModel", "lasting", "[Z", true)
  | 22 => ("RequestGateModel", "seriesId", "[I", true)
  | 23 => ("RequestGateModel", "seriesToken", "[I", true)
  | 24 => ("RequestGateModel", "expressions", "I", false)
  | 25 => ("RequestGateModel", "op", "[I", true)
  | 26 => ("RequestGateModel", "one", "[I", true)
  | 27 => ("RequestGateModel", "two", "[I", true)
  | 28 => ("RequestGateModel", "value", "[I", true)
  | 29 => ("RequestGateModel", "size", "I", false)
  | 30 => ("RequestGateModel", "buffer", "[I", true)
  | 31 => ("RequestGateModel", "plain", "[I", true)
  | 32 => ("RequestGateModel", "from", "[I", true)
  | 33 => ("RequestGateModel", "to", "[I", true)
  | 34 => ("RequestGateModel", "segment", "[I", true)
  | 35 => ("RequestGateModel", "segments", "I", false)
  | 36 => ("RequestGateModel", "here", "[Z", true)
  | 37 => ("RequestGateModel", "next", "[Z", true)
  | 38 => ("RequestGateModel", "mark", "[Z", true)
  | 39 => ("RequestGateModel", "beyond", "[Z", true)
  | 40 => ("RequestGateModel", "rules", "I", false)
  | 41 => ("RequestGateModel", "text", "[I", true)
  | 42 => ("RequestGateModel", "length", "[I", true)
  | 43 => ("RequestGateModel", "condition", "[I", true)
  | 44 => ("RequestGateModel", "methods", "[I", true)
  | 45 => ("RequestGateModel", "types", "I", false)
  | 46 => ("RequestGateModel", "parent", "[I", true)
  | 47 => ("RequestGateModel", "face", "[I", true)
  | 48 => ("RequestGateModel", "typeCondition", "[I", true)
  | 49 => ("RequestGateModel", "declares", "[Z", true)
  | 50 => ("RequestGateModel", "declared", "[I", true)
  | 51 => ("RequestGateModel", "isOpen", "Z", false)
  | 52 => ("RequestGateModel", "subject", "I", false)
  | 53 => ("RequestGateModel", "subjectRemembered", "Z", false)
  | 54 => ("RequestGateModel", "asker", "I", false)
  | _ => ("RequestGateModel", "askerRemembered", "Z", false)
abbrev zz_cl : List vw_C := [("RequestGate", fF_0, 19), ("RequestGate$Text", fF_1, 2), ("RequestGate$Pieces", fF_2, 6), ("RequestGate$PlainPath", fF_3, 1), ("RequestGate$Layer", fF_4, 2), ("RequestGate$Rule", fF_5, 3), ("RequestGate$Roles", fF_6, 1), ("RequestGate$Conditions", fF_7, 5), ("RequestGate$User", fF_8, 6), ("RequestGate$Ticket", fF_9, 6), ("RequestGate$Tickets", fF_10, 1), ("RequestGate$Service", fF_11, 5), ("java/util/ArrayList", fF_12, 3), ("RequestGateModel", fF_13, 56)]
def zz_ftl : List (List FieldType) := [[.object "RequestGate$Text", .object "RequestGate$PlainPath", .object "RequestGate$Layer", .object "RequestGate$Conditions", .object "RequestGate$Roles", .object "java/util/ArrayList", .object "java/util/ArrayList", .object "java/util/ArrayList", .object "RequestGate$Tickets", .object "RequestGate$Tickets", .int, .boolean, .int, .int, .int, .int, .int, .int, .int],
  [.array .char, .int],
  [.array .char, .array .int, .array .int, .int, .int, .int],
  [.object "RequestGate$Pieces"],
  [.array .boolean, .array .boolean],
  [.object "RequestGate$Pieces", .int, .int],
  [.array .int],
  [.array .int, .array .int, .array .int, .array .int, .int],
  [.int, .int, .int, .int, .int, .int],
  [.int, .int, .int, .boolean, .int, .int],
  [.object "java/util/ArrayList"],
  [.int, .int, .int, .array .boolean, .array .int],
  [.array (.object "java/lang/Object"), .int, .int],
  [.int, .int, .int, .int, .int, .int, .int, .array .int, .int, .array .int, .array .int, .array .int, .array .int, .array .int, .array .int, .array .boolean, .array .int, .array .int, .array .boolean, .array .int, .array .int, .array .boolean, .array .int, .array .int, .int, .array .int, .array .int, .array .int, .array .int, .int, .array .int, .array .int, .array .int, .array .int, .array .int, .int, .array .boolean, .array .boolean, .array .boolean, .array .boolean, .int, .array .int, .array .int, .array .int, .array .int, .int, .array .int, .array .int, .array .int, .array .boolean, .array .int, .boolean, .int, .boolean, .int, .boolean]]
def zz_fty (ci k : Nat) : FieldType := (zz_ftl.getD ci []).getD k .int
def zz_nl : List (String × Nat × MethodName × String) := [("RequestGate", 11, ⟨"RequestGate$Text", "<init>", "()V"⟩, "RequestGate"), ("RequestGate", 18, ⟨"RequestGate$PlainPath", "<init>", "()V"⟩, "RequestGate"), ("RequestGate$PlainPath", 11, ⟨"RequestGate$Pieces", "<init>", "()V"⟩, "RequestGate"), ("RequestGate", 25, ⟨"RequestGate$Layer", "<init>", "()V"⟩, "RequestGate"), ("RequestGate", 32, ⟨"RequestGate$Conditions", "<init>", "()V"⟩, "RequestGate"), ("RequestGate", 59, ⟨"RequestGate$Tickets", "<init>", "()V"⟩, "RequestGate"), ("RequestGate$Rule", 9, ⟨"RequestGate$Pieces", "<init>", "()V"⟩, "RequestGate"), ("RequestGate$Service", 29, ⟨"RequestGate", "isOperation", "(I)Z"⟩, "RequestGate")]
def zz_ca : List (String × String) := [("RequestGate$Service", "RequestGate$Service"), ("RequestGate$Ticket", "RequestGate$Ticket"), ("RequestGate$User", "RequestGate$User"), ("RequestGate$Rule", "RequestGate$Rule"), ("RequestGate", "java/lang/Object"), ("RequestGate$Text", "java/lang/Object"), ("RequestGate$PlainPath", "java/lang/Object"), ("RequestGate$Pieces", "java/lang/Object"), ("RequestGate$Layer", "java/lang/Object"), ("RequestGate$Conditions", "java/lang/Object"), ("RequestGate$Roles", "java/lang/Object"), ("RequestGate$Tickets", "java/lang/Object"), ("RequestGateModel", "java/lang/Object"), ("RequestGate$Rule", "java/lang/Object"), ("RequestGate$User", "java/lang/Object"), ("RequestGate$Service", "java/lang/Object"), ("RequestGate$Ticket", "java/lang/Object")]
theorem zw_0 : Cond.initialized "RequestGateLaw" ∈ zz_ws := zz_in (List.mem_of_getElem? (i := 0) (by decide +kernel)) rfl
theorem zw_1 : Cond.initialized "RequestGate" ∈ zz_ws := zz_in (List.mem_of_getElem? (i := 1) (by decide +kernel)) rfl
theorem zw_2 : Cond.initialized "RequestGate$Text" ∈ zz_ws := zz_in (List.mem_of_getElem? (i := 2) (by decide +kernel)) rfl
theorem zw_3 : Cond.initialized "RequestGate$PlainPath" ∈ zz_ws := zz_in (List.mem_of_getElem? (i := 3) (by decide +kernel)) rfl
theorem zw_4 : Cond.initialized "RequestGate$Pieces" ∈ zz_ws := zz_in (List.mem_of_getElem? (i := 4) (by decide +kernel)) rfl
theorem zw_5 : Cond.initialized "RequestGate$Layer" ∈ zz_ws := zz_in (List.mem_of_getElem? (i := 5) (by decide +kernel)) rfl
theorem zw_6 : Cond.initialized "RequestGate$Conditions" ∈ zz_ws := zz_in (List.mem_of_getElem? (i := 6) (by decide +kernel)) rfl
theorem zw_7 : Cond.initialized "RequestGate$Roles" ∈ zz_ws := zz_in (List.mem_of_getElem? (i := 7) (by decide +kernel)) rfl
theorem zw_8 : Cond.initialized "java/util/AbstractCollection" ∈ zz_ws := zz_in (List.mem_of_getElem? (i := 8) (by decide +kernel)) rfl
theorem zw_9 : Cond.initialized "java/util/AbstractList" ∈ zz_ws := zz_in (List.mem_of_getElem? (i := 9) (by decide +kernel)) rfl
theorem zw_10 : Cond.initialized "java/util/ArrayList" ∈ zz_ws := zz_in (List.mem_of_getElem? (i := 10) (by decide +kernel)) rfl
theorem zw_11 : Cond.initialized "RequestGate$Tickets" ∈ zz_ws := zz_in (List.mem_of_getElem? (i := 11) (by decide +kernel)) rfl
theorem zw_12 : Cond.initialized "RequestGateModel" ∈ zz_ws := zz_in (List.mem_of_getElem? (i := 12) (by decide +kernel)) rfl
theorem zw_13 : Cond.initialized "RequestGate$Rule" ∈ zz_ws := zz_in (List.mem_of_getElem? (i := 13) (by decide +kernel)) rfl
theorem zw_14 : Cond.initialized "jdk/internal/util/ArraysSupport" ∈ zz_ws := zz_in (List.mem_of_getElem? (i := 14) (by decide +kernel)) rfl
theorem zw_15 : Cond.initialized "java/lang/Math" ∈ zz_ws := zz_in (List.mem_of_getElem? (i := 15) (by decide +kernel)) rfl
theorem zw_16 : Cond.initialized "java/util/Arrays" ∈ zz_ws := zz_in (List.mem_of_getElem? (i := 16) (by decide +kernel)) rfl
theorem zw_17 : Cond.initialized "java/lang/System" ∈ zz_ws := zz_in (List.mem_of_getElem? (i := 17) (by decide +kernel)) rfl
theorem zw_18 : Cond.initialized "RequestGate$User" ∈ zz_ws := zz_in (List.mem_of_getElem? (i := 18) (by decide +kernel)) rfl
theorem zw_19 : Cond.initialized "RequestGate$Service" ∈ zz_ws := zz_in (List.mem_of_getElem? (i := 19) (by decide +kernel)) rfl
theorem zw_20 : Cond.initialized "java/util/Objects" ∈ zz_ws := zz_in (List.mem_of_getElem? (i := 20) (by decide +kernel)) rfl
theorem zw_21 : Cond.initialized "jdk/internal/util/Preconditions" ∈ zz_ws := zz_in (List.mem_of_getElem? (i := 21) (by decide +kernel)) rfl
theorem zw_22 : Cond.initialized "RequestGate$Ticket" ∈ zz_ws := zz_in (List.mem_of_getElem? (i := 22) (by decide +kernel)) rfl
theorem zw_23 : Cond.classLink "RequestGateLaw" (7 : Nat) "RequestGate" ∈ zz_ws := zz_in (List.mem_of_getElem? (i := 23) (by decide +kernel)) rfl
theorem zw_24 : Cond.instantiable "RequestGate" (19 : Nat) ∈ zz_ws := zz_in (List.mem_of_getElem? (i := 24) (by decide +kernel)) rfl
theorem zw_25 : Cond.methodLink "RequestGateLaw" (9 : Nat) ({ cls := "RequestGate", name := "<init>", desc := "()V" } : MethodName) ∈ zz_ws := zz_in (List.mem_of_getElem? (i := 25) (by decide +kernel)) rfl
theorem zw_26 : Cond.instanceMethod ({ cls := "RequestGate", name := "<init>", desc := "()V" } : MethodName) ∈ zz_ws := zz_in (List.mem_of_getElem? (i := 26) (by decide +kernel)) rfl
theorem zw_27 : Cond.code ({ cls := "RequestGate", name := "<init>", desc := "()V" } : MethodName) prog_1_method_1_code (1 : Nat) (none : Option FieldType) ∈ zz_ws := zz_in (List.mem_of_getElem? (i := 27) (by decide +kernel)) rfl
theorem zw_28 : Cond.methodLink "RequestGate" (3 : Nat) ({ cls := "java/lang/Object", name := "<init>", desc := "()V" } : MethodName) ∈ zz_ws := zz_in (List.mem_of_getElem? (i := 28) (by decide +kernel)) rfl
theorem zw_29 : Cond.instanceMethod ({ cls := "java/lang/Object", name := "<init>", desc := "()V" } : MethodName) ∈ zz_ws := zz_in (List.mem_of_getElem? (i := 29) (by decide +kernel)) rfl
theorem zw_30 : Cond.code ({ cls := "java/lang/Object", name := "<init>", desc := "()V" } : MethodName) object_method_1_code (1 : Nat) (none : Option FieldType) ∈ zz_ws := zz_in (List.mem_of_getElem? (i := 30) (by decide +kernel)) rfl
theorem zw_31 : Cond.classLink "RequestGate" (9 : Nat) "RequestGate$Text" ∈ zz_ws := zz_in (List.mem_of_getElem? (i := 31) (by decide +kernel)) rfl
theorem zw_32 : Cond.instantiable "RequestGate$Text" (2 : Nat) ∈ zz_ws := zz_in (List.mem_of_getElem? (i := 32) (by decide +kernel)) rfl
theorem zw_34 : Cond.instanceMethod ({ cls := "RequestGate$Text", name := "<init>", desc := "()V" } : MethodName) ∈ zz_ws := zz_in (List.mem_of_getElem? (i := 34) (by decide +kernel)) rfl
theorem zw_35 : Cond.code ({ cls := "RequestGate$Text", name := "<init>", desc := "()V" } : MethodName) prog_9_method_1_code (1 : Nat) (none : Option FieldType) ∈ zz_ws := zz_in (List.mem_of_getElem? (i := 35) (by decide +kernel)) rfl
theorem zw_36 : Cond.methodLink "RequestGate$Text" (3 : Nat) ({ cls := "java/lang/Object", name := "<init>", desc := "()V" } : MethodName) ∈ zz_ws := zz_in (List.mem_of_getElem? (i := 36) (by decide +kernel)) rfl
theorem zw_37 : Cond.fieldLink "RequestGate$Text" (9 : Nat) "RequestGate$Text" "characters" "[C" ∈ zz_ws := zz_in (List.mem_of_getElem? (i := 37) (by decide +kernel)) rfl
theorem zw_38 : Cond.fieldLink "RequestGate$Rule" (23 : Nat) "RequestGate$Text" "length" "I" ∈ zz_ws := zz_in (List.mem_of_getElem? (i := 38) (by decide +kernel)) rfl
theorem zw_39 : Cond.fieldLink "RequestGate$PlainPath" (31 : Nat) "RequestGate$Text" "length" "I" ∈ zz_ws := zz_in (List.mem_of_getElem? (i := 39) (by decide +kernel)) rfl
theorem zw_40 : Cond.fieldLink "RequestGate$Text" (19 : Nat) "RequestGate$Text" "length" "I" ∈ zz_ws := zz_in (List.mem_of_getElem? (i := 40) (by decide +kernel)) rfl
theorem zw_41 : Cond.laysFinal "RequestGate$Text" "RequestGate$Text" "characters" "[C" ∈ zz_ws := zz_in (List.mem_of_getElem? (i := 41) (by decide +kernel)) rfl
theorem zw_43 : Cond.lays "RequestGate$Text" "RequestGate$Text" "length" "I" ∈ zz_ws := zz_in (List.mem_of_getElem? (i := 43) (by decide +kernel)) rfl
theorem zw_46 : Cond.arrayClass FieldType.char ∈ zz_ws := zz_in (List.mem_of_getElem? (i := 46) (by decide +kernel)) rfl
theorem zw_47 : Cond.classLink "RequestGate" (16 : Nat) "RequestGate$PlainPath" ∈ zz_ws := zz_in (List.mem_of_getElem? (i := 47) (by decide +kernel)) rfl
theorem zw_48 : Cond.instantiable "RequestGate$PlainPath" (1 : Nat) ∈ zz_ws := zz_in (List.mem_of_getElem? (i := 48) (by decide +kernel)) rfl
theorem zw_50 : Cond.instanceMethod ({ cls := "RequestGate$PlainPath", name := "<init>", desc := "()V" } : MethodName) ∈ zz_ws := zz_in (List.mem_of_getElem? (i := 50) (by decide +kernel)) rfl
theorem zw_51 : Cond.code ({ cls := "RequestGate$PlainPath", name := "<init>", desc := "()V" } : MethodName) prog_5_method_1_code (1 : Nat) (none : Option FieldType) ∈ zz_ws := zz_in (List.mem_of_getElem? (i := 51) (by decide +kernel)) rfl
theorem zw_52 : Cond.methodLink "RequestGate$PlainPath" (3 : Nat) ({ cls := "java/lang/Object", name := "<init>", desc := "()V" } : MethodName) ∈ zz_ws := zz_in (List.mem_of_getElem? (i := 52) (by decide +kernel)) rfl
theorem zw_53 : Cond.classLink "RequestGate$PlainPath" (9 : Nat) "RequestGate$Pieces" ∈ zz_ws := zz_in (List.mem_of_getElem? (i := 53) (by decide +kernel)) rfl
theorem zw_54 : Cond.instantiable "RequestGate$Pieces" (6 : Nat) ∈ zz_ws := zz_in (List.mem_of_getElem? (i := 54) (by decide +kernel)) rfl
theorem zw_56 : Cond.instanceMethod ({ cls := "RequestGate$Pieces", name := "<init>", desc := "()V" } : MethodName) ∈ zz_ws := zz_in (List.mem_of_getElem? (i := 56) (by decide +kernel)) rfl
theorem zw_57 : Cond.code ({ cls := "RequestGate$Pieces", name := "<init>", desc := "()V" } : MethodName) prog_4_method_1_code (1 : Nat) (none : Option FieldType) ∈ zz_ws := zz_in (List.mem_of_getElem? (i := 57) (by decide +kernel)) rfl
theorem zw_58 : Cond.methodLink "RequestGate$Pieces" (3 : Nat) ({ cls := "java/lang/Object", name := "<init>", desc := "()V" } : MethodName) ∈ zz_ws := zz_in (List.mem_of_getElem? (i := 58) (by decide +kernel)) rfl
theorem zw_59 : Cond.fieldLink "RequestGate$Pieces" (9 : Nat) "RequestGate$Pieces" "characters" "[C" ∈ zz_ws := zz_in (List.mem_of_getElem? (i := 59) (by decide +kernel)) rfl
theorem zw_60 : Cond.fieldLink "RequestGate$Pieces" (15 : Nat) "RequestGate$Pieces" "starts" "[I" ∈ zz_ws := zz_in (List.mem_of_getElem? (i := 60) (by decide +kernel)) rfl
theorem zw_61 : Cond.fieldLink "RequestGate$Pieces" (19 : Nat) "RequestGate$Pieces" "ends" "[I" ∈ zz_ws := zz_in (List.mem_of_getElem? (i := 61) (by decide +kernel)) rfl
theorem zw_62 : Cond.fieldLink "RequestGate$Pieces" (22 : Nat) "RequestGate$Pieces" "begun" "I" ∈ zz_ws := zz_in (List.mem_of_getElem? (i := 62) (by decide +kernel)) rfl
theorem zw_63 : Cond.fieldLink "RequestGate$Pieces" (26 : Nat) "RequestGate$Pieces" "written" "I" ∈ zz_ws := zz_in (List.mem_of_getElem? (i := 63) (by decide +kernel)) rfl
theorem zw_64 : Cond.fieldLink "RequestGate$Layer" (22 : Nat) "RequestGate$Pieces" "size" "I" ∈ zz_ws := zz_in (List.mem_of_getElem? (i := 64) (by decide +kernel)) rfl
theorem zw_65 : Cond.fieldLink "RequestGate$Pieces" (29 : Nat) "RequestGate$Pieces" "size" "I" ∈ zz_ws := zz_in (List.mem_of_getElem? (i := 65) (by decide +kernel)) rfl
theorem zw_66 : Cond.fieldLink "RequestGate$PlainPath" (76 : Nat) "RequestGate$Pieces" "size" "I" ∈ zz_ws := zz_in (List.mem_of_getElem? (i := 66) (by decide +kernel)) rfl
theorem zw_67 : Cond.fieldLink "RequestGate" (275 : Nat) "RequestGate$Pieces" "size" "I" ∈ zz_ws := zz_in (List.mem_of_getElem? (i := 67) (by decide +kernel)) rfl
theorem zw_68 : Cond.laysFinal "RequestGate$Pieces" "RequestGate$Pieces" "characters" "[C" ∈ zz_ws := zz_in (List.mem_of_getElem? (i := 68) (by decide +kernel)) rfl
theorem zw_70 : Cond.laysFinal "RequestGate$Pieces" "RequestGate$Pieces" "starts" "[I" ∈ zz_ws := zz_in (List.mem_of_getElem? (i := 70) (by decide +kernel)) rfl
theorem zw_72 : Cond.laysFinal "RequestGate$Pieces" "RequestGate$Pieces" "ends" "[I" ∈ zz_ws := zz_in (List.mem_of_getElem? (i := 72) (by decide +kernel)) rfl
theorem zw_74 : Cond.lays "RequestGate$Pieces" "RequestGate$Pieces" "begun" "I" ∈ zz_ws := zz_in (List.mem_of_getElem? (i := 74) (by decide +kernel)) rfl
theorem zw_76 : Cond.lays "RequestGate$Pieces" "RequestGate$Pieces" "written" "I" ∈ zz_ws := zz_in (List.mem_of_getElem? (i := 76) (by decide +kernel)) rfl
theorem zw_78 : Cond.lays "RequestGate$Pieces" "RequestGate$Pieces" "size" "I" ∈ zz_ws := zz_in (List.mem_of_getElem? (i := 78) (by decide +kernel)) rfl
theorem zw_81 : Cond.arrayClass FieldType.int ∈ zz_ws := zz_in (List.mem_of_getElem? (i := 81) (by decide +kernel)) rfl
theorem zw_82 : Cond.fieldLink "RequestGate$PlainPath" (12 : Nat) "RequestGate$PlainPath" "segments" "LRequestGate$Pieces;" ∈ zz_ws := zz_in (List.mem_of_getElem? (i := 82) (by decide +kernel)) rfl
theorem zw_83 : Cond.fieldLink "RequestGate" (230 : Nat) "RequestGate$PlainPath" "segments" "LRequestGate$Pieces;" ∈ zz_ws := zz_in (List.mem_of_getElem? (i := 83) (by decide +kernel)) rfl
theorem zw_84 : Cond.laysFinal "RequestGate$PlainPath" "RequestGate$PlainPath" "segments" "LRequestGate$Pieces;" ∈ zz_ws := zz_in (List.mem_of_getElem? (i := 84) (by decide +kernel)) rfl
theorem zw_87 : Cond.classLink "RequestGate" (23 : Nat) "RequestGate$Layer" ∈ zz_ws := zz_in (List.mem_of_getElem? (i := 87) (by decide +kernel)) rfl
theorem zw_88 : Cond.instantiable "RequestGate$Layer" (2 : Nat) ∈ zz_ws := zz_in (List.mem_of_getElem? (i := 88) (by decide +kernel)) rfl
theorem zw_90 : Cond.instanceMethod ({ cls := "RequestGate$Layer", name := "<init>", desc := "()V" } : MethodName) ∈ zz_ws := zz_in (List.mem_of_getElem? (i := 90) (by decide +kernel)) rfl
theorem zw_91 : Cond.code ({ cls := "RequestGate$Layer", name := "<init>", desc := "()V" } : MethodName) prog_3_method_1_code (1 : Nat) (none : Option FieldType) ∈ zz_ws := zz_in (List.mem_of_getElem? (i := 91) (by decide +kernel)) rfl
theorem zw_92 : Cond.methodLink "RequestGate$Layer" (3 : Nat) ({ cls := "java/lang/Object", name := "<init>", desc := "()V" } : MethodName) ∈ zz_ws := zz_in (List.mem_of_getElem? (i := 92) (by decide +kernel)) rfl
theorem zw_93 : Cond.fieldLink "RequestGate$Layer" (9 : Nat) "RequestGate$Layer" "laid" "[Z" ∈ zz_ws := zz_in (List.mem_of_getElem? (i := 93) (by decide +kernel)) rfl
theorem zw_94 : Cond.fieldLink "RequestGate$Layer" (15 : Nat) "RequestGate$Layer" "reached" "[Z" ∈ zz_ws := zz_in (List.mem_of_getElem? (i := 94) (by decide +kernel)) rfl
theorem zw_95 : Cond.laysFinal "RequestGate$Layer" "RequestGate$Layer" "laid" "[Z" ∈ zz_ws := zz_in (List.mem_of_getElem? (i := 95) (by decide +kernel)) rfl
theorem zw_97 : Cond.laysFinal "RequestGate$Layer" "RequestGate$Layer" "reached" "[Z" ∈ zz_ws := zz_in (List.mem_of_getElem? (i := 97) (by decide +kernel)) rfl
theorem zw_100 : Cond.arrayClass FieldType.boolean ∈ zz_ws := zz_in (List.mem_of_getElem? (i := 100) (by decide +kernel)) rfl
theorem zw_101 : Cond.classLink "RequestGate" (30 : Nat) "RequestGate$Conditions" ∈ zz_ws := zz_in (List.mem_of_getElem? (i := 101) (by decide +kernel)) rfl
theorem zw_102 : Cond.instantiable "RequestGate$Conditions" (5 : Nat) ∈ zz_ws := zz_in (List.mem_of_getElem? (i := 102) (by decide +kernel)) rfl
theorem zw_104 : Cond.instanceMethod ({ cls := "RequestGate$Conditions", name := "<init>", desc := "()V" } : MethodName) ∈ zz_ws := zz_in (List.mem_of_getElem? (i := 104) (by decide +kernel)) rfl
theorem zw_105 : Cond.code ({ cls := "RequestGate$Conditions", name := "<init>", desc := "()V" } : MethodName) prog_2_method_1_code (1 : Nat) (none : Option FieldType) ∈ zz_ws := zz_in (List.mem_of_getElem? (i := 105) (by decide +kernel)) rfl
theorem zw_106 : Cond.methodLink "RequestGate$Conditions" (3 : Nat) ({ cls := "java/lang/Object", name := "<init>", desc := "()V" } : MethodName) ∈ zz_ws := zz_in (List.mem_of_getElem? (i := 106) (by decide +kernel)) rfl
theorem zw_107 : Cond.fieldLink "RequestGate$Conditions" (9 : Nat) "RequestGate$Conditions" "ops" "[I" ∈ zz_ws := zz_in (List.mem_of_getElem? (i := 107) (by decide +kernel)) rfl
theorem zw_108 : Cond.fieldLink "RequestGate$Conditions" (15 : Nat) "RequestGate$Conditions" "firsts" "[I" ∈ zz_ws := zz_in (List.mem_of_getElem? (i := 108) (by decide +kernel)) rfl
theorem zw_109 : Cond.fieldLink "RequestGate$Conditions" (18 : Nat) "RequestGate$Conditions" "seconds" "[I" ∈ zz_ws := zz_in (List.mem_of_getElem? (i := 109) (by decide +kernel)) rfl
theorem zw_110 : Cond.fieldLink "RequestGate$Conditions" (21 : Nat) "RequestGate$Conditions" "values" "[I" ∈ zz_ws := zz_in (List.mem_of_getElem? (i := 110) (by decide +kernel)) rfl
theorem zw_111 : Cond.fieldLink "RequestGate$Conditions" (24 : Nat) "RequestGate$Conditions" "size" "I" ∈ zz_ws := zz_in (List.mem_of_getElem? (i := 111) (by decide +kernel)) rfl
theorem zw_112 : Cond.laysFinal "RequestGate$Conditions" "RequestGate$Conditions" "ops" "[I" ∈ zz_ws := zz_in (List.mem_of_getElem? (i := 112) (by decide +kernel)) rfl
theorem zw_114 : Cond.laysFinal "RequestGate$Conditions" "RequestGate$Conditions" "firsts" "[I" ∈ zz_ws := zz_in (List.mem_of_getElem? (i := 114) (by decide +kernel)) rfl
theorem zw_116 : Cond.laysFinal "RequestGate$Conditions" "RequestGate$Conditions" "seconds" "[I" ∈ zz_ws := zz_in (List.mem_of_getElem? (i := 116) (by decide +kernel)) rfl
theorem zw_118 : Cond.laysFinal "RequestGate$Conditions" "RequestGate$Conditions" "values" "[I" ∈ zz_ws := zz_in (List.mem_of_getElem? (i := 118) (by decide +kernel)) rfl
theorem zw_120 : Cond.lays "RequestGate$Conditions" "RequestGate$Conditions" "size" "I" ∈ zz_ws := zz_in (List.mem_of_getElem? (i := 120) (by decide +kernel)) rfl
theorem zw_123 : Cond.classLink "RequestGate" (37 : Nat) "RequestGate$Roles" ∈ zz_ws := zz_in (List.mem_of_getElem? (i := 123) (by decide +kernel)) rfl
theorem zw_124 : Cond.instantiable "RequestGate$Roles" (1 : Nat) ∈ zz_ws := zz_in (List.mem_of_getElem? (i := 124) (by decide +kernel)) rfl
theorem zw_125 : Cond.methodLink "RequestGate" (39 : Nat) ({ cls := "RequestGate$Roles", name := "<init>", desc := "()V" } : MethodName) ∈ zz_ws := zz_in (List.mem_of_getElem? (i := 125) (by decide +kernel)) rfl
theorem zw_126 : Cond.instanceMethod ({ cls := "RequestGate$Roles", name := "<init>", desc := "()V" } : MethodName) ∈ zz_ws := zz_in (List.mem_of_getElem? (i := 126) (by decide +kernel)) rfl
theorem zw_127 : Cond.code ({ cls := "RequestGate$Roles", name := "<init>", desc := "()V" } : MethodName) prog_6_method_1_code (2 : Nat) (none : Option FieldType) ∈ zz_ws := zz_in (List.mem_of_getElem? (i := 127) (by decide +kernel)) rfl
theorem zw_128 : Cond.methodLink "RequestGate$Roles" (3 : Nat) ({ cls := "java/lang/Object", name := "<init>", desc := "()V" } : MethodName) ∈ zz_ws := zz_in (List.mem_of_getElem? (i := 128) (by decide +kernel)) rfl
theorem zw_129 : Cond.fieldLink "RequestGate$Roles" (9 : Nat) "RequestGate$Roles" "included" "[I" ∈ zz_ws := zz_in (List.mem_of_getElem? (i := 129) (by decide +kernel)) rfl
theorem zw_130 : Cond.laysFinal "RequestGate$Roles" "RequestGate$Roles" "included" "[I" ∈ zz_ws := zz_in (List.mem_of_getElem? (i := 130) (by decide +kernel)) rfl
theorem zw_133 : Cond.classLink "RequestGate" (44 : Nat) "java/util/ArrayList" ∈ zz_ws := zz_in (List.mem_of_getElem? (i := 133) (by decide +kernel)) rfl
theorem zw_134 : Cond.instantiable "java/util/ArrayList" (3 : Nat) ∈ zz_ws := zz_in (List.mem_of_getElem? (i := 134) (by decide +kernel)) rfl
theorem zw_135 : Cond.methodLink "RequestGate" (46 : Nat) ({ cls := "java/util/ArrayList", name := "<init>", desc := "()V" } : MethodName) ∈ zz_ws := zz_in (List.mem_of_getElem? (i := 135) (by decide +kernel)) rfl
theorem zw_136 : Cond.instanceMethod ({ cls := "java/util/ArrayList", name := "<init>", desc := "()V" } : MethodName) ∈ zz_ws := zz_in (List.mem_of_getElem? (i := 136) (by decide +kernel)) rfl
theorem zw_137 : Cond.code ({ cls := "java/util/ArrayList", name := "<init>", desc := "()V" } : MethodName) prog_22_method_2_code (1 : Nat) (none : Option FieldType) ∈ zz_ws := zz_in (List.mem_of_getElem? (i := 137) (by decide +kernel)) rfl
theorem zw_138 : Cond.methodLink "java/util/ArrayList" (1 : Nat) ({ cls := "java/util/AbstractList", name := "<init>", desc := "()V" } : MethodName) ∈ zz_ws := zz_in (List.mem_of_getElem? (i := 138) (by decide +kernel)) rfl
theorem zw_139 : Cond.instanceMethod ({ cls := "java/util/AbstractList", name := "<init>", desc := "()V" } : MethodName) ∈ zz_ws := zz_in (List.mem_of_getElem? (i := 139) (by decide +kernel)) rfl
theorem zw_140 : Cond.code ({ cls := "java/util/AbstractList", name := "<init>", desc := "()V" } : MethodName) prog_21_method_1_code (1 : Nat) (none : Option FieldType) ∈ zz_ws := zz_in (List.mem_of_getElem? (i := 140) (by decide +kernel)) rfl
theorem zw_141 : Cond.methodLink "java/util/AbstractList" (1 : Nat) ({ cls := "java/util/AbstractCollection", name := "<init>", desc := "()V" } : MethodName) ∈ zz_ws := zz_in (List.mem_of_getElem? (i := 141) (by decide +kernel)) rfl
theorem zw_142 : Cond.instanceMethod ({ cls := "java/util/AbstractCollection", name := "<init>", desc := "()V" } : MethodName) ∈ zz_ws := zz_in (List.mem_of_getElem? (i := 142) (by decide +kernel)) rfl
theorem zw_143 : Cond.code ({ cls := "java/util/AbstractCollection", name := "<init>", desc := "()V" } : MethodName) prog_20_method_1_code (1 : Nat) (none : Option FieldType) ∈ zz_ws := zz_in (List.mem_of_getElem? (i := 143) (by decide +kernel)) rfl
theorem zw_144 : Cond.methodLink "java/util/AbstractCollection" (1 : Nat) ({ cls := "java/lang/Object", name := "<init>", desc := "()V" } : MethodName) ∈ zz_ws := zz_in (List.mem_of_getElem? (i := 144) (by decide +kernel)) rfl
theorem zw_145 : Cond.fieldLink "java/util/ArrayList" (39 : Nat) "java/util/ArrayList" "DEFAULTCAPACITY_EMPTY_ELEMENTDATA" "[Ljava/lang/Object;" ∈ zz_ws := zz_in (List.mem_of_getElem? (i := 145) (by decide +kernel)) rfl
theorem zw_147 : Cond.fieldLink "java/util/ArrayList" (9 : Nat) "java/util/ArrayList" "elementData" "[Ljava/lang/Object;" ∈ zz_ws := zz_in (List.mem_of_getElem? (i := 147) (by decide +kernel)) rfl
theorem zw_148 : Cond.fieldLink "java/util/ArrayList" (48 : Nat) "java/util/ArrayList" "size" "I" ∈ zz_ws := zz_in (List.mem_of_getElem? (i := 148) (by decide +kernel)) rfl
theorem zw_149 : Cond.fieldLink "java/util/AbstractList" (7 : Nat) "java/util/AbstractList" "modCount" "I" ∈ zz_ws := zz_in (List.mem_of_getElem? (i := 149) (by decide +kernel)) rfl
theorem zw_150 : Cond.fieldLink "java/util/ArrayList" (63 : Nat) "java/util/ArrayList" "modCount" "I" ∈ zz_ws := zz_in (List.mem_of_getElem? (i := 150) (by decide +kernel)) rfl
theorem zw_151 : Cond.sameField "java/util/ArrayList" "java/util/AbstractList" "modCount" "I" ∈ zz_ws := zz_in (List.mem_of_getElem? (i := 151) (by decide +kernel)) rfl
theorem zw_152 : Cond.lays "java/util/ArrayList" "java/util/ArrayList" "elementData" "[Ljava/lang/Object;" ∈ zz_ws := zz_in (List.mem_of_getElem? (i := 152) (by decide +kernel)) rfl
theorem zw_154 : Cond.lays "java/util/ArrayList" "java/util/ArrayList" "size" "I" ∈ zz_ws := zz_in (List.mem_of_getElem? (i := 154) (by decide +kernel)) rfl
theorem zw_156 : Cond.lays "java/util/ArrayList" "java/util/AbstractList" "modCount" "I" ∈ zz_ws := zz_in (List.mem_of_getElem? (i := 156) (by decide +kernel)) rfl
theorem zw_159 : Cond.classLink "RequestGate" (57 : Nat) "RequestGate$Tickets" ∈ zz_ws := zz_in (List.mem_of_getElem? (i := 159) (by decide +kernel)) rfl
theorem zw_160 : Cond.instantiable "RequestGate$Tickets" (1 : Nat) ∈ zz_ws := zz_in (List.mem_of_getElem? (i := 160) (by decide +kernel)) rfl
theorem zw_162 : Cond.instanceMethod ({ cls := "RequestGate$Tickets", name := "<init>", desc := "()V" } : MethodName) ∈ zz_ws := zz_in (List.mem_of_getElem? (i := 162) (by decide +kernel)) rfl
theorem zw_163 : Cond.code ({ cls := "RequestGate$Tickets", name := "<init>", desc := "()V" } : MethodName) prog_11_method_1_code (1 : Nat) (none : Option FieldType) ∈ zz_ws := zz_in (List.mem_of_getElem? (i := 163) (by decide +kernel)) rfl
theorem zw_164 : Cond.methodLink "RequestGate$Tickets" (1 : Nat) ({ cls := "java/lang/Object", name := "<init>", desc := "()V" } : MethodName) ∈ zz_ws := zz_in (List.mem_of_getElem? (i := 164) (by decide +kernel)) rfl
theorem zw_165 : Cond.classLink "RequestGate$Tickets" (7 : Nat) "java/util/ArrayList" ∈ zz_ws := zz_in (List.mem_of_getElem? (i := 165) (by decide +kernel)) rfl
theorem zw_166 : Cond.methodLink "RequestGate$Tickets" (9 : Nat) ({ cls := "java/util/ArrayList", name := "<init>", desc := "()V" } : MethodName) ∈ zz_ws := zz_in (List.mem_of_getElem? (i := 166) (by decide +kernel)) rfl
theorem zw_167 : Cond.fieldLink "RequestGate$Tickets" (10 : Nat) "RequestGate$Tickets" "all" "Ljava/util/ArrayList;" ∈ zz_ws := zz_in (List.mem_of_getElem? (i := 167) (by decide +kernel)) rfl
theorem zw_168 : Cond.laysFinal "RequestGate$Tickets" "RequestGate$Tickets" "all" "Ljava/util/ArrayList;" ∈ zz_ws := zz_in (List.mem_of_getElem? (i := 168) (by decide +kernel)) rfl
theorem zw_171 : Cond.fieldLink "RequestGate" (12 : Nat) "RequestGate" "buffer" "LRequestGate$Text;" ∈ zz_ws := zz_in (List.mem_of_getElem? (i := 171) (by decide +kernel)) rfl
theorem zw_172 : Cond.fieldLink "RequestGate" (19 : Nat) "RequestGate" "path" "LRequestGate$PlainPath;" ∈ zz_ws := zz_in (List.mem_of_getElem? (i := 172) (by decide +kernel)) rfl
theorem zw_173 : Cond.fieldLink "RequestGate" (26 : Nat) "RequestGate" "layer" "LRequestGate$Layer;" ∈ zz_ws := zz_in (List.mem_of_getElem? (i := 173) (by decide +kernel)) rfl
theorem zw_174 : Cond.fieldLink "RequestGate" (33 : Nat) "RequestGate" "conditions" "LRequestGate$Conditions;" ∈ zz_ws := zz_in (List.mem_of_getElem? (i := 174) (by decide +kernel)) rfl
theorem zw_175 : Cond.fieldLink "RequestGate" (40 : Nat) "RequestGate" "inclusions" "LRequestGate$Roles;" ∈ zz_ws := zz_in (List.mem_of_getElem? (i := 175) (by decide +kernel)) rfl
theorem zw_176 : Cond.fieldLink "RequestGate" (47 : Nat) "RequestGate" "rules" "Ljava/util/ArrayList;" ∈ zz_ws := zz_in (List.mem_of_getElem? (i := 176) (by decide +kernel)) rfl
theorem zw_177 : Cond.fieldLink "RequestGate" (51 : Nat) "RequestGate" "users" "Ljava/util/ArrayList;" ∈ zz_ws := zz_in (List.mem_of_getElem? (i := 177) (by decide +kernel)) rfl
theorem zw_178 : Cond.fieldLink "RequestGate" (54 : Nat) "RequestGate" "services" "Ljava/util/ArrayList;" ∈ zz_ws := zz_in (List.mem_of_getElem? (i := 178) (by decide +kernel)) rfl
theorem zw_179 : Cond.fieldLink "RequestGate" (60 : Nat) "RequestGate" "sessions" "LRequestGate$Tickets;" ∈ zz_ws := zz_in (List.mem_of_getElem? (i := 179) (by decide +kernel)) rfl
theorem zw_180 : Cond.fieldLink "RequestGate" (64 : Nat) "RequestGate" "memory" "LRequestGate$Tickets;" ∈ zz_ws := zz_in (List.mem_of_getElem? (i := 180) (by decide +kernel)) rfl
theorem zw_181 : Cond.fieldLink "RequestGate" (67 : Nat) "RequestGate" "subject" "I" ∈ zz_ws := zz_in (List.mem_of_getElem? (i := 181) (by decide +kernel)) rfl
theorem zw_182 : Cond.fieldLink "RequestGate" (186 : Nat) "RequestGate" "requestIsOpen" "Z" ∈ zz_ws := zz_in (List.mem_of_getElem? (i := 182) (by decide +kernel)) rfl
theorem zw_183 : Cond.fieldLink "RequestGate" (134 : Nat) "RequestGate" "time" "I" ∈ zz_ws := zz_in (List.mem_of_getElem? (i := 183) (by decide +kernel)) rfl
theorem zw_184 : Cond.fieldLink "RequestGate" (256 : Nat) "RequestGate" "drawn" "I" ∈ zz_ws := zz_in (List.mem_of_getElem? (i := 184) (by decide +kernel)) rfl
theorem zw_185 : Cond.fieldLink "RequestGate" (250 : Nat) "RequestGate" "opened" "I" ∈ zz_ws := zz_in (List.mem_of_getElem? (i := 185) (by decide +kernel)) rfl
theorem zw_186 : Cond.fieldLink "RequestGate" (220 : Nat) "RequestGate" "bodiesRun" "I" ∈ zz_ws := zz_in (List.mem_of_getElem? (i := 186) (by decide +kernel)) rfl
theorem zw_187 : Cond.fieldLink "RequestGate" (223 : Nat) "RequestGate" "bodiesBarred" "I" ∈ zz_ws := zz_in (List.mem_of_getElem? (i := 187) (by decide +kernel)) rfl
theorem zw_188 : Cond.fieldLink "RequestGate" (253 : Nat) "RequestGate" "thefts" "I" ∈ zz_ws := zz_in (List.mem_of_getElem? (i := 188) (by decide +kernel)) rfl
theorem zw_189 : Cond.fieldLink "RequestGate" (153 : Nat) "RequestGate" "lockings" "I" ∈ zz_ws := zz_in (List.mem_of_getElem? (i := 189) (by decide +kernel)) rfl
theorem zw_190 : Cond.laysFinal "RequestGate" "RequestGate" "buffer" "LRequestGate$Text;" ∈ zz_ws := zz_in (List.mem_of_getElem? (i := 190) (by decide +kernel)) rfl
theorem zw_192 : Cond.laysFinal "RequestGate" "RequestGate" "path" "LRequestGate$PlainPath;" ∈ zz_ws := zz_in (List.mem_of_getElem? (i := 192) (by decide +kernel)) rfl
theorem zw_194 : Cond.laysFinal "RequestGate" "RequestGate" "layer" "LRequestGate$Layer;" ∈ zz_ws := zz_in (List.mem_of_getElem? (i := 194) (by decide +kernel)) rfl
theorem zw_196 : Cond.laysFinal "RequestGate" "RequestGate" "conditions" "LRequestGate$Conditions;" ∈ zz_ws := zz_in (List.mem_of_getElem? (i := 196) (by decide +kernel)) rfl
theorem zw_198 : Cond.laysFinal "RequestGate" "RequestGate" "inclusions" "LRequestGate$Roles;" ∈ zz_ws := zz_in (List.mem_of_getElem? (i := 198) (by decide +kernel)) rfl
theorem zw_200 : Cond.laysFinal "RequestGate" "RequestGate" "rules" "Ljava/util/ArrayList;" ∈ zz_ws := zz_in (List.mem_of_getElem? (i := 200) (by decide +kernel)) rfl
theorem zw_202 : Cond.laysFinal "RequestGate" "RequestGate" "users" "Ljava/util/ArrayList;" ∈ zz_ws := zz_in (List.mem_of_getElem? (i := 202) (by decide +kernel)) rfl
theorem zw_204 : Cond.laysFinal "RequestGate" "RequestGate" "services" "Ljava/util/ArrayList;" ∈ zz_ws := zz_in (List.mem_of_getElem? (i := 204) (by decide +kernel)) rfl
theorem zw_206 : Cond.laysFinal "RequestGate" "RequestGate" "sessions" "LRequestGate$Tickets;" ∈ zz_ws := zz_in (List.mem_of_getElem? (i := 206) (by decide +kernel)) rfl
theorem zw_208 : Cond.laysFinal "RequestGate" "RequestGate" "memory" "LRequestGate$Tickets;" ∈ zz_ws := zz_in (List.mem_of_getElem? (i := 208) (by decide +kernel)) rfl
theorem zw_210 : Cond.lays "RequestGate" "RequestGate" "subject" "I" ∈ zz_ws := zz_in (List.mem_of_getElem? (i := 210) (by decide +kernel)) rfl
theorem zw_212 : Cond.lays "RequestGate" "RequestGate" "requestIsOpen" "Z" ∈ zz_ws := zz_in (List.mem_of_getElem? (i := 212) (by decide +kernel)) rfl
theorem zw_214 : Cond.lays "RequestGate" "RequestGate" "time" "I" ∈ zz_ws := zz_in (List.mem_of_getElem? (i := 214) (by decide +kernel)) rfl
theorem zw_216 : Cond.lays "RequestGate" "RequestGate" "drawn" "I" ∈ zz_ws := zz_in (List.mem_of_getElem? (i := 216) (by decide +kernel)) rfl
theorem zw_218 : Cond.lays "RequestGate" "RequestGate" "opened" "I" ∈ zz_ws := zz_in (List.mem_of_getElem? (i := 218) (by decide +kernel)) rfl
theorem zw_220 : Cond.lays "RequestGate" "RequestGate" "bodiesRun" "I" ∈ zz_ws := zz_in (List.mem_of_getElem? (i := 220) (by decide +kernel)) rfl
theorem zw_222 : Cond.lays "RequestGate" "RequestGate" "bodiesBarred" "I" ∈ zz_ws := zz_in (List.mem_of_getElem? (i := 222) (by decide +kernel)) rfl
theorem zw_224 : Cond.lays "RequestGate" "RequestGate" "thefts" "I" ∈ zz_ws := zz_in (List.mem_of_getElem? (i := 224) (by decide +kernel)) rfl
theorem zw_226 : Cond.lays "RequestGate" "RequestGate" "lockings" "I" ∈ zz_ws := zz_in (List.mem_of_getElem? (i := 226) (by decide +kernel)) rfl
theorem zw_229 : Cond.methodLink "RequestGateLaw" (13 : Nat) ({ cls := "RequestGate", name := "type", desc := "(I)Z" } : MethodName) ∈ zz_ws := zz_in (List.mem_of_getElem? (i := 229) (by decide +kernel)) rfl
theorem zw_230 : Cond.instanceMethod ({ cls := "RequestGate", name := "type", desc := "(I)Z" } : MethodName) ∈ zz_ws := zz_in (List.mem_of_getElem? (i := 230) (by decide +kernel)) rfl
theorem zw_231 : Cond.selects "RequestGate" ({ cls := "RequestGate", name := "type", desc := "(I)Z" } : MethodName) ({ cls := "RequestGate", name := "type", desc := "(I)Z" } : MethodName) ∈ zz_ws := zz_in (List.mem_of_getElem? (i := 231) (by decide +kernel)) rfl
theorem zw_232 : Cond.code ({ cls := "RequestGate", name := "type", desc := "(I)Z" } : MethodName) prog_1_method_2_code (2 : Nat) (Option.some FieldType.boolean) ∈ zz_ws := zz_in (List.mem_of_getElem? (i := 232) (by decide +kernel)) rfl
theorem zw_233 : Cond.methodLink "RequestGate" (71 : Nat) ({ cls := "RequestGate$Text", name := "append", desc := "(I)Z" } : MethodName) ∈ zz_ws := zz_in (List.mem_of_getElem? (i := 233) (by decide +kernel)) rfl
theorem zw_234 : Cond.instanceMethod ({ cls := "RequestGate$Text", name := "append", desc := "(I)Z" } : MethodName) ∈ zz_ws := zz_in (List.mem_of_getElem? (i := 234) (by decide +kernel)) rfl
theorem zw_235 : Cond.selects "RequestGate$Text" ({ cls := "RequestGate$Text", name := "append", desc := "(I)Z" } : MethodName) ({ cls := "RequestGate$Text", name := "append", desc := "(I)Z" } : MethodName) ∈ zz_ws := zz_in (List.mem_of_getElem? (i := 235) (by decide +kernel)) rfl
theorem zw_236 : Cond.code ({ cls := "RequestGate$Text", name := "append", desc := "(I)Z" } : MethodName) prog_9_method_3_code (2 : Nat) (Option.some FieldType.boolean) ∈ zz_ws := zz_in (List.mem_of_getElem? (i := 236) (by decide +kernel)) rfl
theorem zw_237 : Cond.methodLink "RequestGate$Text" (15 : Nat) ({ cls := "RequestGate$Text", name := "isCode", desc := "(I)Z" } : MethodName) ∈ zz_ws := zz_in (List.mem_of_getElem? (i := 237) (by decide +kernel)) rfl
theorem zw_238 : Cond.static ({ cls := "RequestGate$Text", name := "isCode", desc := "(I)Z" } : MethodName) ∈ zz_ws := zz_in (List.mem_of_getElem? (i := 238) (by decide +kernel)) rfl
theorem zw_239 : Cond.code ({ cls := "RequestGate$Text", name := "isCode", desc := "(I)Z" } : MethodName) prog_9_method_2_code (1 : Nat) (Option.some FieldType.boolean) ∈ zz_ws := zz_in (List.mem_of_getElem? (i := 239) (by decide +kernel)) rfl
theorem zw_240 : Cond.methodLink "RequestGateLaw" (18 : Nat) ({ cls := "RequestGate", name := "clear", desc := "()V" } : MethodName) ∈ zz_ws := zz_in (List.mem_of_getElem? (i := 240) (by decide +kernel)) rfl
theorem zw_241 : Cond.instanceMethod ({ cls := "RequestGate", name := "clear", desc := "()V" } : MethodName) ∈ zz_ws := zz_in (List.mem_of_getElem? (i := 241) (by decide +kernel)) rfl
theorem zw_242 : Cond.selects "RequestGate" ({ cls := "RequestGate", name := "clear", desc := "()V" } : MethodName) ({ cls := "RequestGate", name := "clear", desc := "()V" } : MethodName) ∈ zz_ws := zz_in (List.mem_of_getElem? (i := 242) (by decide +kernel)) rfl
theorem zw_243 : Cond.code ({ cls := "RequestGate", name := "clear", desc := "()V" } : MethodName) prog_1_method_3_code (1 : Nat) (none : Option FieldType) ∈ zz_ws := zz_in (List.mem_of_getElem? (i := 243) (by decide +kernel)) rfl
theorem zw_244 : Cond.methodLink "RequestGate" (75 : Nat) ({ cls := "RequestGate$Text", name := "empty", desc := "()V" } : MethodName) ∈ zz_ws := zz_in (List.mem_of_getElem? (i := 244) (by decide +kernel)) rfl
theorem zw_245 : Cond.instanceMethod ({ cls := "RequestGate$Text", name := "empty", desc := "()V" } : MethodName) ∈ zz_ws := zz_in (List.mem_of_getElem? (i := 245) (by decide +kernel)) rfl
theorem zw_246 : Cond.selects "RequestGate$Text" ({ cls := "RequestGate$Text", name := "empty", desc := "()V" } : MethodName) ({ cls := "RequestGate$Text", name := "empty", desc := "()V" } : MethodName) ∈ zz_ws := zz_in (List.mem_of_getElem? (i := 246) (by decide +kernel)) rfl
theorem zw_247 : Cond.code ({ cls := "RequestGate$Text", name := "empty", desc := "()V" } : MethodName) prog_9_method_4_code (1 : Nat) (none : Option FieldType) ∈ zz_ws := zz_in (List.mem_of_getElem? (i := 247) (by decide +kernel)) rfl
theorem zw_248 : Cond.methodLink "RequestGateLaw" (22 : Nat) ({ cls := "RequestGate", name := "expression", desc := "(III)I" } : MethodName) ∈ zz_ws := zz_in (List.mem_of_getElem? (i := 248) (by decide +kernel)) rfl
theorem zw_249 : Cond.instanceMethod ({ cls := "RequestGate", name := "expression", desc := "(III)I" } : MethodName) ∈ zz_ws := zz_in (List.mem_of_getElem? (i := 249) (by decide +kernel)) rfl
theorem zw_250 : Cond.selects "RequestGate" ({ cls := "RequestGate", name := "expression", desc := "(III)I" } : MethodName) ({ cls := "RequestGate", name := "expression", desc := "(III)I" } : MethodName) ∈ zz_ws := zz_in (List.mem_of_getElem? (i := 250) (by decide +kernel)) rfl
theorem zw_251 : Cond.code ({ cls := "RequestGate", name := "expression", desc := "(III)I" } : MethodName) prog_1_method_4_code (4 : Nat) (Option.some FieldType.int) ∈ zz_ws := zz_in (List.mem_of_getElem? (i := 251) (by decide +kernel)) rfl
theorem zw_252 : Cond.methodLink "RequestGate" (78 : Nat) ({ cls := "RequestGate$Conditions", name := "add", desc := "(III)I" } : MethodName) ∈ zz_ws := zz_in (List.mem_of_getElem? (i := 252) (by decide +kernel)) rfl
theorem zw_253 : Cond.instanceMethod ({ cls := "RequestGate$Conditions", name := "add", desc := "(III)I" } : MethodName) ∈ zz_ws := zz_in (List.mem_of_getElem? (i := 253) (by decide +kernel)) rfl
theorem zw_254 : Cond.selects "RequestGate$Conditions" ({ cls := "RequestGate$Conditions", name := "add", desc := "(III)I" } : MethodName) ({ cls := "RequestGate$Conditions", name := "add", desc := "(III)I" } : MethodName) ∈ zz_ws := zz_in (List.mem_of_getElem? (i := 254) (by decide +kernel)) rfl
theorem zw_255 : Cond.code ({ cls := "RequestGate$Conditions", name := "add", desc := "(III)I" } : MethodName) prog_2_method_3_code (4 : Nat) (Option.some FieldType.int) ∈ zz_ws := zz_in (List.mem_of_getElem? (i := 255) (by decide +kernel)) rfl
theorem zw_256 : Cond.methodLink "RequestGate$Conditions" (28 : Nat) ({ cls := "RequestGate$Conditions", name := "canTake", desc := "(III)Z" } : MethodName) ∈ zz_ws := zz_in (List.mem_of_getElem? (i := 256) (by decide +kernel)) rfl
theorem zw_258 : Cond.instanceMethod ({ cls := "RequestGate$Conditions", name := "canTake", desc := "(III)Z" } : MethodName) ∈ zz_ws := zz_in (List.mem_of_getElem? (i := 258) (by decide +kernel)) rfl
theorem zw_259 : Cond.code ({ cls := "RequestGate$Conditions", name := "canTake", desc := "(III)Z" } : MethodName) prog_2_method_4_code (4 : Nat) (Option.some FieldType.boolean) ∈ zz_ws := zz_in (List.mem_of_getElem? (i := 259) (by decide +kernel)) rfl
theorem zw_260 : Cond.methodLink "RequestGate$Conditions" (32 : Nat) ({ cls := "RequestGate$Roles", name := "isRole", desc := "(I)Z" } : MethodName) ∈ zz_ws := zz_in (List.mem_of_getElem? (i := 260) (by decide +kernel)) rfl
theorem zw_261 : Cond.static ({ cls := "RequestGate$Roles", name := "isRole", desc := "(I)Z" } : MethodName) ∈ zz_ws := zz_in (List.mem_of_getElem? (i := 261) (by decide +kernel)) rfl
theorem zw_262 : Cond.code ({ cls := "RequestGate$Roles", name := "isRole", desc := "(I)Z" } : MethodName) prog_6_method_2_code (1 : Nat) (Option.some FieldType.boolean) ∈ zz_ws := zz_in (List.mem_of_getElem? (i := 262) (by decide +kernel)) rfl
theorem zw_263 : Cond.methodLink "RequestGate$Conditions" (38 : Nat) ({ cls := "RequestGate$Conditions", name := "has", desc := "(I)Z" } : MethodName) ∈ zz_ws := zz_in (List.mem_of_getElem? (i := 263) (by decide +kernel)) rfl
theorem zw_264 : Cond.instanceMethod ({ cls := "RequestGate$Conditions", name := "has", desc := "(I)Z" } : MethodName) ∈ zz_ws := zz_in (List.mem_of_getElem? (i := 264) (by decide +kernel)) rfl
theorem zw_265 : Cond.selects "RequestGate$Conditions" ({ cls := "RequestGate$Conditions", name := "has", desc := "(I)Z" } : MethodName) ({ cls := "RequestGate$Conditions", name := "has", desc := "(I)Z" } : MethodName) ∈ zz_ws := zz_in (List.mem_of_getElem? (i := 265) (by decide +kernel)) rfl
theorem zw_266 : Cond.code ({ cls := "RequestGate$Conditions", name := "has", desc := "(I)Z" } : MethodName) prog_2_method_2_code (2 : Nat) (Option.some FieldType.boolean) ∈ zz_ws := zz_in (List.mem_of_getElem? (i := 266) (by decide +kernel)) rfl
theorem zw_267 : Cond.methodLink "RequestGateLaw" (27 : Nat) ({ cls := "RequestGate", name := "rule", desc := "(II)I" } : MethodName) ∈ zz_ws := zz_in (List.mem_of_getElem? (i := 267) (by decide +kernel)) rfl
theorem zw_268 : Cond.instanceMethod ({ cls := "RequestGate", name := "rule", desc := "(II)I" } : MethodName) ∈ zz_ws := zz_in (List.mem_of_getElem? (i := 268) (by decide +kernel)) rfl
theorem zw_269 : Cond.selects "RequestGate" ({ cls := "RequestGate", name := "rule", desc := "(II)I" } : MethodName) ({ cls := "RequestGate", name := "rule", desc := "(II)I" } : MethodName) ∈ zz_ws := zz_in (List.mem_of_getElem? (i := 269) (by decide +kernel)) rfl
theorem zw_270 : Cond.code ({ cls := "RequestGate", name := "rule", desc := "(II)I" } : MethodName) prog_1_method_5_code (3 : Nat) (Option.some FieldType.int) ∈ zz_ws := zz_in (List.mem_of_getElem? (i := 270) (by decide +kernel)) rfl
theorem zw_271 : Cond.methodLink "RequestGate" (82 : Nat) ({ cls := "java/util/ArrayList", name := "size", desc := "()I" } : MethodName) ∈ zz_ws := zz_in (List.mem_of_getElem? (i := 271) (by decide +kernel)) rfl
theorem zw_272 : Cond.instanceMethod ({ cls := "java/util/ArrayList", name := "size", desc := "()I" } : MethodName) ∈ zz_ws := zz_in (List.mem_of_getElem? (i := 272) (by decide +kernel)) rfl
theorem zw_273 : Cond.selects "java/util/ArrayList" ({ cls := "java/util/ArrayList", name := "size", desc := "()I" } : MethodName) ({ cls := "java/util/ArrayList", name := "size", desc := "()I" } : MethodName) ∈ zz_ws := zz_in (List.mem_of_getElem? (i := 273) (by decide +kernel)) rfl
theorem zw_274 : Cond.code ({ cls := "java/util/ArrayList", name := "size", desc := "()I" } : MethodName) prog_22_method_8_code (1 : Nat) (Option.some FieldType.int) ∈ zz_ws := zz_in (List.mem_of_getElem? (i := 274) (by decide +kernel)) rfl
theorem zw_275 : Cond.methodLink "RequestGate" (86 : Nat) ({ cls := "RequestGate$Conditions", name := "has", desc := "(I)Z" } : MethodName) ∈ zz_ws := zz_in (List.mem_of_getElem? (i := 275) (by decide +kernel)) rfl
theorem zw_276 : Cond.methodLink "RequestGate" (89 : Nat) ({ cls := "RequestGate$Rule", name := "isPattern", desc := "(LRequestGate$Text;)Z" } : MethodName) ∈ zz_ws := zz_in (List.mem_of_getElem? (i := 276) (by decide +kernel)) rfl
theorem zw_277 : Cond.static ({ cls := "RequestGate$Rule", name := "isPattern", desc := "(LRequestGate$Text;)Z" } : MethodName) ∈ zz_ws := zz_in (List.mem_of_getElem? (i := 277) (by decide +kernel)) rfl
theorem zw_278 : Cond.code ({ cls := "RequestGate$Rule", name := "isPattern", desc := "(LRequestGate$Text;)Z" } : MethodName) prog_7_method_3_code (3 : Nat) (Option.some FieldType.boolean) ∈ zz_ws := zz_in (List.mem_of_getElem? (i := 278) (by decide +kernel)) rfl
theorem zw_279 : Cond.methodLink "RequestGate$Rule" (32 : Nat) ({ cls := "RequestGate$Text", name := "at", desc := "(I)C" } : MethodName) ∈ zz_ws := zz_in (List.mem_of_getElem? (i := 279) (by decide +kernel)) rfl
theorem zw_280 : Cond.instanceMethod ({ cls := "RequestGate$Text", name := "at", desc := "(I)C" } : MethodName) ∈ zz_ws := zz_in (List.mem_of_getElem? (i := 280) (by decide +kernel)) rfl
theorem zw_281 : Cond.selects "RequestGate$Text" ({ cls := "RequestGate$Text", name := "at", desc := "(I)C" } : MethodName) ({ cls := "RequestGate$Text", name := "at", desc := "(I)C" } : MethodName) ∈ zz_ws := zz_in (List.mem_of_getElem? (i := 281) (by decide +kernel)) rfl
theorem zw_282 : Cond.code ({ cls := "RequestGate$Text", name := "at", desc := "(I)C" } : MethodName) prog_9_method_5_code (2 : Nat) (Option.some FieldType.char) ∈ zz_ws := zz_in (List.mem_of_getElem? (i := 282) (by decide +kernel)) rfl
theorem zw_283 : Cond.methodLink "RequestGate$Rule" (43 : Nat) ({ cls := "RequestGate$Text", name := "holds", desc := "(C)Z" } : MethodName) ∈ zz_ws := zz_in (List.mem_of_getElem? (i := 283) (by decide +kernel)) rfl
theorem zw_284 : Cond.instanceMethod ({ cls := "RequestGate$Text", name := "holds", desc := "(C)Z" } : MethodName) ∈ zz_ws := zz_in (List.mem_of_getElem? (i := 284) (by decide +kernel)) rfl
theorem zw_285 : Cond.selects "RequestGate$Text" ({ cls := "RequestGate$Text", name := "holds", desc := "(C)Z" } : MethodName) ({ cls := "RequestGate$Text", name := "holds", desc := "(C)Z" } : MethodName) ∈ zz_ws := zz_in (List.mem_of_getElem? (i := 285) (by decide +kernel)) rfl
theorem zw_286 : Cond.code ({ cls := "RequestGate$Text", name := "holds", desc := "(C)Z" } : MethodName) prog_9_method_7_code (2 : Nat) (Option.some FieldType.boolean) ∈ zz_ws := zz_in (List.mem_of_getElem? (i := 286) (by decide +kernel)) rfl
theorem zw_287 : Cond.methodLink "RequestGate$Text" (27 : Nat) ({ cls := "RequestGate$Text", name := "find", desc := "(CII)I" } : MethodName) ∈ zz_ws := zz_in (List.mem_of_getElem? (i := 287) (by decide +kernel)) rfl
theorem zw_288 : Cond.instanceMethod ({ cls := "RequestGate$Text", name := "find", desc := "(CII)I" } : MethodName) ∈ zz_ws := zz_in (List.mem_of_getElem? (i := 288) (by decide +kernel)) rfl
theorem zw_289 : Cond.selects "RequestGate$Text" ({ cls := "RequestGate$Text", name := "find", desc := "(CII)I" } : MethodName) ({ cls := "RequestGate$Text", name := "find", desc := "(CII)I" } : MethodName) ∈ zz_ws := zz_in (List.mem_of_getElem? (i := 289) (by decide +kernel)) rfl
theorem zw_290 : Cond.code ({ cls := "RequestGate$Text", name := "find", desc := "(CII)I" } : MethodName) prog_9_method_6_code (5 : Nat) (Option.some FieldType.int) ∈ zz_ws := zz_in (List.mem_of_getElem? (i := 290) (by decide +kernel)) rfl
theorem zw_291 : Cond.methodLink "RequestGate$Text" (23 : Nat) ({ cls := "RequestGate$Text", name := "at", desc := "(I)C" } : MethodName) ∈ zz_ws := zz_in (List.mem_of_getElem? (i := 291) (by decide +kernel)) rfl
theorem zw_292 : Cond.methodLink "RequestGate$Rule" (28 : Nat) ({ cls := "RequestGate$Text", name := "endsPieceAt", desc := "(I)Z" } : MethodName) ∈ zz_ws := zz_in (List.mem_of_getElem? (i := 292) (by decide +kernel)) rfl
theorem zw_293 : Cond.instanceMethod ({ cls := "RequestGate$Text", name := "endsPieceAt", desc := "(I)Z" } : MethodName) ∈ zz_ws := zz_in (List.mem_of_getElem? (i := 293) (by decide +kernel)) rfl
theorem zw_294 : Cond.selects "RequestGate$Text" ({ cls := "RequestGate$Text", name := "endsPieceAt", desc := "(I)Z" } : MethodName) ({ cls := "RequestGate$Text", name := "endsPieceAt", desc := "(I)Z" } : MethodName) ∈ zz_ws := zz_in (List.mem_of_getElem? (i := 294) (by decide +kernel)) rfl
theorem zw_295 : Cond.code ({ cls := "RequestGate$Text", name := "endsPieceAt", desc := "(I)Z" } : MethodName) prog_9_method_8_code (2 : Nat) (Option.some FieldType.boolean) ∈ zz_ws := zz_in (List.mem_of_getElem? (i := 295) (by decide +kernel)) rfl
theorem zw_296 : Cond.methodLink "RequestGate$Rule" (47 : Nat) ({ cls := "RequestGate$Rule", name := "isPiece", desc := "(LRequestGate$Text;II)Z" } : MethodName) ∈ zz_ws := zz_in (List.mem_of_getElem? (i := 296) (by decide +kernel)) rfl
theorem zw_297 : Cond.static ({ cls := "RequestGate$Rule", name := "isPiece", desc := "(LRequestGate$Text;II)Z" } : MethodName) ∈ zz_ws := zz_in (List.mem_of_getElem? (i := 297) (by decide +kernel)) rfl
theorem zw_298 : Cond.code ({ cls := "RequestGate$Rule", name := "isPiece", desc := "(LRequestGate$Text;II)Z" } : MethodName) prog_7_method_4_code (4 : Nat) (Option.some FieldType.boolean) ∈ zz_ws := zz_in (List.mem_of_getElem? (i := 298) (by decide +kernel)) rfl
theorem zw_299 : Cond.classLink "RequestGate" (90 : Nat) "RequestGate$Rule" ∈ zz_ws := zz_in (List.mem_of_getElem? (i := 299) (by decide +kernel)) rfl
theorem zw_300 : Cond.instantiable "RequestGate$Rule" (3 : Nat) ∈ zz_ws := zz_in (List.mem_of_getElem? (i := 300) (by decide +kernel)) rfl
theorem zw_301 : Cond.methodLink "RequestGate" (95 : Nat) ({ cls := "RequestGate$Rule", name := "<init>", desc := "(LRequestGate$Text;II)V" } : MethodName) ∈ zz_ws := zz_in (List.mem_of_getElem? (i := 301) (by decide +kernel)) rfl
theorem zw_302 : Cond.instanceMethod ({ cls := "RequestGate$Rule", name := "<init>", desc := "(LRequestGate$Text;II)V" } : MethodName) ∈ zz_ws := zz_in (List.mem_of_getElem? (i := 302) (by decide +kernel)) rfl
theorem zw_303 : Cond.code ({ cls := "RequestGate$Rule", name := "<init>", desc := "(LRequestGate$Text;II)V" } : MethodName) prog_7_method_1_code (5 : Nat) (none : Option FieldType) ∈ zz_ws := zz_in (List.mem_of_getElem? (i := 303) (by decide +kernel)) rfl
theorem zw_304 : Cond.methodLink "RequestGate$Rule" (1 : Nat) ({ cls := "java/lang/Object", name := "<init>", desc := "()V" } : MethodName) ∈ zz_ws := zz_in (List.mem_of_getElem? (i := 304) (by decide +kernel)) rfl
theorem zw_305 : Cond.classLink "RequestGate$Rule" (7 : Nat) "RequestGate$Pieces" ∈ zz_ws := zz_in (List.mem_of_getElem? (i := 305) (by decide +kernel)) rfl
theorem zw_307 : Cond.methodLink "RequestGate$Rule" (36 : Nat) ({ cls := "RequestGate$Pieces", name := "write", desc := "(I)V" } : MethodName) ∈ zz_ws := zz_in (List.mem_of_getElem? (i := 307) (by decide +kernel)) rfl
theorem zw_308 : Cond.instanceMethod ({ cls := "RequestGate$Pieces", name := "write", desc := "(I)V" } : MethodName) ∈ zz_ws := zz_in (List.mem_of_getElem? (i := 308) (by decide +kernel)) rfl
theorem zw_309 : Cond.selects "RequestGate$Pieces" ({ cls := "RequestGate$Pieces", name := "write", desc := "(I)V" } : MethodName) ({ cls := "RequestGate$Pieces", name := "write", desc := "(I)V" } : MethodName) ∈ zz_ws := zz_in (List.mem_of_getElem? (i := 309) (by decide +kernel)) rfl
theorem zw_310 : Cond.code ({ cls := "RequestGate$Pieces", name := "write", desc := "(I)V" } : MethodName) prog_4_method_3_code (2 : Nat) (none : Option FieldType) ∈ zz_ws := zz_in (List.mem_of_getElem? (i := 310) (by decide +kernel)) rfl
theorem zw_311 : Cond.methodLink "RequestGate$Rule" (40 : Nat) ({ cls := "RequestGate$Pieces", name := "keepWritten", desc := "()V" } : MethodName) ∈ zz_ws := zz_in (List.mem_of_getElem? (i := 311) (by decide +kernel)) rfl
theorem zw_312 : Cond.instanceMethod ({ cls := "RequestGate$Pieces", name := "keepWritten", desc := "()V" } : MethodName) ∈ zz_ws := zz_in (List.mem_of_getElem? (i := 312) (by decide +kernel)) rfl
theorem zw_313 : Cond.selects "RequestGate$Pieces" ({ cls := "RequestGate$Pieces", name := "keepWritten", desc := "()V" } : MethodName) ({ cls := "RequestGate$Pieces", name := "keepWritten", desc := "()V" } : MethodName) ∈ zz_ws := zz_in (List.mem_of_getElem? (i := 313) (by decide +kernel)) rfl
theorem zw_314 : Cond.code ({ cls := "RequestGate$Pieces", name := "keepWritten", desc := "()V" } : MethodName) prog_4_method_6_code (1 : Nat) (none : Option FieldType) ∈ zz_ws := zz_in (List.mem_of_getElem? (i := 314) (by decide +kernel)) rfl
theorem zw_315 : Cond.fieldLink "RequestGate$Rule" (10 : Nat) "RequestGate$Rule" "pattern" "LRequestGate$Pieces;" ∈ zz_ws := zz_in (List.mem_of_getElem? (i := 315) (by decide +kernel)) rfl
theorem zw_316 : Cond.fieldLink "RequestGate" (226 : Nat) "RequestGate$Rule" "pattern" "LRequestGate$Pieces;" ∈ zz_ws := zz_in (List.mem_of_getElem? (i := 316) (by decide +kernel)) rfl
theorem zw_317 : Cond.fieldLink "RequestGate$Rule" (16 : Nat) "RequestGate$Rule" "expression" "I" ∈ zz_ws := zz_in (List.mem_of_getElem? (i := 317) (by decide +kernel)) rfl
theorem zw_318 : Cond.fieldLink "RequestGate" (272 : Nat) "RequestGate$Rule" "expression" "I" ∈ zz_ws := zz_in (List.mem_of_getElem? (i := 318) (by decide +kernel)) rfl
theorem zw_319 : Cond.fieldLink "RequestGate$Rule" (20 : Nat) "RequestGate$Rule" "methods" "I" ∈ zz_ws := zz_in (List.mem_of_getElem? (i := 319) (by decide +kernel)) rfl
theorem zw_320 : Cond.laysFinal "RequestGate$Rule" "RequestGate$Rule" "pattern" "LRequestGate$Pieces;" ∈ zz_ws := zz_in (List.mem_of_getElem? (i := 320) (by decide +kernel)) rfl
theorem zw_322 : Cond.laysFinal "RequestGate$Rule" "RequestGate$Rule" "expression" "I" ∈ zz_ws := zz_in (List.mem_of_getElem? (i := 322) (by decide +kernel)) rfl
theorem zw_324 : Cond.laysFinal "RequestGate$Rule" "RequestGate$Rule" "methods" "I" ∈ zz_ws := zz_in (List.mem_of_getElem? (i := 324) (by decide +kernel)) rfl
theorem zw_327 : Cond.methodLink "RequestGate" (98 : Nat) ({ cls := "java/util/ArrayList", name := "add", desc := "(Ljava/lang/Object;)Z" } : MethodName) ∈ zz_ws := zz_in (List.mem_of_getElem? (i := 327) (by decide +kernel)) rfl
theorem zw_328 : Cond.instanceMethod ({ cls := "java/util/ArrayList", name := "add", desc := "(Ljava/lang/Object;)Z" } : MethodName) ∈ zz_ws := zz_in (List.mem_of_getElem? (i := 328) (by decide +kernel)) rfl
theorem zw_329 : Cond.selects "java/util/ArrayList" ({ cls := "java/util/ArrayList", name := "add", desc := "(Ljava/lang/Object;)Z" } : MethodName) ({ cls := "java/util/ArrayList", name := "add", desc := "(Ljava/lang/Object;)Z" } : MethodName) ∈ zz_ws := zz_in (List.mem_of_getElem? (i := 329) (by decide +kernel)) rfl
theorem zw_330 : Cond.code ({ cls := "java/util/ArrayList", name := "add", desc := "(Ljava/lang/Object;)Z" } : MethodName) prog_22_method_25_code (2 : Nat) (Option.some FieldType.boolean) ∈ zz_ws := zz_in (List.mem_of_getElem? (i := 330) (by decide +kernel)) rfl
theorem zw_331 : Cond.methodLink "java/util/ArrayList" (131 : Nat) ({ cls := "java/util/ArrayList", name := "add", desc := "(Ljava/lang/Object;[Ljava/lang/Object;I)V" } : MethodName) ∈ zz_ws := zz_in (List.mem_of_getElem? (i := 331) (by decide +kernel)) rfl
theorem zw_333 : Cond.instanceMethod ({ cls := "java/util/ArrayList", name := "add", desc := "(Ljava/lang/Object;[Ljava/lang/Object;I)V" } : MethodName) ∈ zz_ws := zz_in (List.mem_of_getElem? (i := 333) (by decide +kernel)) rfl
theorem zw_334 : Cond.code ({ cls := "java/util/ArrayList", name := "add", desc := "(Ljava/lang/Object;[Ljava/lang/Object;I)V" } : MethodName) prog_22_method_24_code (4 : Nat) (none : Option FieldType) ∈ zz_ws := zz_in (List.mem_of_getElem? (i := 334) (by decide +kernel)) rfl
theorem zw_335 : Cond.methodLink "java/util/ArrayList" (129 : Nat) ({ cls := "java/util/ArrayList", name := "grow", desc := "()[Ljava/lang/Object;" } : MethodName) ∈ zz_ws := zz_in (List.mem_of_getElem? (i := 335) (by decide +kernel)) rfl
theorem zw_337 : Cond.instanceMethod ({ cls := "java/util/ArrayList", name := "grow", desc := "()[Ljava/lang/Object;" } : MethodName) ∈ zz_ws := zz_in (List.mem_of_getElem? (i := 337) (by decide +kernel)) rfl
theorem zw_338 : Cond.code ({ cls := "java/util/ArrayList", name := "grow", desc := "()[Ljava/lang/Object;" } : MethodName) prog_22_method_7_code (1 : Nat) (Option.some (FieldType.array (FieldType.object "java/lang/Object"))) ∈ zz_ws := zz_in (List.mem_of_getElem? (i := 338) (by decide +kernel)) rfl
theorem zw_339 : Cond.methodLink "java/util/ArrayList" (69 : Nat) ({ cls := "java/util/ArrayList", name := "grow", desc := "(I)[Ljava/lang/Object;" } : MethodName) ∈ zz_ws := zz_in (List.mem_of_getElem? (i := 339) (by decide +kernel)) rfl
theorem zw_341 : Cond.instanceMethod ({ cls := "java/util/ArrayList", name := "grow", desc := "(I)[Ljava/lang/Object;" } : MethodName) ∈ zz_ws := zz_in (List.mem_of_getElem? (i := 341) (by decide +kernel)) rfl
theorem zw_342 : Cond.code ({ cls := "java/util/ArrayList", name := "grow", desc := "(I)[Ljava/lang/Object;" } : MethodName) prog_22_method_6_code (4 : Nat) (Option.some (FieldType.array (FieldType.object "java/lang/Object"))) ∈ zz_ws := zz_in (List.mem_of_getElem? (i := 342) (by decide +kernel)) rfl
theorem zw_343 : Cond.methodLink "java/util/ArrayList" (73 : Nat) ({ cls := "jdk/internal/util/ArraysSupport", name := "newLength", desc := "(III)I" } : MethodName) ∈ zz_ws := zz_in (List.mem_of_getElem? (i := 343) (by decide +kernel)) rfl
theorem zw_344 : Cond.static ({ cls := "jdk/internal/util/ArraysSupport", name := "newLength", desc := "(III)I" } : MethodName) ∈ zz_ws := zz_in (List.mem_of_getElem? (i := 344) (by decide +kernel)) rfl
theorem zw_345 : Cond.code ({ cls := "jdk/internal/util/ArraysSupport", name := "newLength", desc := "(III)I" } : MethodName) prog_29_method_27_code (4 : Nat) (Option.some FieldType.int) ∈ zz_ws := zz_in (List.mem_of_getElem? (i := 345) (by decide +kernel)) rfl
theorem zw_346 : Cond.methodLink "jdk/internal/util/ArraysSupport" (194 : Nat) ({ cls := "java/lang/Math", name := "max", desc := "(II)I" } : MethodName) ∈ zz_ws := zz_in (List.mem_of_getElem? (i := 346) (by decide +kernel)) rfl
theorem zw_347 : Cond.static ({ cls := "java/lang/Math", name := "max", desc := "(II)I" } : MethodName) ∈ zz_ws := zz_in (List.mem_of_getElem? (i := 347) (by decide +kernel)) rfl
theorem zw_348 : Cond.code ({ cls := "java/lang/Math", name := "max", desc := "(II)I" } : MethodName) prog_18_method_65_code (2 : Nat) (Option.some FieldType.int) ∈ zz_ws := zz_in (List.mem_of_getElem? (i := 348) (by decide +kernel)) rfl
theorem zw_349 : Cond.constant "jdk/internal/util/ArraysSupport" (200 : Nat) (2147483639 : Int32) ∈ zz_ws := zz_in (List.mem_of_getElem? (i := 349) (by decide +kernel)) rfl
theorem zw_350 : Cond.methodLink "jdk/internal/util/ArraysSupport" (201 : Nat) ({ cls := "jdk/internal/util/ArraysSupport", name := "hugeLength", desc := "(II)I" } : MethodName) ∈ zz_ws := zz_in (List.mem_of_getElem? (i := 350) (by decide +kernel)) rfl
theorem zw_351 : Cond.static ({ cls := "jdk/internal/util/ArraysSupport", name := "hugeLength", desc := "(II)I" } : MethodName) ∈ zz_ws := zz_in (List.mem_of_getElem? (i := 351) (by decide +kernel)) rfl
theorem zw_352 : Cond.code ({ cls := "jdk/internal/util/ArraysSupport", name := "hugeLength", desc := "(II)I" } : MethodName) prog_29_method_28_code (3 : Nat) (Option.some FieldType.int) ∈ zz_ws := zz_in (List.mem_of_getElem? (i := 352) (by decide +kernel)) rfl
theorem zw_353 : Cond.methodLink "java/util/ArrayList" (66 : Nat) ({ cls := "java/util/Arrays", name := "copyOf", desc := "([Ljava/lang/Object;I)[Ljava/lang/Object;" } : MethodName) ∈ zz_ws := zz_in (List.mem_of_getElem? (i := 353) (by decide +kernel)) rfl
theorem zw_354 : Cond.static ({ cls := "java/util/Arrays", name := "copyOf", desc := "([Ljava/lang/Object;I)[Ljava/lang/Object;" } : MethodName) ∈ zz_ws := zz_in (List.mem_of_getElem? (i := 354) (by decide +kernel)) rfl
theorem zw_355 : Cond.code ({ cls := "java/util/Arrays", name := "copyOf", desc := "([Ljava/lang/Object;I)[Ljava/lang/Object;" } : MethodName) prog_23_method_119_code (2 : Nat) (Option.some (FieldType.array (FieldType.object "java/lang/Object"))) ∈ zz_ws := zz_in (List.mem_of_getElem? (i := 355) (by decide +kernel)) rfl
theorem zw_356 : Cond.methodLink "java/util/Arrays" (86 : Nat) ({ cls := "java/lang/Object", name := "getClass", desc := "()Ljava/lang/Class;" } : MethodName) ∈ zz_ws := zz_in (List.mem_of_getElem? (i := 356) (by decide +kernel)) rfl
theorem zw_357 : Cond.instanceMethod ({ cls := "java/lang/Object", name := "getClass", desc := "()Ljava/lang/Class;" } : MethodName) ∈ zz_ws := zz_in (List.mem_of_getElem? (i := 357) (by decide +kernel)) rfl
theorem zw_359 : Cond.selects "RequestGate" ({ cls := "java/lang/Object", name := "getClass", desc := "()Ljava/lang/Class;" } : MethodName) ({ cls := "java/lang/Object", name := "getClass", desc := "()Ljava/lang/Class;" } : MethodName) ∈ zz_ws := zz_in (List.mem_of_getElem? (i := 359) (by decide +kernel)) rfl
theorem zw_360 : Cond.selects "RequestGate$Conditions" ({ cls := "java/lang/Object", name := "getClass", desc := "()Ljava/lang/Class;" } : MethodName) ({ cls := "java/lang/Object", name := "getClass", desc := "()Ljava/lang/Class;" } : MethodName) ∈ zz_ws := zz_in (List.mem_of_getElem? (i := 360) (by decide +kernel)) rfl
theorem zw_361 : Cond.selects "RequestGate$Layer" ({ cls := "java/lang/Object", name := "getClass", desc := "()Ljava/lang/Class;" } : MethodName) ({ cls := "java/lang/Object", name := "getClass", desc := "()Ljava/lang/Class;" } : MethodName) ∈ zz_ws := zz_in (List.mem_of_getElem? (i := 361) (by decide +kernel)) rfl
theorem zw_362 : Cond.selects "RequestGate$Pieces" ({ cls := "java/lang/Object", name := "getClass", desc := "()Ljava/lang/Class;" } : MethodName) ({ cls := "java/lang/Object", name := "getClass", desc := "()Ljava/lang/Class;" } : MethodName) ∈ zz_ws := zz_in (List.mem_of_getElem? (i := 362) (by decide +kernel)) rfl
theorem zw_363 : Cond.selects "RequestGate$PlainPath" ({ cls := "java/lang/Object", name := "getClass", desc := "()Ljava/lang/Class;" } : MethodName) ({ cls := "java/lang/Object", name := "getClass", desc := "()Ljava/lang/Class;" } : MethodName) ∈ zz_ws := zz_in (List.mem_of_getElem? (i := 363) (by decide +kernel)) rfl
theorem zw_364 : Cond.selects "RequestGate$Roles" ({ cls := "java/lang/Object", name := "getClass", desc := "()Ljava/lang/Class;" } : MethodName) ({ cls := "java/lang/Object", name := "getClass", desc := "()Ljava/lang/Class;" } : MethodName) ∈ zz_ws := zz_in (List.mem_of_getElem? (i := 364) (by decide +kernel)) rfl
theorem zw_365 : Cond.selects "RequestGate$Rule" ({ cls := "java/lang/Object", name := "getClass", desc := "()Ljava/lang/Class;" } : MethodName) ({ cls := "java/lang/Object", name := "getClass", desc := "()Ljava/lang/Class;" } : MethodName) ∈ zz_ws := zz_in (List.mem_of_getElem? (i := 365) (by decide +kernel)) rfl
theorem zw_366 : Cond.selects "RequestGate$Service" ({ cls := "java/lang/Object", name := "getClass", desc := "()Ljava/lang/Class;" } : MethodName) ({ cls := "java/lang/Object", name := "getClass", desc := "()Ljava/lang/Class;" } : MethodName) ∈ zz_ws := zz_in (List.mem_of_getElem? (i := 366) (by decide +kernel)) rfl
theorem zw_367 : Cond.selects "RequestGate$Text" ({ cls := "java/lang/Object", name := "getClass", desc := "()Ljava/lang/Class;" } : MethodName) ({ cls := "java/lang/Object", name := "getClass", desc := "()Ljava/lang/Class;" } : MethodName) ∈ zz_ws := zz_in (List.mem_of_getElem? (i := 367) (by decide +kernel)) rfl
theorem zw_368 : Cond.selects "RequestGate$Ticket" ({ cls := "java/lang/Object", name := "getClass", desc := "()Ljava/lang/Class;" } : MethodName) ({ cls := "java/lang/Object", name := "getClass", desc := "()Ljava/lang/Class;" } : MethodName) ∈ zz_ws := zz_in (List.mem_of_getElem? (i := 368) (by decide +kernel)) rfl
theorem zw_369 : Cond.selects "RequestGate$Tickets" ({ cls := "java/lang/Object", name := "getClass", desc := "()Ljava/lang/Class;" } : MethodName) ({ cls := "java/lang/Object", name := "getClass", desc := "()Ljava/lang/Class;" } : MethodName) ∈ zz_ws := zz_in (List.mem_of_getElem? (i := 369) (by decide +kernel)) rfl
theorem zw_370 : Cond.selects "RequestGate$User" ({ cls := "java/lang/Object", name := "getClass", desc := "()Ljava/lang/Class;" } : MethodName) ({ cls := "java/lang/Object", name := "getClass", desc := "()Ljava/lang/Class;" } : MethodName) ∈ zz_ws := zz_in (List.mem_of_getElem? (i := 370) (by decide +kernel)) rfl
theorem zw_371 : Cond.selects "RequestGateModel" ({ cls := "java/lang/Object", name := "getClass", desc := "()Ljava/lang/Class;" } : MethodName) ({ cls := "java/lang/Object", name := "getClass", desc := "()Ljava/lang/Class;" } : MethodName) ∈ zz_ws := zz_in (List.mem_of_getElem? (i := 371) (by decide +kernel)) rfl
theorem zw_372 : Cond.selects "java/util/ArrayList" ({ cls := "java/lang/Object", name := "getClass", desc := "()Ljava/lang/Class;" } : MethodName) ({ cls := "java/lang/Object", name := "getClass", desc := "()Ljava/lang/Class;" } : MethodName) ∈ zz_ws := zz_in (List.mem_of_getElem? (i := 372) (by decide +kernel)) rfl
theorem zw_373 : Cond.native ({ cls := "java/lang/Object", name := "getClass", desc := "()Ljava/lang/Class;" } : MethodName) ∈ zz_ws := zz_in (List.mem_of_getElem? (i := 373) (by decide +kernel)) rfl
theorem zw_374 : Cond.methodLink "java/util/Arrays" (300 : Nat) ({ cls := "java/util/Arrays", name := "copyOf", desc := "([Ljava/lang/Object;ILjava/lang/Class;)[Ljava/lang/Object;" } : MethodName) ∈ zz_ws := zz_in (List.mem_of_getElem? (i := 374) (by decide +kernel)) rfl
theorem zw_375 : Cond.static ({ cls := "java/util/Arrays", name := "copyOf", desc := "([Ljava/lang/Object;ILjava/lang/Class;)[Ljava/lang/Object;" } : MethodName) ∈ zz_ws := zz_in (List.mem_of_getElem? (i := 375) (by decide +kernel)) rfl
theorem zw_376 : Cond.code ({ cls := "java/util/Arrays", name := "copyOf", desc := "([Ljava/lang/Object;ILjava/lang/Class;)[Ljava/lang/Object;" } : MethodName) prog_23_method_120_code (4 : Nat) (Option.some (FieldType.array (FieldType.object "java/lang/Object"))) ∈ zz_ws := zz_in (List.mem_of_getElem? (i := 376) (by decide +kernel)) rfl
theorem zw_377 : Cond.classLink "java/util/Arrays" (110 : Nat) "[Ljava/lang/Object;" ∈ zz_ws := zz_in (List.mem_of_getElem? (i := 377) (by decide +kernel)) rfl
theorem zw_379 : Cond.classLink "java/util/Arrays" (2 : Nat) "java/lang/Object" ∈ zz_ws := zz_in (List.mem_of_getElem? (i := 379) (by decide +kernel)) rfl
theorem zw_380 : Cond.methodLink "java/util/Arrays" (304 : Nat) ({ cls := "java/lang/Math", name := "min", desc := "(II)I" } : MethodName) ∈ zz_ws := zz_in (List.mem_of_getElem? (i := 380) (by decide +kernel)) rfl
theorem zw_381 : Cond.static ({ cls := "java/lang/Math", name := "min", desc := "(II)I" } : MethodName) ∈ zz_ws := zz_in (List.mem_of_getElem? (i := 381) (by decide +kernel)) rfl
theorem zw_382 : Cond.code ({ cls := "java/lang/Math", name := "min", desc := "(II)I" } : MethodName) prog_18_method_69_code (2 : Nat) (Option.some FieldType.int) ∈ zz_ws := zz_in (List.mem_of_getElem? (i := 382) (by decide +kernel)) rfl
theorem zw_383 : Cond.methodLink "java/util/Arrays" (150 : Nat) ({ cls := "java/lang/System", name := "arraycopy", desc := "(Ljava/lang/Object;ILjava/lang/Object;II)V" } : MethodName) ∈ zz_ws := zz_in (List.mem_of_getElem? (i := 383) (by decide +kernel)) rfl
theorem zw_384 : Cond.static ({ cls := "java/lang/System", name := "arraycopy", desc := "(Ljava/lang/Object;ILjava/lang/Object;II)V" } : MethodName) ∈ zz_ws := zz_in (List.mem_of_getElem? (i := 384) (by decide +kernel)) rfl
theorem zw_385 : Cond.native ({ cls := "java/lang/System", name := "arraycopy", desc := "(Ljava/lang/Object;ILjava/lang/Object;II)V" } : MethodName) ∈ zz_ws := zz_in (List.mem_of_getElem? (i := 385) (by decide +kernel)) rfl
theorem zw_386 : Cond.methodLink "java/util/ArrayList" (79 : Nat) ({ cls := "java/lang/Math", name := "max", desc := "(II)I" } : MethodName) ∈ zz_ws := zz_in (List.mem_of_getElem? (i := 386) (by decide +kernel)) rfl
theorem zw_387 : Cond.classLink "java/util/ArrayList" (7 : Nat) "java/lang/Object" ∈ zz_ws := zz_in (List.mem_of_getElem? (i := 387) (by decide +kernel)) rfl
theorem zw_388 : Cond.methodLink "RequestGateLaw" (32 : Nat) ({ cls := "RequestGate", name := "role", desc := "(II)Z" } : MethodName) ∈ zz_ws := zz_in (List.mem_of_getElem? (i := 388) (by decide +kernel)) rfl
theorem zw_389 : Cond.instanceMethod ({ cls := "RequestGate", name := "role", desc := "(II)Z" } : MethodName) ∈ zz_ws := zz_in (List.mem_of_getElem? (i := 389) (by decide +kernel)) rfl
theorem zw_390 : Cond.selects "RequestGate" ({ cls := "RequestGate", name := "role", desc := "(II)Z" } : MethodName) ({ cls := "RequestGate", name := "role", desc := "(II)Z" } : MethodName) ∈ zz_ws := zz_in (List.mem_of_getElem? (i := 390) (by decide +kernel)) rfl
theorem zw_391 : Cond.code ({ cls := "RequestGate", name := "role", desc := "(II)Z" } : MethodName) prog_1_method_6_code (3 : Nat) (Option.some FieldType.boolean) ∈ zz_ws := zz_in (List.mem_of_getElem? (i := 391) (by decide +kernel)) rfl
theorem zw_392 : Cond.methodLink "RequestGate" (101 : Nat) ({ cls := "RequestGate$Roles", name := "add", desc := "(II)Z" } : MethodName) ∈ zz_ws := zz_in (List.mem_of_getElem? (i := 392) (by decide +kernel)) rfl
theorem zw_393 : Cond.instanceMethod ({ cls := "RequestGate$Roles", name := "add", desc := "(II)Z" } : MethodName) ∈ zz_ws := zz_in (List.mem_of_getElem? (i := 393) (by decide +kernel)) rfl
theorem zw_394 : Cond.selects "RequestGate$Roles" ({ cls := "RequestGate$Roles", name := "add", desc := "(II)Z" } : MethodName) ({ cls := "RequestGate$Roles", name := "add", desc := "(II)Z" } : MethodName) ∈ zz_ws := zz_in (List.mem_of_getElem? (i := 394) (by decide +kernel)) rfl
theorem zw_395 : Cond.code ({ cls := "RequestGate$Roles", name := "add", desc := "(II)Z" } : MethodName) prog_6_method_4_code (4 : Nat) (Option.some FieldType.boolean) ∈ zz_ws := zz_in (List.mem_of_getElem? (i := 395) (by decide +kernel)) rfl
theorem zw_396 : Cond.methodLink "RequestGate$Roles" (15 : Nat) ({ cls := "RequestGate$Roles", name := "isRole", desc := "(I)Z" } : MethodName) ∈ zz_ws := zz_in (List.mem_of_getElem? (i := 396) (by decide +kernel)) rfl
theorem zw_397 : Cond.methodLink "RequestGate$Roles" (19 : Nat) ({ cls := "RequestGate$Roles", name := "contains", desc := "(II)Z" } : MethodName) ∈ zz_ws := zz_in (List.mem_of_getElem? (i := 397) (by decide +kernel)) rfl
theorem zw_398 : Cond.static ({ cls := "RequestGate$Roles", name := "contains", desc := "(II)Z" } : MethodName) ∈ zz_ws := zz_in (List.mem_of_getElem? (i := 398) (by decide +kernel)) rfl
theorem zw_399 : Cond.code ({ cls := "RequestGate$Roles", name := "contains", desc := "(II)Z" } : MethodName) prog_6_method_3_code (2 : Nat) (Option.some FieldType.boolean) ∈ zz_ws := zz_in (List.mem_of_getElem? (i := 399) (by decide +kernel)) rfl
theorem zw_400 : Cond.methodLink "RequestGateLaw" (37 : Nat) ({ cls := "RequestGate", name := "user", desc := "(III)I" } : MethodName) ∈ zz_ws := zz_in (List.mem_of_getElem? (i := 400) (by decide +kernel)) rfl
theorem zw_401 : Cond.instanceMethod ({ cls := "RequestGate", name := "user", desc := "(III)I" } : MethodName) ∈ zz_ws := zz_in (List.mem_of_getElem? (i := 401) (by decide +kernel)) rfl
theorem zw_402 : Cond.selects "RequestGate" ({ cls := "RequestGate", name := "user", desc := "(III)I" } : MethodName) ({ cls := "RequestGate", name := "user", desc := "(III)I" } : MethodName) ∈ zz_ws := zz_in (List.mem_of_getElem? (i := 402) (by decide +kernel)) rfl
theorem zw_403 : Cond.code ({ cls := "RequestGate", name := "user", desc := "(III)I" } : MethodName) prog_1_method_7_code (4 : Nat) (Option.some FieldType.int) ∈ zz_ws := zz_in (List.mem_of_getElem? (i := 403) (by decide +kernel)) rfl
theorem zw_404 : Cond.classLink "RequestGate" (104 : Nat) "RequestGate$User" ∈ zz_ws := zz_in (List.mem_of_getElem? (i := 404) (by decide +kernel)) rfl
theorem zw_405 : Cond.instantiable "RequestGate$User" (6 : Nat) ∈ zz_ws := zz_in (List.mem_of_getElem? (i := 405) (by decide +kernel)) rfl
theorem zw_406 : Cond.methodLink "RequestGate" (106 : Nat) ({ cls := "RequestGate", name := "draw", desc := "()I" } : MethodName) ∈ zz_ws := zz_in (List.mem_of_getElem? (i := 406) (by decide +kernel)) rfl
theorem zw_408 : Cond.instanceMethod ({ cls := "RequestGate", name := "draw", desc := "()I" } : MethodName) ∈ zz_ws := zz_in (List.mem_of_getElem? (i := 408) (by decide +kernel)) rfl
theorem zw_409 : Cond.code ({ cls := "RequestGate", name := "draw", desc := "()I" } : MethodName) prog_1_method_27_code (1 : Nat) (Option.some FieldType.int) ∈ zz_ws := zz_in (List.mem_of_getElem? (i := 409) (by decide +kernel)) rfl
theorem zw_410 : Cond.methodLink "RequestGate" (109 : Nat) ({ cls := "RequestGate$User", name := "<init>", desc := "(IIII)V" } : MethodName) ∈ zz_ws := zz_in (List.mem_of_getElem? (i := 410) (by decide +kernel)) rfl
theorem zw_411 : Cond.instanceMethod ({ cls := "RequestGate$User", name := "<init>", desc := "(IIII)V" } : MethodName) ∈ zz_ws := zz_in (List.mem_of_getElem? (i := 411) (by decide +kernel)) rfl
theorem zw_412 : Cond.code ({ cls := "RequestGate$User", name := "<init>", desc := "(IIII)V" } : MethodName) prog_12_method_1_code (5 : Nat) (none : Option FieldType) ∈ zz_ws := zz_in (List.mem_of_getElem? (i := 412) (by decide +kernel)) rfl
theorem zw_413 : Cond.methodLink "RequestGate$User" (1 : Nat) ({ cls := "java/lang/Object", name := "<init>", desc := "()V" } : MethodName) ∈ zz_ws := zz_in (List.mem_of_getElem? (i := 413) (by decide +kernel)) rfl
theorem zw_414 : Cond.methodLink "RequestGate$User" (19 : Nat) ({ cls := "RequestGate$User", name := "hashOf", desc := "(III)I" } : MethodName) ∈ zz_ws := zz_in (List.mem_of_getElem? (i := 414) (by decide +kernel)) rfl
theorem zw_415 : Cond.static ({ cls := "RequestGate$User", name := "hashOf", desc := "(III)I" } : MethodName) ∈ zz_ws := zz_in (List.mem_of_getElem? (i := 415) (by decide +kernel)) rfl
theorem zw_416 : Cond.code ({ cls := "RequestGate$User", name := "hashOf", desc := "(III)I" } : MethodName) prog_12_method_2_code (6 : Nat) (Option.some FieldType.int) ∈ zz_ws := zz_in (List.mem_of_getElem? (i := 416) (by decide +kernel)) rfl
theorem zw_417 : Cond.fieldLink "RequestGate$User" (7 : Nat) "RequestGate$User" "given" "I" ∈ zz_ws := zz_in (List.mem_of_getElem? (i := 417) (by decide +kernel)) rfl
theorem zw_418 : Cond.fieldLink "RequestGate" (282 : Nat) "RequestGate$User" "given" "I" ∈ zz_ws := zz_in (List.mem_of_getElem? (i := 418) (by decide +kernel)) rfl
theorem zw_419 : Cond.fieldLink "RequestGate$User" (13 : Nat) "RequestGate$User" "scheme" "I" ∈ zz_ws := zz_in (List.mem_of_getElem? (i := 419) (by decide +kernel)) rfl
theorem zw_420 : Cond.fieldLink "RequestGate$User" (16 : Nat) "RequestGate$User" "salt" "I" ∈ zz_ws := zz_in (List.mem_of_getElem? (i := 420) (by decide +kernel)) rfl
theorem zw_421 : Cond.fieldLink "RequestGate$User" (23 : Nat) "RequestGate$User" "hash" "I" ∈ zz_ws := zz_in (List.mem_of_getElem? (i := 421) (by decide +kernel)) rfl
theorem zw_422 : Cond.fieldLink "RequestGate" (247 : Nat) "RequestGate$User" "hash" "I" ∈ zz_ws := zz_in (List.mem_of_getElem? (i := 422) (by decide +kernel)) rfl
theorem zw_423 : Cond.fieldLink "RequestGate$User" (29 : Nat) "RequestGate$User" "wrongTries" "I" ∈ zz_ws := zz_in (List.mem_of_getElem? (i := 423) (by decide +kernel)) rfl
theorem zw_424 : Cond.fieldLink "RequestGate$User" (26 : Nat) "RequestGate$User" "lockedUntil" "I" ∈ zz_ws := zz_in (List.mem_of_getElem? (i := 424) (by decide +kernel)) rfl
theorem zw_425 : Cond.laysFinal "RequestGate$User" "RequestGate$User" "given" "I" ∈ zz_ws := zz_in (List.mem_of_getElem? (i := 425) (by decide +kernel)) rfl
theorem zw_427 : Cond.lays "RequestGate$User" "RequestGate$User" "scheme" "I" ∈ zz_ws := zz_in (List.mem_of_getElem? (i := 427) (by decide +kernel)) rfl
theorem zw_429 : Cond.lays "RequestGate$User" "RequestGate$User" "salt" "I" ∈ zz_ws := zz_in (List.mem_of_getElem? (i := 429) (by decide +kernel)) rfl
theorem zw_431 : Cond.lays "RequestGate$User" "RequestGate$User" "hash" "I" ∈ zz_ws := zz_in (List.mem_of_getElem? (i := 431) (by decide +kernel)) rfl
theorem zw_433 : Cond.lays "RequestGate$User" "RequestGate$User" "wrongTries" "I" ∈ zz_ws := zz_in (List.mem_of_getElem? (i := 433) (by decide +kernel)) rfl
theorem zw_435 : Cond.lays "RequestGate$User" "RequestGate$User" "lockedUntil" "I" ∈ zz_ws := zz_in (List.mem_of_getElem? (i := 435) (by decide +kernel)) rfl
theorem zw_438 : Cond.methodLink "RequestGateLaw" (41 : Nat) ({ cls := "RequestGate", name := "service", desc := "(III)I" } : MethodName) ∈ zz_ws := zz_in (List.mem_of_getElem? (i := 438) (by decide +kernel)) rfl
theorem zw_439 : Cond.instanceMethod ({ cls := "RequestGate", name := "service", desc := "(III)I" } : MethodName) ∈ zz_ws := zz_in (List.mem_of_getElem? (i := 439) (by decide +kernel)) rfl
theorem zw_440 : Cond.selects "RequestGate" ({ cls := "RequestGate", name := "service", desc := "(III)I" } : MethodName) ({ cls := "RequestGate", name := "service", desc := "(III)I" } : MethodName) ∈ zz_ws := zz_in (List.mem_of_getElem? (i := 440) (by decide +kernel)) rfl
theorem zw_441 : Cond.code ({ cls := "RequestGate", name := "service", desc := "(III)I" } : MethodName) prog_1_method_8_code (4 : Nat) (Option.some FieldType.int) ∈ zz_ws := zz_in (List.mem_of_getElem? (i := 441) (by decide +kernel)) rfl
theorem zw_442 : Cond.methodLink "RequestGate" (112 : Nat) ({ cls := "RequestGate", name := "isConditionOrNone", desc := "(I)Z" } : MethodName) ∈ zz_ws := zz_in (List.mem_of_getElem? (i := 442) (by decide +kernel)) rfl
theorem zw_444 : Cond.instanceMethod ({ cls := "RequestGate", name := "isConditionOrNone", desc := "(I)Z" } : MethodName) ∈ zz_ws := zz_in (List.mem_of_getElem? (i := 444) (by decide +kernel)) rfl
theorem zw_445 : Cond.code ({ cls := "RequestGate", name := "isConditionOrNone", desc := "(I)Z" } : MethodName) prog_1_method_25_code (2 : Nat) (Option.some FieldType.boolean) ∈ zz_ws := zz_in (List.mem_of_getElem? (i := 445) (by decide +kernel)) rfl
theorem zw_446 : Cond.methodLink "RequestGate" (115 : Nat) ({ cls := "RequestGate", name := "isTypeOrNone", desc := "(I)Z" } : MethodName) ∈ zz_ws := zz_in (List.mem_of_getElem? (i := 446) (by decide +kernel)) rfl
theorem zw_448 : Cond.instanceMethod ({ cls := "RequestGate", name := "isTypeOrNone", desc := "(I)Z" } : MethodName) ∈ zz_ws := zz_in (List.mem_of_getElem? (i := 448) (by decide +kernel)) rfl
theorem zw_449 : Cond.code ({ cls := "RequestGate", name := "isTypeOrNone", desc := "(I)Z" } : MethodName) prog_1_method_24_code (2 : Nat) (Option.some FieldType.boolean) ∈ zz_ws := zz_in (List.mem_of_getElem? (i := 449) (by decide +kernel)) rfl
theorem zw_450 : Cond.methodLink "RequestGate" (123 : Nat) ({ cls := "RequestGate", name := "isType", desc := "(I)Z" } : MethodName) ∈ zz_ws := zz_in (List.mem_of_getElem? (i := 450) (by decide +kernel)) rfl
theorem zw_452 : Cond.instanceMethod ({ cls := "RequestGate", name := "isType", desc := "(I)Z" } : MethodName) ∈ zz_ws := zz_in (List.mem_of_getElem? (i := 452) (by decide +kernel)) rfl
theorem zw_453 : Cond.code ({ cls := "RequestGate", name := "isType", desc := "(I)Z" } : MethodName) prog_1_method_23_code (2 : Nat) (Option.some FieldType.boolean) ∈ zz_ws := zz_in (List.mem_of_getElem? (i := 453) (by decide +kernel)) rfl
theorem zw_454 : Cond.classLink "RequestGate" (118 : Nat) "RequestGate$Service" ∈ zz_ws := zz_in (List.mem_of_getElem? (i := 454) (by decide +kernel)) rfl
theorem zw_455 : Cond.instantiable "RequestGate$Service" (5 : Nat) ∈ zz_ws := zz_in (List.mem_of_getElem? (i := 455) (by decide +kernel)) rfl
theorem zw_456 : Cond.methodLink "RequestGate" (120 : Nat) ({ cls := "RequestGate$Service", name := "<init>", desc := "(III)V" } : MethodName) ∈ zz_ws := zz_in (List.mem_of_getElem? (i := 456) (by decide +kernel)) rfl
theorem zw_457 : Cond.instanceMethod ({ cls := "RequestGate$Service", name := "<init>", desc := "(III)V" } : MethodName) ∈ zz_ws := zz_in (List.mem_of_getElem? (i := 457) (by decide +kernel)) rfl
theorem zw_458 : Cond.code ({ cls := "RequestGate$Service", name := "<init>", desc := "(III)V" } : MethodName) prog_8_method_1_code (4 : Nat) (none : Option FieldType) ∈ zz_ws := zz_in (List.mem_of_getElem? (i := 458) (by decide +kernel)) rfl
theorem zw_459 : Cond.methodLink "RequestGate$Service" (3 : Nat) ({ cls := "java/lang/Object", name := "<init>", desc := "()V" } : MethodName) ∈ zz_ws := zz_in (List.mem_of_getElem? (i := 459) (by decide +kernel)) rfl
theorem zw_460 : Cond.fieldLink "RequestGate$Service" (19 : Nat) "RequestGate$Service" "parent" "I" ∈ zz_ws := zz_in (List.mem_of_getElem? (i := 460) (by decide +kernel)) rfl
theorem zw_461 : Cond.fieldLink "RequestGate" (295 : Nat) "RequestGate$Service" "parent" "I" ∈ zz_ws := zz_in (List.mem_of_getElem? (i := 461) (by decide +kernel)) rfl
theorem zw_462 : Cond.fieldLink "RequestGate$Service" (23 : Nat) "RequestGate$Service" "face" "I" ∈ zz_ws := zz_in (List.mem_of_getElem? (i := 462) (by decide +kernel)) rfl
theorem zw_463 : Cond.fieldLink "RequestGate" (298 : Nat) "RequestGate$Service" "face" "I" ∈ zz_ws := zz_in (List.mem_of_getElem? (i := 463) (by decide +kernel)) rfl
theorem zw_464 : Cond.fieldLink "RequestGate$Service" (26 : Nat) "RequestGate$Service" "condition" "I" ∈ zz_ws := zz_in (List.mem_of_getElem? (i := 464) (by decide +kernel)) rfl
theorem zw_465 : Cond.fieldLink "RequestGate$Service" (9 : Nat) "RequestGate$Service" "declared" "[Z" ∈ zz_ws := zz_in (List.mem_of_getElem? (i := 465) (by decide +kernel)) rfl
theorem zw_466 : Cond.fieldLink "RequestGate$Service" (15 : Nat) "RequestGate$Service" "conditions" "[I" ∈ zz_ws := zz_in (List.mem_of_getElem? (i := 466) (by decide +kernel)) rfl
theorem zw_467 : Cond.laysFinal "RequestGate$Service" "RequestGate$Service" "parent" "I" ∈ zz_ws := zz_in (List.mem_of_getElem? (i := 467) (by decide +kernel)) rfl
theorem zw_469 : Cond.laysFinal "RequestGate$Service" "RequestGate$Service" "face" "I" ∈ zz_ws := zz_in (List.mem_of_getElem? (i := 469) (by decide +kernel)) rfl
theorem zw_471 : Cond.laysFinal "RequestGate$Service" "RequestGate$Service" "condition" "I" ∈ zz_ws := zz_in (List.mem_of_getElem? (i := 471) (by decide +kernel)) rfl
theorem zw_473 : Cond.laysFinal "RequestGate$Service" "RequestGate$Service" "declared" "[Z" ∈ zz_ws := zz_in (List.mem_of_getElem? (i := 473) (by decide +kernel)) rfl
theorem zw_475 : Cond.laysFinal "RequestGate$Service" "RequestGate$Service" "conditions" "[I" ∈ zz_ws := zz_in (List.mem_of_getElem? (i := 475) (by decide +kernel)) rfl
theorem zw_478 : Cond.methodLink "RequestGateLaw" (45 : Nat) ({ cls := "RequestGate", name := "declare", desc := "(III)Z" } : MethodName) ∈ zz_ws := zz_in (List.mem_of_getElem? (i := 478) (by decide +kernel)) rfl
theorem zw_479 : Cond.instanceMethod ({ cls := "RequestGate", name := "declare", desc := "(III)Z" } : MethodName) ∈ zz_ws := zz_in (List.mem_of_getElem? (i := 479) (by decide +kernel)) rfl
theorem zw_480 : Cond.selects "RequestGate" ({ cls := "RequestGate", name := "declare", desc := "(III)Z" } : MethodName) ({ cls := "RequestGate", name := "declare", desc := "(III)Z" } : MethodName) ∈ zz_ws := zz_in (List.mem_of_getElem? (i := 480) (by decide +kernel)) rfl
theorem zw_481 : Cond.code ({ cls := "RequestGate", name := "declare", desc := "(III)Z" } : MethodName) prog_1_method_9_code (4 : Nat) (Option.some FieldType.boolean) ∈ zz_ws := zz_in (List.mem_of_getElem? (i := 481) (by decide +kernel)) rfl
theorem zw_482 : Cond.methodLink "RequestGate" (126 : Nat) ({ cls := "RequestGate", name := "isOperation", desc := "(I)Z" } : MethodName) ∈ zz_ws := zz_in (List.mem_of_getElem? (i := 482) (by decide +kernel)) rfl
theorem zw_483 : Cond.static ({ cls := "RequestGate", name := "isOperation", desc := "(I)Z" } : MethodName) ∈ zz_ws := zz_in (List.mem_of_getElem? (i := 483) (by decide +kernel)) rfl
theorem zw_484 : Cond.code ({ cls := "RequestGate", name := "isOperation", desc := "(I)Z" } : MethodName) prog_1_method_26_code (1 : Nat) (Option.some FieldType.boolean) ∈ zz_ws := zz_in (List.mem_of_getElem? (i := 484) (by decide +kernel)) rfl
theorem zw_485 : Cond.methodLink "RequestGate" (129 : Nat) ({ cls := "java/util/ArrayList", name := "get", desc := "(I)Ljava/lang/Object;" } : MethodName) ∈ zz_ws := zz_in (List.mem_of_getElem? (i := 485) (by decide +kernel)) rfl
theorem zw_486 : Cond.instanceMethod ({ cls := "java/util/ArrayList", name := "get", desc := "(I)Ljava/lang/Object;" } : MethodName) ∈ zz_ws := zz_in (List.mem_of_getElem? (i := 486) (by decide +kernel)) rfl
theorem zw_487 : Cond.selects "java/util/ArrayList" ({ cls := "java/util/ArrayList", name := "get", desc := "(I)Ljava/lang/Object;" } : MethodName) ({ cls := "java/util/ArrayList", name := "get", desc := "(I)Ljava/lang/Object;" } : MethodName) ∈ zz_ws := zz_in (List.mem_of_getElem? (i := 487) (by decide +kernel)) rfl
theorem zw_488 : Cond.code ({ cls := "java/util/ArrayList", name := "get", desc := "(I)Ljava/lang/Object;" } : MethodName) prog_22_method_20_code (2 : Nat) (Option.some (FieldType.object "java/lang/Object")) ∈ zz_ws := zz_in (List.mem_of_getElem? (i := 488) (by decide +kernel)) rfl
theorem zw_489 : Cond.methodLink "java/util/ArrayList" (118 : Nat) ({ cls := "java/util/Objects", name := "checkIndex", desc := "(II)I" } : MethodName) ∈ zz_ws := zz_in (List.mem_of_getElem? (i := 489) (by decide +kernel)) rfl
theorem zw_490 : Cond.static ({ cls := "java/util/Objects", name := "checkIndex", desc := "(II)I" } : MethodName) ∈ zz_ws := zz_in (List.mem_of_getElem? (i := 490) (by decide +kernel)) rfl
theorem zw_491 : Cond.code ({ cls := "java/util/Objects", name := "checkIndex", desc := "(II)I" } : MethodName) prog_26_method_17_code (2 : Nat) (Option.some FieldType.int) ∈ zz_ws := zz_in (List.mem_of_getElem? (i := 491) (by decide +kernel)) rfl
theorem zw_492 : Cond.methodLink "java/util/Objects" (105 : Nat) ({ cls := "jdk/internal/util/Preconditions", name := "checkIndex", desc := "(IILjava/util/function/BiFunction;)I" } : MethodName) ∈ zz_ws := zz_in (List.mem_of_getElem? (i := 492) (by decide +kernel)) rfl
theorem zw_493 : Cond.static ({ cls := "jdk/internal/util/Preconditions", name := "checkIndex", desc := "(IILjava/util/function/BiFunction;)I" } : MethodName) ∈ zz_ws := zz_in (List.mem_of_getElem? (i := 493) (by decide +kernel)) rfl
theorem zw_494 : Cond.code ({ cls := "jdk/internal/util/Preconditions", name := "checkIndex", desc := "(IILjava/util/function/BiFunction;)I" } : MethodName) prog_30_method_11_code (3 : Nat) (Option.some FieldType.int) ∈ zz_ws := zz_in (List.mem_of_getElem? (i := 494) (by decide +kernel)) rfl
theorem zw_495 : Cond.methodLink "java/util/ArrayList" (123 : Nat) ({ cls := "java/util/ArrayList", name := "elementData", desc := "(I)Ljava/lang/Object;" } : MethodName) ∈ zz_ws := zz_in (List.mem_of_getElem? (i := 495) (by decide +kernel)) rfl
theorem zw_496 : Cond.instanceMethod ({ cls := "java/util/ArrayList", name := "elementData", desc := "(I)Ljava/lang/Object;" } : MethodName) ∈ zz_ws := zz_in (List.mem_of_getElem? (i := 496) (by decide +kernel)) rfl
theorem zw_497 : Cond.selects "java/util/ArrayList" ({ cls := "java/util/ArrayList", name := "elementData", desc := "(I)Ljava/lang/Object;" } : MethodName) ({ cls := "java/util/ArrayList", name := "elementData", desc := "(I)Ljava/lang/Object;" } : MethodName) ∈ zz_ws := zz_in (List.mem_of_getElem? (i := 497) (by decide +kernel)) rfl
theorem zw_498 : Cond.code ({ cls := "java/util/ArrayList", name := "elementData", desc := "(I)Ljava/lang/Object;" } : MethodName) prog_22_method_18_code (2 : Nat) (Option.some (FieldType.object "java/lang/Object")) ∈ zz_ws := zz_in (List.mem_of_getElem? (i := 498) (by decide +kernel)) rfl
theorem zw_499 : Cond.methodLink "RequestGate" (133 : Nat) ({ cls := "RequestGate$Service", name := "add", desc := "(II)Z" } : MethodName) ∈ zz_ws := zz_in (List.mem_of_getElem? (i := 499) (by decide +kernel)) rfl
theorem zw_500 : Cond.instanceMethod ({ cls := "RequestGate$Service", name := "add", desc := "(II)Z" } : MethodName) ∈ zz_ws := zz_in (List.mem_of_getElem? (i := 500) (by decide +kernel)) rfl
theorem zw_501 : Cond.selects "RequestGate$Service" ({ cls := "RequestGate$Service", name := "add", desc := "(II)Z" } : MethodName) ({ cls := "RequestGate$Service", name := "add", desc := "(II)Z" } : MethodName) ∈ zz_ws := zz_in (List.mem_of_getElem? (i := 501) (by decide +kernel)) rfl
theorem zw_502 : Cond.code ({ cls := "RequestGate$Service", name := "add", desc := "(II)Z" } : MethodName) prog_8_method_3_code (3 : Nat) (Option.some FieldType.boolean) ∈ zz_ws := zz_in (List.mem_of_getElem? (i := 502) (by decide +kernel)) rfl
theorem zw_504 : Cond.methodLink "RequestGateLaw" (50 : Nat) ({ cls := "RequestGate", name := "tick", desc := "(I)Z" } : MethodName) ∈ zz_ws := zz_in (List.mem_of_getElem? (i := 504) (by decide +kernel)) rfl
theorem zw_505 : Cond.instanceMethod ({ cls := "RequestGate", name := "tick", desc := "(I)Z" } : MethodName) ∈ zz_ws := zz_in (List.mem_of_getElem? (i := 505) (by decide +kernel)) rfl
theorem zw_506 : Cond.selects "RequestGate" ({ cls := "RequestGate", name := "tick", desc := "(I)Z" } : MethodName) ({ cls := "RequestGate", name := "tick", desc := "(I)Z" } : MethodName) ∈ zz_ws := zz_in (List.mem_of_getElem? (i := 506) (by decide +kernel)) rfl
theorem zw_507 : Cond.code ({ cls := "RequestGate", name := "tick", desc := "(I)Z" } : MethodName) prog_1_method_10_code (2 : Nat) (Option.some FieldType.boolean) ∈ zz_ws := zz_in (List.mem_of_getElem? (i := 507) (by decide +kernel)) rfl
theorem zw_508 : Cond.methodLink "RequestGate" (137 : Nat) ({ cls := "RequestGate$Tickets", name := "dropDead", desc := "(I)V" } : MethodName) ∈ zz_ws := zz_in (List.mem_of_getElem? (i := 508) (by decide +kernel)) rfl
theorem zw_509 : Cond.instanceMethod ({ cls := "RequestGate$Tickets", name := "dropDead", desc := "(I)V" } : MethodName) ∈ zz_ws := zz_in (List.mem_of_getElem? (i := 509) (by decide +kernel)) rfl
theorem zw_510 : Cond.selects "RequestGate$Tickets" ({ cls := "RequestGate$Tickets", name := "dropDead", desc := "(I)V" } : MethodName) ({ cls := "RequestGate$Tickets", name := "dropDead", desc := "(I)V" } : MethodName) ∈ zz_ws := zz_in (List.mem_of_getElem? (i := 510) (by decide +kernel)) rfl
theorem zw_511 : Cond.code ({ cls := "RequestGate$Tickets", name := "dropDead", desc := "(I)V" } : MethodName) prog_11_method_7_code (3 : Nat) (none : Option FieldType) ∈ zz_ws := zz_in (List.mem_of_getElem? (i := 511) (by decide +kernel)) rfl
theorem zw_512 : Cond.methodLink "RequestGate$Tickets" (16 : Nat) ({ cls := "java/util/ArrayList", name := "size", desc := "()I" } : MethodName) ∈ zz_ws := zz_in (List.mem_of_getElem? (i := 512) (by decide +kernel)) rfl
theorem zw_513 : Cond.methodLink "RequestGate$Tickets" (20 : Nat) ({ cls := "java/util/ArrayList", name := "get", desc := "(I)Ljava/lang/Object;" } : MethodName) ∈ zz_ws := zz_in (List.mem_of_getElem? (i := 513) (by decide +kernel)) rfl
theorem zw_514 : Cond.classLink "RequestGate$Tickets" (24 : Nat) "RequestGate$Ticket" ∈ zz_ws := zz_in (List.mem_of_getElem? (i := 514) (by decide +kernel)) rfl
theorem zw_515 : Cond.methodLink "RequestGate$Tickets" (51 : Nat) ({ cls := "RequestGate$Ticket", name := "isDead", desc := "(I)Z" } : MethodName) ∈ zz_ws := zz_in (List.mem_of_getElem? (i := 515) (by decide +kernel)) rfl
theorem zw_516 : Cond.instanceMethod ({ cls := "RequestGate$Ticket", name := "isDead", desc := "(I)Z" } : MethodName) ∈ zz_ws := zz_in (List.mem_of_getElem? (i := 516) (by decide +kernel)) rfl
theorem zw_517 : Cond.selects "RequestGate$Ticket" ({ cls := "RequestGate$Ticket", name := "isDead", desc := "(I)Z" } : MethodName) ({ cls := "RequestGate$Ticket", name := "isDead", desc := "(I)Z" } : MethodName) ∈ zz_ws := zz_in (List.mem_of_getElem? (i := 517) (by decide +kernel)) rfl
theorem zw_518 : Cond.code ({ cls := "RequestGate$Ticket", name := "isDead", desc := "(I)Z" } : MethodName) prog_10_method_2_code (2 : Nat) (Option.some FieldType.boolean) ∈ zz_ws := zz_in (List.mem_of_getElem? (i := 518) (by decide +kernel)) rfl
theorem zw_519 : Cond.methodLink "RequestGate$Tickets" (48 : Nat) ({ cls := "java/util/ArrayList", name := "remove", desc := "(I)Ljava/lang/Object;" } : MethodName) ∈ zz_ws := zz_in (List.mem_of_getElem? (i := 519) (by decide +kernel)) rfl
theorem zw_520 : Cond.instanceMethod ({ cls := "java/util/ArrayList", name := "remove", desc := "(I)Ljava/lang/Object;" } : MethodName) ∈ zz_ws := zz_in (List.mem_of_getElem? (i := 520) (by decide +kernel)) rfl
theorem zw_521 : Cond.selects "java/util/ArrayList" ({ cls := "java/util/ArrayList", name := "remove", desc := "(I)Ljava/lang/Object;" } : MethodName) ({ cls := "java/util/ArrayList", name := "remove", desc := "(I)Ljava/lang/Object;" } : MethodName) ∈ zz_ws := zz_in (List.mem_of_getElem? (i := 521) (by decide +kernel)) rfl
theorem zw_522 : Cond.code ({ cls := "java/util/ArrayList", name := "remove", desc := "(I)Ljava/lang/Object;" } : MethodName) prog_22_method_29_code (4 : Nat) (Option.some (FieldType.object "java/lang/Object")) ∈ zz_ws := zz_in (List.mem_of_getElem? (i := 522) (by decide +kernel)) rfl
theorem zw_523 : Cond.methodLink "java/util/ArrayList" (144 : Nat) ({ cls := "java/util/ArrayList", name := "fastRemove", desc := "([Ljava/lang/Object;I)V" } : MethodName) ∈ zz_ws := zz_in (List.mem_of_getElem? (i := 523) (by decide +kernel)) rfl
theorem zw_525 : Cond.instanceMethod ({ cls := "java/util/ArrayList", name := "fastRemove", desc := "([Ljava/lang/Object;I)V" } : MethodName) ∈ zz_ws := zz_in (List.mem_of_getElem? (i := 525) (by decide +kernel)) rfl
theorem zw_526 : Cond.code ({ cls := "java/util/ArrayList", name := "fastRemove", desc := "([Ljava/lang/Object;I)V" } : MethodName) prog_22_method_39_code (4 : Nat) (none : Option FieldType) ∈ zz_ws := zz_in (List.mem_of_getElem? (i := 526) (by decide +kernel)) rfl
theorem zw_527 : Cond.methodLink "java/util/ArrayList" (112 : Nat) ({ cls := "java/lang/System", name := "arraycopy", desc := "(Ljava/lang/Object;ILjava/lang/Object;II)V" } : MethodName) ∈ zz_ws := zz_in (List.mem_of_getElem? (i := 527) (by decide +kernel)) rfl
theorem zw_528 : Cond.methodLink "RequestGateLaw" (54 : Nat) ({ cls := "RequestGate", name := "login", desc := "(IIIZ)I" } : MethodName) ∈ zz_ws := zz_in (List.mem_of_getElem? (i := 528) (by decide +kernel)) rfl
theorem zw_529 : Cond.instanceMethod ({ cls := "RequestGate", name := "login", desc := "(IIIZ)I" } : MethodName) ∈ zz_ws := zz_in (List.mem_of_getElem? (i := 529) (by decide +kernel)) rfl
theorem zw_530 : Cond.selects "RequestGate" ({ cls := "RequestGate", name := "login", desc := "(IIIZ)I" } : MethodName) ({ cls := "RequestGate", name := "login", desc := "(IIIZ)I" } : MethodName) ∈ zz_ws := zz_in (List.mem_of_getElem? (i := 530) (by decide +kernel)) rfl
theorem zw_531 : Cond.code ({ cls := "RequestGate", name := "login", desc := "(IIIZ)I" } : MethodName) prog_1_method_11_code (7 : Nat) (Option.some FieldType.int) ∈ zz_ws := zz_in (List.mem_of_getElem? (i := 531) (by decide +kernel)) rfl
theorem zw_532 : Cond.methodLink "RequestGate" (141 : Nat) ({ cls := "RequestGate", name := "isUser", desc := "(I)Z" } : MethodName) ∈ zz_ws := zz_in (List.mem_of_getElem? (i := 532) (by decide +kernel)) rfl
theorem zw_534 : Cond.instanceMethod ({ cls := "RequestGate", name := "isUser", desc := "(I)Z" } : MethodName) ∈ zz_ws := zz_in (List.mem_of_getElem? (i := 534) (by decide +kernel)) rfl
theorem zw_535 : Cond.code ({ cls := "RequestGate", name := "isUser", desc := "(I)Z" } : MethodName) prog_1_method_22_code (2 : Nat) (Option.some FieldType.boolean) ∈ zz_ws := zz_in (List.mem_of_getElem? (i := 535) (by decide +kernel)) rfl
theorem zw_536 : Cond.methodLink "RequestGate" (144 : Nat) ({ cls := "RequestGate$User", name := "isLocked", desc := "(I)Z" } : MethodName) ∈ zz_ws := zz_in (List.mem_of_getElem? (i := 536) (by decide +kernel)) rfl
theorem zw_537 : Cond.instanceMethod ({ cls := "RequestGate$User", name := "isLocked", desc := "(I)Z" } : MethodName) ∈ zz_ws := zz_in (List.mem_of_getElem? (i := 537) (by decide +kernel)) rfl
theorem zw_538 : Cond.selects "RequestGate$User" ({ cls := "RequestGate$User", name := "isLocked", desc := "(I)Z" } : MethodName) ({ cls := "RequestGate$User", name := "isLocked", desc := "(I)Z" } : MethodName) ∈ zz_ws := zz_in (List.mem_of_getElem? (i := 538) (by decide +kernel)) rfl
theorem zw_539 : Cond.code ({ cls := "RequestGate$User", name := "isLocked", desc := "(I)Z" } : MethodName) prog_12_method_6_code (2 : Nat) (Option.some FieldType.boolean) ∈ zz_ws := zz_in (List.mem_of_getElem? (i := 539) (by decide +kernel)) rfl
theorem zw_540 : Cond.methodLink "RequestGate" (147 : Nat) ({ cls := "RequestGate$User", name := "hasPassword", desc := "(I)Z" } : MethodName) ∈ zz_ws := zz_in (List.mem_of_getElem? (i := 540) (by decide +kernel)) rfl
theorem zw_541 : Cond.instanceMethod ({ cls := "RequestGate$User", name := "hasPassword", desc := "(I)Z" } : MethodName) ∈ zz_ws := zz_in (List.mem_of_getElem? (i := 541) (by decide +kernel)) rfl
theorem zw_542 : Cond.selects "RequestGate$User" ({ cls := "RequestGate$User", name := "hasPassword", desc := "(I)Z" } : MethodName) ({ cls := "RequestGate$User", name := "hasPassword", desc := "(I)Z" } : MethodName) ∈ zz_ws := zz_in (List.mem_of_getElem? (i := 542) (by decide +kernel)) rfl
theorem zw_543 : Cond.code ({ cls := "RequestGate$User", name := "hasPassword", desc := "(I)Z" } : MethodName) prog_12_method_3_code (2 : Nat) (Option.some FieldType.boolean) ∈ zz_ws := zz_in (List.mem_of_getElem? (i := 543) (by decide +kernel)) rfl
theorem zw_544 : Cond.methodLink "RequestGate" (150 : Nat) ({ cls := "RequestGate$User", name := "lockAfterTooManyTries", desc := "(I)Z" } : MethodName) ∈ zz_ws := zz_in (List.mem_of_getElem? (i := 544) (by decide +kernel)) rfl
theorem zw_545 : Cond.instanceMethod ({ cls := "RequestGate$User", name := "lockAfterTooManyTries", desc := "(I)Z" } : MethodName) ∈ zz_ws := zz_in (List.mem_of_getElem? (i := 545) (by decide +kernel)) rfl
theorem zw_546 : Cond.selects "RequestGate$User" ({ cls := "RequestGate$User", name := "lockAfterTooManyTries", desc := "(I)Z" } : MethodName) ({ cls := "RequestGate$User", name := "lockAfterTooManyTries", desc := "(I)Z" } : MethodName) ∈ zz_ws := zz_in (List.mem_of_getElem? (i := 546) (by decide +kernel)) rfl
theorem zw_547 : Cond.code ({ cls := "RequestGate$User", name := "lockAfterTooManyTries", desc := "(I)Z" } : MethodName) prog_12_method_8_code (2 : Nat) (Option.some FieldType.boolean) ∈ zz_ws := zz_in (List.mem_of_getElem? (i := 547) (by decide +kernel)) rfl
theorem zw_548 : Cond.methodLink "RequestGate$User" (32 : Nat) ({ cls := "RequestGate$User", name := "forgetWrongTries", desc := "()V" } : MethodName) ∈ zz_ws := zz_in (List.mem_of_getElem? (i := 548) (by decide +kernel)) rfl
theorem zw_549 : Cond.instanceMethod ({ cls := "RequestGate$User", name := "forgetWrongTries", desc := "()V" } : MethodName) ∈ zz_ws := zz_in (List.mem_of_getElem? (i := 549) (by decide +kernel)) rfl
theorem zw_550 : Cond.selects "RequestGate$User" ({ cls := "RequestGate$User", name := "forgetWrongTries", desc := "()V" } : MethodName) ({ cls := "RequestGate$User", name := "forgetWrongTries", desc := "()V" } : MethodName) ∈ zz_ws := zz_in (List.mem_of_getElem? (i := 550) (by decide +kernel)) rfl
theorem zw_551 : Cond.code ({ cls := "RequestGate$User", name := "forgetWrongTries", desc := "()V" } : MethodName) prog_12_method_7_code (1 : Nat) (none : Option FieldType) ∈ zz_ws := zz_in (List.mem_of_getElem? (i := 551) (by decide +kernel)) rfl
theorem zw_552 : Cond.methodLink "RequestGate" (156 : Nat) ({ cls := "RequestGate$User", name := "forgetWrongTries", desc := "()V" } : MethodName) ∈ zz_ws := zz_in (List.mem_of_getElem? (i := 552) (by decide +kernel)) rfl
theorem zw_553 : Cond.methodLink "RequestGate" (159 : Nat) ({ cls := "RequestGate$User", name := "isOfOldScheme", desc := "()Z" } : MethodName) ∈ zz_ws := zz_in (List.mem_of_getElem? (i := 553) (by decide +kernel)) rfl
theorem zw_554 : Cond.instanceMethod ({ cls := "RequestGate$User", name := "isOfOldScheme", desc := "()Z" } : MethodName) ∈ zz_ws := zz_in (List.mem_of_getElem? (i := 554) (by decide +kernel)) rfl
theorem zw_555 : Cond.selects "RequestGate$User" ({ cls := "RequestGate$User", name := "isOfOldScheme", desc := "()Z" } : MethodName) ({ cls := "RequestGate$User", name := "isOfOldScheme", desc := "()Z" } : MethodName) ∈ zz_ws := zz_in (List.mem_of_getElem? (i := 555) (by decide +kernel)) rfl
theorem zw_556 : Cond.code ({ cls := "RequestGate$User", name := "isOfOldScheme", desc := "()Z" } : MethodName) prog_12_method_4_code (1 : Nat) (Option.some FieldType.boolean) ∈ zz_ws := zz_in (List.mem_of_getElem? (i := 556) (by decide +kernel)) rfl
theorem zw_557 : Cond.methodLink "RequestGate" (163 : Nat) ({ cls := "RequestGate$User", name := "moveToNewScheme", desc := "(II)V" } : MethodName) ∈ zz_ws := zz_in (List.mem_of_getElem? (i := 557) (by decide +kernel)) rfl
theorem zw_558 : Cond.instanceMethod ({ cls := "RequestGate$User", name := "moveToNewScheme", desc := "(II)V" } : MethodName) ∈ zz_ws := zz_in (List.mem_of_getElem? (i := 558) (by decide +kernel)) rfl
theorem zw_559 : Cond.selects "RequestGate$User" ({ cls := "RequestGate$User", name := "moveToNewScheme", desc := "(II)V" } : MethodName) ({ cls := "RequestGate$User", name := "moveToNewScheme", desc := "(II)V" } : MethodName) ∈ zz_ws := zz_in (List.mem_of_getElem? (i := 559) (by decide +kernel)) rfl
theorem zw_560 : Cond.code ({ cls := "RequestGate$User", name := "moveToNewScheme", desc := "(II)V" } : MethodName) prog_12_method_5_code (3 : Nat) (none : Option FieldType) ∈ zz_ws := zz_in (List.mem_of_getElem? (i := 560) (by decide +kernel)) rfl
theorem zw_561 : Cond.methodLink "RequestGate" (167 : Nat) ({ cls := "RequestGate$Tickets", name := "end", desc := "(I)V" } : MethodName) ∈ zz_ws := zz_in (List.mem_of_getElem? (i := 561) (by decide +kernel)) rfl
theorem zw_562 : Cond.instanceMethod ({ cls := "RequestGate$Tickets", name := "end", desc := "(I)V" } : MethodName) ∈ zz_ws := zz_in (List.mem_of_getElem? (i := 562) (by decide +kernel)) rfl
theorem zw_563 : Cond.selects "RequestGate$Tickets" ({ cls := "RequestGate$Tickets", name := "end", desc := "(I)V" } : MethodName) ({ cls := "RequestGate$Tickets", name := "end", desc := "(I)V" } : MethodName) ∈ zz_ws := zz_in (List.mem_of_getElem? (i := 563) (by decide +kernel)) rfl
theorem zw_564 : Cond.code ({ cls := "RequestGate$Tickets", name := "end", desc := "(I)V" } : MethodName) prog_11_method_5_code (3 : Nat) (none : Option FieldType) ∈ zz_ws := zz_in (List.mem_of_getElem? (i := 564) (by decide +kernel)) rfl
theorem zw_565 : Cond.methodLink "RequestGate" (170 : Nat) ({ cls := "RequestGate", name := "make", desc := "(LRequestGate$Tickets;IZ)I" } : MethodName) ∈ zz_ws := zz_in (List.mem_of_getElem? (i := 565) (by decide +kernel)) rfl
theorem zw_567 : Cond.instanceMethod ({ cls := "RequestGate", name := "make", desc := "(LRequestGate$Tickets;IZ)I" } : MethodName) ∈ zz_ws := zz_in (List.mem_of_getElem? (i := 567) (by decide +kernel)) rfl
theorem zw_568 : Cond.code ({ cls := "RequestGate", name := "make", desc := "(LRequestGate$Tickets;IZ)I" } : MethodName) prog_1_method_28_code (6 : Nat) (Option.some FieldType.int) ∈ zz_ws := zz_in (List.mem_of_getElem? (i := 568) (by decide +kernel)) rfl
theorem zw_569 : Cond.classLink "RequestGate" (179 : Nat) "RequestGate$Ticket" ∈ zz_ws := zz_in (List.mem_of_getElem? (i := 569) (by decide +kernel)) rfl
theorem zw_570 : Cond.instantiable "RequestGate$Ticket" (6 : Nat) ∈ zz_ws := zz_in (List.mem_of_getElem? (i := 570) (by decide +kernel)) rfl
theorem zw_571 : Cond.methodLink "RequestGate" (259 : Nat) ({ cls := "RequestGate$Ticket", name := "<init>", desc := "(IIIZI)V" } : MethodName) ∈ zz_ws := zz_in (List.mem_of_getElem? (i := 571) (by decide +kernel)) rfl
theorem zw_572 : Cond.instanceMethod ({ cls := "RequestGate$Ticket", name := "<init>", desc := "(IIIZI)V" } : MethodName) ∈ zz_ws := zz_in (List.mem_of_getElem? (i := 572) (by decide +kernel)) rfl
theorem zw_573 : Cond.code ({ cls := "RequestGate$Ticket", name := "<init>", desc := "(IIIZI)V" } : MethodName) prog_10_method_1_code (6 : Nat) (none : Option FieldType) ∈ zz_ws := zz_in (List.mem_of_getElem? (i := 573) (by decide +kernel)) rfl
theorem zw_574 : Cond.methodLink "RequestGate$Ticket" (1 : Nat) ({ cls := "java/lang/Object", name := "<init>", desc := "()V" } : MethodName) ∈ zz_ws := zz_in (List.mem_of_getElem? (i := 574) (by decide +kernel)) rfl
theorem zw_575 : Cond.fieldLink "RequestGate$Ticket" (7 : Nat) "RequestGate$Ticket" "user" "I" ∈ zz_ws := zz_in (List.mem_of_getElem? (i := 575) (by decide +kernel)) rfl
theorem zw_576 : Cond.fieldLink "RequestGate$Tickets" (30 : Nat) "RequestGate$Ticket" "user" "I" ∈ zz_ws := zz_in (List.mem_of_getElem? (i := 576) (by decide +kernel)) rfl
theorem zw_577 : Cond.fieldLink "RequestGate" (178 : Nat) "RequestGate$Ticket" "user" "I" ∈ zz_ws := zz_in (List.mem_of_getElem? (i := 577) (by decide +kernel)) rfl
theorem zw_578 : Cond.fieldLink "RequestGate$Ticket" (13 : Nat) "RequestGate$Ticket" "id" "I" ∈ zz_ws := zz_in (List.mem_of_getElem? (i := 578) (by decide +kernel)) rfl
theorem zw_579 : Cond.fieldLink "RequestGate$Tickets" (26 : Nat) "RequestGate$Ticket" "id" "I" ∈ zz_ws := zz_in (List.mem_of_getElem? (i := 579) (by decide +kernel)) rfl
theorem zw_580 : Cond.fieldLink "RequestGate" (241 : Nat) "RequestGate$Ticket" "id" "I" ∈ zz_ws := zz_in (List.mem_of_getElem? (i := 580) (by decide +kernel)) rfl
theorem zw_581 : Cond.fieldLink "RequestGate$Ticket" (16 : Nat) "RequestGate$Ticket" "token" "I" ∈ zz_ws := zz_in (List.mem_of_getElem? (i := 581) (by decide +kernel)) rfl
theorem zw_582 : Cond.fieldLink "RequestGate" (201 : Nat) "RequestGate$Ticket" "token" "I" ∈ zz_ws := zz_in (List.mem_of_getElem? (i := 582) (by decide +kernel)) rfl
theorem zw_583 : Cond.fieldLink "RequestGate$Ticket" (19 : Nat) "RequestGate$Ticket" "remembered" "Z" ∈ zz_ws := zz_in (List.mem_of_getElem? (i := 583) (by decide +kernel)) rfl
theorem zw_584 : Cond.fieldLink "RequestGate" (244 : Nat) "RequestGate$Ticket" "remembered" "Z" ∈ zz_ws := zz_in (List.mem_of_getElem? (i := 584) (by decide +kernel)) rfl
theorem zw_585 : Cond.fieldLink "RequestGate$Ticket" (23 : Nat) "RequestGate$Ticket" "made" "I" ∈ zz_ws := zz_in (List.mem_of_getElem? (i := 585) (by decide +kernel)) rfl
theorem zw_586 : Cond.fieldLink "RequestGate$Ticket" (26 : Nat) "RequestGate$Ticket" "lastUsed" "I" ∈ zz_ws := zz_in (List.mem_of_getElem? (i := 586) (by decide +kernel)) rfl
theorem zw_587 : Cond.fieldLink "RequestGate$Tickets" (37 : Nat) "RequestGate$Ticket" "lastUsed" "I" ∈ zz_ws := zz_in (List.mem_of_getElem? (i := 587) (by decide +kernel)) rfl
theorem zw_588 : Cond.fieldLink "RequestGate" (265 : Nat) "RequestGate$Ticket" "lastUsed" "I" ∈ zz_ws := zz_in (List.mem_of_getElem? (i := 588) (by decide +kernel)) rfl
theorem zw_589 : Cond.laysFinal "RequestGate$Ticket" "RequestGate$Ticket" "user" "I" ∈ zz_ws := zz_in (List.mem_of_getElem? (i := 589) (by decide +kernel)) rfl
theorem zw_591 : Cond.laysFinal "RequestGate$Ticket" "RequestGate$Ticket" "id" "I" ∈ zz_ws := zz_in (List.mem_of_getElem? (i := 591) (by decide +kernel)) rfl
theorem zw_593 : Cond.lays "RequestGate$Ticket" "RequestGate$Ticket" "token" "I" ∈ zz_ws := zz_in (List.mem_of_getElem? (i := 593) (by decide +kernel)) rfl
theorem zw_595 : Cond.laysFinal "RequestGate$Ticket" "RequestGate$Ticket" "remembered" "Z" ∈ zz_ws := zz_in (List.mem_of_getElem? (i := 595) (by decide +kernel)) rfl
theorem zw_597 : Cond.laysFinal "RequestGate$Ticket" "RequestGate$Ticket" "made" "I" ∈ zz_ws := zz_in (List.mem_of_getElem? (i := 597) (by decide +kernel)) rfl
theorem zw_599 : Cond.lays "RequestGate$Ticket" "RequestGate$Ticket" "lastUsed" "I" ∈ zz_ws := zz_in (List.mem_of_getElem? (i := 599) (by decide +kernel)) rfl
theorem zw_602 : Cond.methodLink "RequestGate" (262 : Nat) ({ cls := "RequestGate$Tickets", name := "add", desc := "(LRequestGate$Ticket;)V" } : MethodName) ∈ zz_ws := zz_in (List.mem_of_getElem? (i := 602) (by decide +kernel)) rfl
theorem zw_603 : Cond.instanceMethod ({ cls := "RequestGate$Tickets", name := "add", desc := "(LRequestGate$Ticket;)V" } : MethodName) ∈ zz_ws := zz_in (List.mem_of_getElem? (i := 603) (by decide +kernel)) rfl
theorem zw_604 : Cond.selects "RequestGate$Tickets" ({ cls := "RequestGate$Tickets", name := "add", desc := "(LRequestGate$Ticket;)V" } : MethodName) ({ cls := "RequestGate$Tickets", name := "add", desc := "(LRequestGate$Ticket;)V" } : MethodName) ∈ zz_ws := zz_in (List.mem_of_getElem? (i := 604) (by decide +kernel)) rfl
theorem zw_605 : Cond.code ({ cls := "RequestGate$Tickets", name := "add", desc := "(LRequestGate$Ticket;)V" } : MethodName) prog_11_method_4_code (4 : Nat) (none : Option FieldType) ∈ zz_ws := zz_in (List.mem_of_getElem? (i := 605) (by decide +kernel)) rfl
theorem zw_606 : Cond.methodLink "RequestGate$Tickets" (33 : Nat) ({ cls := "RequestGate$Tickets", name := "findOf", desc := "(II)LRequestGate$Ticket;" } : MethodName) ∈ zz_ws := zz_in (List.mem_of_getElem? (i := 606) (by decide +kernel)) rfl
theorem zw_607 : Cond.instanceMethod ({ cls := "RequestGate$Tickets", name := "findOf", desc := "(II)LRequestGate$Ticket;" } : MethodName) ∈ zz_ws := zz_in (List.mem_of_getElem? (i := 607) (by decide +kernel)) rfl
theorem zw_608 : Cond.selects "RequestGate$Tickets" ({ cls := "RequestGate$Tickets", name := "findOf", desc := "(II)LRequestGate$Ticket;" } : MethodName) ({ cls := "RequestGate$Tickets", name := "findOf", desc := "(II)LRequestGate$Ticket;" } : MethodName) ∈ zz_ws := zz_in (List.mem_of_getElem? (i := 608) (by decide +kernel)) rfl
theorem zw_609 : Cond.code ({ cls := "RequestGate$Tickets", name := "findOf", desc := "(II)LRequestGate$Ticket;" } : MethodName) prog_11_method_3_code (6 : Nat) (Option.some (FieldType.object "RequestGate$Ticket")) ∈ zz_ws := zz_in (List.mem_of_getElem? (i := 609) (by decide +kernel)) rfl
theorem zw_610 : Cond.methodLink "RequestGate$Tickets" (40 : Nat) ({ cls := "RequestGate$Tickets", name := "end", desc := "(I)V" } : MethodName) ∈ zz_ws := zz_in (List.mem_of_getElem? (i := 610) (by decide +kernel)) rfl
theorem zw_611 : Cond.methodLink "RequestGate$Tickets" (44 : Nat) ({ cls := "java/util/ArrayList", name := "add", desc := "(Ljava/lang/Object;)Z" } : MethodName) ∈ zz_ws := zz_in (List.mem_of_getElem? (i := 611) (by decide +kernel)) rfl
theorem zw_612 : Cond.methodLink "RequestGateLaw" (59 : Nat) ({ cls := "RequestGate", name := "logout", desc := "(I)Z" } : MethodName) ∈ zz_ws := zz_in (List.mem_of_getElem? (i := 612) (by decide +kernel)) rfl
theorem zw_613 : Cond.instanceMethod ({ cls := "RequestGate", name := "logout", desc := "(I)Z" } : MethodName) ∈ zz_ws := zz_in (List.mem_of_getElem? (i := 613) (by decide +kernel)) rfl
theorem zw_614 : Cond.selects "RequestGate" ({ cls := "RequestGate", name := "logout", desc := "(I)Z" } : MethodName) ({ cls := "RequestGate", name := "logout", desc := "(I)Z" } : MethodName) ∈ zz_ws := zz_in (List.mem_of_getElem? (i := 614) (by decide +kernel)) rfl
theorem zw_615 : Cond.code ({ cls := "RequestGate", name := "logout", desc := "(I)Z" } : MethodName) prog_1_method_12_code (3 : Nat) (Option.some FieldType.boolean) ∈ zz_ws := zz_in (List.mem_of_getElem? (i := 615) (by decide +kernel)) rfl
theorem zw_616 : Cond.methodLink "RequestGate" (174 : Nat) ({ cls := "RequestGate$Tickets", name := "find", desc := "(I)LRequestGate$Ticket;" } : MethodName) ∈ zz_ws := zz_in (List.mem_of_getElem? (i := 616) (by decide +kernel)) rfl
theorem zw_617 : Cond.instanceMethod ({ cls := "RequestGate$Tickets", name := "find", desc := "(I)LRequestGate$Ticket;" } : MethodName) ∈ zz_ws := zz_in (List.mem_of_getElem? (i := 617) (by decide +kernel)) rfl
theorem zw_618 : Cond.selects "RequestGate$Tickets" ({ cls := "RequestGate$Tickets", name := "find", desc := "(I)LRequestGate$Ticket;" } : MethodName) ({ cls := "RequestGate$Tickets", name := "find", desc := "(I)LRequestGate$Ticket;" } : MethodName) ∈ zz_ws := zz_in (List.mem_of_getElem? (i := 618) (by decide +kernel)) rfl
theorem zw_619 : Cond.code ({ cls := "RequestGate$Tickets", name := "find", desc := "(I)LRequestGate$Ticket;" } : MethodName) prog_11_method_2_code (4 : Nat) (Option.some (FieldType.object "RequestGate$Ticket")) ∈ zz_ws := zz_in (List.mem_of_getElem? (i := 619) (by decide +kernel)) rfl
theorem zw_620 : Cond.methodLink "RequestGate" (183 : Nat) ({ cls := "RequestGate$Tickets", name := "endAllOf", desc := "(I)V" } : MethodName) ∈ zz_ws := zz_in (List.mem_of_getElem? (i := 620) (by decide +kernel)) rfl
theorem zw_621 : Cond.instanceMethod ({ cls := "RequestGate$Tickets", name := "endAllOf", desc := "(I)V" } : MethodName) ∈ zz_ws := zz_in (List.mem_of_getElem? (i := 621) (by decide +kernel)) rfl
theorem zw_622 : Cond.selects "RequestGate$Tickets" ({ cls := "RequestGate$Tickets", name := "endAllOf", desc := "(I)V" } : MethodName) ({ cls := "RequestGate$Tickets", name := "endAllOf", desc := "(I)V" } : MethodName) ∈ zz_ws := zz_in (List.mem_of_getElem? (i := 622) (by decide +kernel)) rfl
theorem zw_623 : Cond.code ({ cls := "RequestGate$Tickets", name := "endAllOf", desc := "(I)V" } : MethodName) prog_11_method_6_code (3 : Nat) (none : Option FieldType) ∈ zz_ws := zz_in (List.mem_of_getElem? (i := 623) (by decide +kernel)) rfl
theorem zw_624 : Cond.methodLink "RequestGateLaw" (63 : Nat) ({ cls := "RequestGate", name := "open", desc := "(IIIII)I" } : MethodName) ∈ zz_ws := zz_in (List.mem_of_getElem? (i := 624) (by decide +kernel)) rfl
theorem zw_625 : Cond.instanceMethod ({ cls := "RequestGate", name := "open", desc := "(IIIII)I" } : MethodName) ∈ zz_ws := zz_in (List.mem_of_getElem? (i := 625) (by decide +kernel)) rfl
theorem zw_626 : Cond.selects "RequestGate" ({ cls := "RequestGate", name := "open", desc := "(IIIII)I" } : MethodName) ({ cls := "RequestGate", name := "open", desc := "(IIIII)I" } : MethodName) ∈ zz_ws := zz_in (List.mem_of_getElem? (i := 626) (by decide +kernel)) rfl
theorem zw_627 : Cond.code ({ cls := "RequestGate", name := "open", desc := "(IIIII)I" } : MethodName) prog_1_method_13_code (10 : Nat) (Option.some FieldType.int) ∈ zz_ws := zz_in (List.mem_of_getElem? (i := 627) (by decide +kernel)) rfl
theorem zw_628 : Cond.methodLink "RequestGate" (190 : Nat) ({ cls := "RequestGate$PlainPath", name := "read", desc := "(LRequestGate$Text;)Z" } : MethodName) ∈ zz_ws := zz_in (List.mem_of_getElem? (i := 628) (by decide +kernel)) rfl
theorem zw_629 : Cond.instanceMethod ({ cls := "RequestGate$PlainPath", name := "read", desc := "(LRequestGate$Text;)Z" } : MethodName) ∈ zz_ws := zz_in (List.mem_of_getElem? (i := 629) (by decide +kernel)) rfl
theorem zw_630 : Cond.selects "RequestGate$PlainPath" ({ cls := "RequestGate$PlainPath", name := "read", desc := "(LRequestGate$Text;)Z" } : MethodName) ({ cls := "RequestGate$PlainPath", name := "read", desc := "(LRequestGate$Text;)Z" } : MethodName) ∈ zz_ws := zz_in (List.mem_of_getElem? (i := 630) (by decide +kernel)) rfl
theorem zw_631 : Cond.code ({ cls := "RequestGate$PlainPath", name := "read", desc := "(LRequestGate$Text;)Z" } : MethodName) prog_5_method_2_code (5 : Nat) (Option.some FieldType.boolean) ∈ zz_ws := zz_in (List.mem_of_getElem? (i := 631) (by decide +kernel)) rfl
theorem zw_632 : Cond.methodLink "RequestGate$PlainPath" (18 : Nat) ({ cls := "RequestGate$Pieces", name := "empty", desc := "()V" } : MethodName) ∈ zz_ws := zz_in (List.mem_of_getElem? (i := 632) (by decide +kernel)) rfl
theorem zw_633 : Cond.instanceMethod ({ cls := "RequestGate$Pieces", name := "empty", desc := "()V" } : MethodName) ∈ zz_ws := zz_in (List.mem_of_getElem? (i := 633) (by decide +kernel)) rfl
theorem zw_634 : Cond.selects "RequestGate$Pieces" ({ cls := "RequestGate$Pieces", name := "empty", desc := "()V" } : MethodName) ({ cls := "RequestGate$Pieces", name := "empty", desc := "()V" } : MethodName) ∈ zz_ws := zz_in (List.mem_of_getElem? (i := 634) (by decide +kernel)) rfl
theorem zw_635 : Cond.code ({ cls := "RequestGate$Pieces", name := "empty", desc := "()V" } : MethodName) prog_4_method_2_code (1 : Nat) (none : Option FieldType) ∈ zz_ws := zz_in (List.mem_of_getElem? (i := 635) (by decide +kernel)) rfl
theorem zw_636 : Cond.methodLink "RequestGate$PlainPath" (21 : Nat) ({ cls := "RequestGate$Text", name := "at", desc := "(I)C" } : MethodName) ∈ zz_ws := zz_in (List.mem_of_getElem? (i := 636) (by decide +kernel)) rfl
theorem zw_637 : Cond.methodLink "RequestGate$PlainPath" (27 : Nat) ({ cls := "RequestGate$Text", name := "holds", desc := "(C)Z" } : MethodName) ∈ zz_ws := zz_in (List.mem_of_getElem? (i := 637) (by decide +kernel)) rfl
theorem zw_638 : Cond.methodLink "RequestGate$PlainPath" (35 : Nat) ({ cls := "RequestGate$Text", name := "endsPieceAt", desc := "(I)Z" } : MethodName) ∈ zz_ws := zz_in (List.mem_of_getElem? (i := 638) (by decide +kernel)) rfl
theorem zw_639 : Cond.methodLink "RequestGate$PlainPath" (39 : Nat) ({ cls := "RequestGate$Text", name := "find", desc := "(CII)I" } : MethodName) ∈ zz_ws := zz_in (List.mem_of_getElem? (i := 639) (by decide +kernel)) rfl
theorem zw_640 : Cond.methodLink "RequestGate$PlainPath" (43 : Nat) ({ cls := "RequestGate$PlainPath", name := "decode", desc := "(LRequestGate$Text;II)Z" } : MethodName) ∈ zz_ws := zz_in (List.mem_of_getElem? (i := 640) (by decide +kernel)) rfl
theorem zw_642 : Cond.instanceMethod ({ cls := "RequestGate$PlainPath", name := "decode", desc := "(LRequestGate$Text;II)Z" } : MethodName) ∈ zz_ws := zz_in (List.mem_of_getElem? (i := 642) (by decide +kernel)) rfl
theorem zw_643 : Cond.code ({ cls := "RequestGate$PlainPath", name := "decode", desc := "(LRequestGate$Text;II)Z" } : MethodName) prog_5_method_3_code (6 : Nat) (Option.some FieldType.boolean) ∈ zz_ws := zz_in (List.mem_of_getElem? (i := 643) (by decide +kernel)) rfl
theorem zw_644 : Cond.methodLink "RequestGate$PlainPath" (51 : Nat) ({ cls := "RequestGate$PlainPath", name := "codeOf", desc := "(CC)I" } : MethodName) ∈ zz_ws := zz_in (List.mem_of_getElem? (i := 644) (by decide +kernel)) rfl
theorem zw_645 : Cond.static ({ cls := "RequestGate$PlainPath", name := "codeOf", desc := "(CC)I" } : MethodName) ∈ zz_ws := zz_in (List.mem_of_getElem? (i := 645) (by decide +kernel)) rfl
theorem zw_646 : Cond.code ({ cls := "RequestGate$PlainPath", name := "codeOf", desc := "(CC)I" } : MethodName) prog_5_method_4_code (6 : Nat) (Option.some FieldType.int) ∈ zz_ws := zz_in (List.mem_of_getElem? (i := 646) (by decide +kernel)) rfl
theorem zw_647 : Cond.methodLink "RequestGate$PlainPath" (59 : Nat) ({ cls := "RequestGate$PlainPath", name := "digitOf", desc := "(C)I" } : MethodName) ∈ zz_ws := zz_in (List.mem_of_getElem? (i := 647) (by decide +kernel)) rfl
theorem zw_648 : Cond.static ({ cls := "RequestGate$PlainPath", name := "digitOf", desc := "(C)I" } : MethodName) ∈ zz_ws := zz_in (List.mem_of_getElem? (i := 648) (by decide +kernel)) rfl
theorem zw_649 : Cond.code ({ cls := "RequestGate$PlainPath", name := "digitOf", desc := "(C)I" } : MethodName) prog_5_method_5_code (1 : Nat) (Option.some FieldType.int) ∈ zz_ws := zz_in (List.mem_of_getElem? (i := 649) (by decide +kernel)) rfl
theorem zw_650 : Cond.methodLink "RequestGate$PlainPath" (63 : Nat) ({ cls := "RequestGate$Text", name := "isCode", desc := "(I)Z" } : MethodName) ∈ zz_ws := zz_in (List.mem_of_getElem? (i := 650) (by decide +kernel)) rfl
theorem zw_651 : Cond.methodLink "RequestGate$PlainPath" (55 : Nat) ({ cls := "RequestGate$Pieces", name := "write", desc := "(I)V" } : MethodName) ∈ zz_ws := zz_in (List.mem_of_getElem? (i := 651) (by decide +kernel)) rfl
theorem zw_652 : Cond.methodLink "RequestGate$PlainPath" (47 : Nat) ({ cls := "RequestGate$PlainPath", name := "place", desc := "(Z)Z" } : MethodName) ∈ zz_ws := zz_in (List.mem_of_getElem? (i := 652) (by decide +kernel)) rfl
theorem zw_654 : Cond.instanceMethod ({ cls := "RequestGate$PlainPath", name := "place", desc := "(Z)Z" } : MethodName) ∈ zz_ws := zz_in (List.mem_of_getElem? (i := 654) (by decide +kernel)) rfl
theorem zw_655 : Cond.code ({ cls := "RequestGate$PlainPath", name := "place", desc := "(Z)Z" } : MethodName) prog_5_method_6_code (3 : Nat) (Option.some FieldType.boolean) ∈ zz_ws := zz_in (List.mem_of_getElem? (i := 655) (by decide +kernel)) rfl
theorem zw_656 : Cond.methodLink "RequestGate$PlainPath" (66 : Nat) ({ cls := "RequestGate$Pieces", name := "writtenLength", desc := "()I" } : MethodName) ∈ zz_ws := zz_in (List.mem_of_getElem? (i := 656) (by decide +kernel)) rfl
theorem zw_657 : Cond.instanceMethod ({ cls := "RequestGate$Pieces", name := "writtenLength", desc := "()I" } : MethodName) ∈ zz_ws := zz_in (List.mem_of_getElem? (i := 657) (by decide +kernel)) rfl
theorem zw_658 : Cond.selects "RequestGate$Pieces" ({ cls := "RequestGate$Pieces", name := "writtenLength", desc := "()I" } : MethodName) ({ cls := "RequestGate$Pieces", name := "writtenLength", desc := "()I" } : MethodName) ∈ zz_ws := zz_in (List.mem_of_getElem? (i := 658) (by decide +kernel)) rfl
theorem zw_659 : Cond.code ({ cls := "RequestGate$Pieces", name := "writtenLength", desc := "()I" } : MethodName) prog_4_method_4_code (1 : Nat) (Option.some FieldType.int) ∈ zz_ws := zz_in (List.mem_of_getElem? (i := 659) (by decide +kernel)) rfl
theorem zw_660 : Cond.methodLink "RequestGate$PlainPath" (70 : Nat) ({ cls := "RequestGate$Pieces", name := "wroteDots", desc := "(I)Z" } : MethodName) ∈ zz_ws := zz_in (List.mem_of_getElem? (i := 660) (by decide +kernel)) rfl
theorem zw_661 : Cond.instanceMethod ({ cls := "RequestGate$Pieces", name := "wroteDots", desc := "(I)Z" } : MethodName) ∈ zz_ws := zz_in (List.mem_of_getElem? (i := 661) (by decide +kernel)) rfl
theorem zw_662 : Cond.selects "RequestGate$Pieces" ({ cls := "RequestGate$Pieces", name := "wroteDots", desc := "(I)Z" } : MethodName) ({ cls := "RequestGate$Pieces", name := "wroteDots", desc := "(I)Z" } : MethodName) ∈ zz_ws := zz_in (List.mem_of_getElem? (i := 662) (by decide +kernel)) rfl
theorem zw_663 : Cond.code ({ cls := "RequestGate$Pieces", name := "wroteDots", desc := "(I)Z" } : MethodName) prog_4_method_5_code (3 : Nat) (Option.some FieldType.boolean) ∈ zz_ws := zz_in (List.mem_of_getElem? (i := 663) (by decide +kernel)) rfl
theorem zw_664 : Cond.methodLink "RequestGate$Pieces" (32 : Nat) ({ cls := "RequestGate$Pieces", name := "writtenLength", desc := "()I" } : MethodName) ∈ zz_ws := zz_in (List.mem_of_getElem? (i := 664) (by decide +kernel)) rfl
theorem zw_665 : Cond.methodLink "RequestGate$PlainPath" (73 : Nat) ({ cls := "RequestGate$Pieces", name := "dropWritten", desc := "()V" } : MethodName) ∈ zz_ws := zz_in (List.mem_of_getElem? (i := 665) (by decide +kernel)) rfl
theorem zw_666 : Cond.instanceMethod ({ cls := "RequestGate$Pieces", name := "dropWritten", desc := "()V" } : MethodName) ∈ zz_ws := zz_in (List.mem_of_getElem? (i := 666) (by decide +kernel)) rfl
theorem zw_667 : Cond.selects "RequestGate$Pieces" ({ cls := "RequestGate$Pieces", name := "dropWritten", desc := "()V" } : MethodName) ({ cls := "RequestGate$Pieces", name := "dropWritten", desc := "()V" } : MethodName) ∈ zz_ws := zz_in (List.mem_of_getElem? (i := 667) (by decide +kernel)) rfl
theorem zw_668 : Cond.code ({ cls := "RequestGate$Pieces", name := "dropWritten", desc := "()V" } : MethodName) prog_4_method_7_code (1 : Nat) (none : Option FieldType) ∈ zz_ws := zz_in (List.mem_of_getElem? (i := 668) (by decide +kernel)) rfl
theorem zw_669 : Cond.methodLink "RequestGate$PlainPath" (79 : Nat) ({ cls := "RequestGate$Pieces", name := "dropLastKept", desc := "()V" } : MethodName) ∈ zz_ws := zz_in (List.mem_of_getElem? (i := 669) (by decide +kernel)) rfl
theorem zw_670 : Cond.instanceMethod ({ cls := "RequestGate$Pieces", name := "dropLastKept", desc := "()V" } : MethodName) ∈ zz_ws := zz_in (List.mem_of_getElem? (i := 670) (by decide +kernel)) rfl
theorem zw_671 : Cond.selects "RequestGate$Pieces" ({ cls := "RequestGate$Pieces", name := "dropLastKept", desc := "()V" } : MethodName) ({ cls := "RequestGate$Pieces", name := "dropLastKept", desc := "()V" } : MethodName) ∈ zz_ws := zz_in (List.mem_of_getElem? (i := 671) (by decide +kernel)) rfl
theorem zw_672 : Cond.code ({ cls := "RequestGate$Pieces", name := "dropLastKept", desc := "()V" } : MethodName) prog_4_method_8_code (1 : Nat) (none : Option FieldType) ∈ zz_ws := zz_in (List.mem_of_getElem? (i := 672) (by decide +kernel)) rfl
theorem zw_673 : Cond.methodLink "RequestGate$PlainPath" (82 : Nat) ({ cls := "RequestGate$Pieces", name := "keepWritten", desc := "()V" } : MethodName) ∈ zz_ws := zz_in (List.mem_of_getElem? (i := 673) (by decide +kernel)) rfl
theorem zw_674 : Cond.methodLink "RequestGate" (193 : Nat) ({ cls := "RequestGate", name := "subjectOf", desc := "(LRequestGate$Ticket;)I" } : MethodName) ∈ zz_ws := zz_in (List.mem_of_getElem? (i := 674) (by decide +kernel)) rfl
theorem zw_676 : Cond.instanceMethod ({ cls := "RequestGate", name := "subjectOf", desc := "(LRequestGate$Ticket;)I" } : MethodName) ∈ zz_ws := zz_in (List.mem_of_getElem? (i := 676) (by decide +kernel)) rfl
theorem zw_677 : Cond.code ({ cls := "RequestGate", name := "subjectOf", desc := "(LRequestGate$Ticket;)I" } : MethodName) prog_1_method_29_code (2 : Nat) (Option.some FieldType.int) ∈ zz_ws := zz_in (List.mem_of_getElem? (i := 677) (by decide +kernel)) rfl
theorem zw_678 : Cond.methodLink "RequestGate" (197 : Nat) ({ cls := "RequestGate", name := "subjectBySeries", desc := "(II)I" } : MethodName) ∈ zz_ws := zz_in (List.mem_of_getElem? (i := 678) (by decide +kernel)) rfl
theorem zw_680 : Cond.instanceMethod ({ cls := "RequestGate", name := "subjectBySeries", desc := "(II)I" } : MethodName) ∈ zz_ws := zz_in (List.mem_of_getElem? (i := 680) (by decide +kernel)) rfl
theorem zw_681 : Cond.code ({ cls := "RequestGate", name := "subjectBySeries", desc := "(II)I" } : MethodName) prog_1_method_30_code (4 : Nat) (Option.some FieldType.int) ∈ zz_ws := zz_in (List.mem_of_getElem? (i := 681) (by decide +kernel)) rfl
theorem zw_682 : Cond.methodLink "RequestGate" (204 : Nat) ({ cls := "RequestGate", name := "decide", desc := "(II)I" } : MethodName) ∈ zz_ws := zz_in (List.mem_of_getElem? (i := 682) (by decide +kernel)) rfl
theorem zw_684 : Cond.instanceMethod ({ cls := "RequestGate", name := "decide", desc := "(II)I" } : MethodName) ∈ zz_ws := zz_in (List.mem_of_getElem? (i := 684) (by decide +kernel)) rfl
theorem zw_685 : Cond.code ({ cls := "RequestGate", name := "decide", desc := "(II)I" } : MethodName) prog_1_method_31_code (4 : Nat) (Option.some FieldType.int) ∈ zz_ws := zz_in (List.mem_of_getElem? (i := 685) (by decide +kernel)) rfl
theorem zw_686 : Cond.methodLink "RequestGate" (268 : Nat) ({ cls := "RequestGate", name := "firstRuleThatFits", desc := "(I)I" } : MethodName) ∈ zz_ws := zz_in (List.mem_of_getElem? (i := 686) (by decide +kernel)) rfl
theorem zw_688 : Cond.instanceMethod ({ cls := "RequestGate", name := "firstRuleThatFits", desc := "(I)I" } : MethodName) ∈ zz_ws := zz_in (List.mem_of_getElem? (i := 688) (by decide +kernel)) rfl
theorem zw_689 : Cond.code ({ cls := "RequestGate", name := "firstRuleThatFits", desc := "(I)I" } : MethodName) prog_1_method_32_code (4 : Nat) (Option.some FieldType.int) ∈ zz_ws := zz_in (List.mem_of_getElem? (i := 689) (by decide +kernel)) rfl
theorem zw_690 : Cond.methodLink "RequestGate" (279 : Nat) ({ cls := "RequestGate$Rule", name := "isFor", desc := "(I)Z" } : MethodName) ∈ zz_ws := zz_in (List.mem_of_getElem? (i := 690) (by decide +kernel)) rfl
theorem zw_691 : Cond.instanceMethod ({ cls := "RequestGate$Rule", name := "isFor", desc := "(I)Z" } : MethodName) ∈ zz_ws := zz_in (List.mem_of_getElem? (i := 691) (by decide +kernel)) rfl
theorem zw_692 : Cond.selects "RequestGate$Rule" ({ cls := "RequestGate$Rule", name := "isFor", desc := "(I)Z" } : MethodName) ({ cls := "RequestGate$Rule", name := "isFor", desc := "(I)Z" } : MethodName) ∈ zz_ws := zz_in (List.mem_of_getElem? (i := 692) (by decide +kernel)) rfl
theorem zw_693 : Cond.code ({ cls := "RequestGate$Rule", name := "isFor", desc := "(I)Z" } : MethodName) prog_7_method_2_code (2 : Nat) (Option.some FieldType.boolean) ∈ zz_ws := zz_in (List.mem_of_getElem? (i := 693) (by decide +kernel)) rfl
theorem zw_694 : Cond.methodLink "RequestGate" (233 : Nat) ({ cls := "RequestGate$Layer", name := "canLay", desc := "(LRequestGate$Pieces;LRequestGate$Pieces;)Z" } : MethodName) ∈ zz_ws := zz_in (List.mem_of_getElem? (i := 694) (by decide +kernel)) rfl
theorem zw_695 : Cond.instanceMethod ({ cls := "RequestGate$Layer", name := "canLay", desc := "(LRequestGate$Pieces;LRequestGate$Pieces;)Z" } : MethodName) ∈ zz_ws := zz_in (List.mem_of_getElem? (i := 695) (by decide +kernel)) rfl
theorem zw_696 : Cond.selects "RequestGate$Layer" ({ cls := "RequestGate$Layer", name := "canLay", desc := "(LRequestGate$Pieces;LRequestGate$Pieces;)Z" } : MethodName) ({ cls := "RequestGate$Layer", name := "canLay", desc := "(LRequestGate$Pieces;LRequestGate$Pieces;)Z" } : MethodName) ∈ zz_ws := zz_in (List.mem_of_getElem? (i := 696) (by decide +kernel)) rfl
theorem zw_697 : Cond.code ({ cls := "RequestGate$Layer", name := "canLay", desc := "(LRequestGate$Pieces;LRequestGate$Pieces;)Z" } : MethodName) prog_3_method_2_code (4 : Nat) (Option.some FieldType.boolean) ∈ zz_ws := zz_in (List.mem_of_getElem? (i := 697) (by decide +kernel)) rfl
theorem zw_698 : Cond.methodLink "RequestGate$Layer" (18 : Nat) ({ cls := "RequestGate$Layer", name := "begin", desc := "([Z)V" } : MethodName) ∈ zz_ws := zz_in (List.mem_of_getElem? (i := 698) (by decide +kernel)) rfl
theorem zw_699 : Cond.static ({ cls := "RequestGate$Layer", name := "begin", desc := "([Z)V" } : MethodName) ∈ zz_ws := zz_in (List.mem_of_getElem? (i := 699) (by decide +kernel)) rfl
theorem zw_700 : Cond.code ({ cls := "RequestGate$Layer", name := "begin", desc := "([Z)V" } : MethodName) prog_3_method_5_code (2 : Nat) (none : Option FieldType) ∈ zz_ws := zz_in (List.mem_of_getElem? (i := 700) (by decide +kernel)) rfl
theorem zw_701 : Cond.methodLink "RequestGate$Layer" (28 : Nat) ({ cls := "RequestGate$Pieces", name := "isTwoStars", desc := "(I)Z" } : MethodName) ∈ zz_ws := zz_in (List.mem_of_getElem? (i := 701) (by decide +kernel)) rfl
theorem zw_702 : Cond.instanceMethod ({ cls := "RequestGate$Pieces", name := "isTwoStars", desc := "(I)Z" } : MethodName) ∈ zz_ws := zz_in (List.mem_of_getElem? (i := 702) (by decide +kernel)) rfl
theorem zw_703 : Cond.selects "RequestGate$Pieces" ({ cls := "RequestGate$Pieces", name := "isTwoStars", desc := "(I)Z" } : MethodName) ({ cls := "RequestGate$Pieces", name := "isTwoStars", desc := "(I)Z" } : MethodName) ∈ zz_ws := zz_in (List.mem_of_getElem? (i := 703) (by decide +kernel)) rfl
theorem zw_704 : Cond.code ({ cls := "RequestGate$Pieces", name := "isTwoStars", desc := "(I)Z" } : MethodName) prog_4_method_11_code (2 : Nat) (Option.some FieldType.boolean) ∈ zz_ws := zz_in (List.mem_of_getElem? (i := 704) (by decide +kernel)) rfl
theorem zw_705 : Cond.methodLink "RequestGate$Pieces" (36 : Nat) ({ cls := "RequestGate$Pieces", name := "lengthOf", desc := "(I)I" } : MethodName) ∈ zz_ws := zz_in (List.mem_of_getElem? (i := 705) (by decide +kernel)) rfl
theorem zw_706 : Cond.instanceMethod ({ cls := "RequestGate$Pieces", name := "lengthOf", desc := "(I)I" } : MethodName) ∈ zz_ws := zz_in (List.mem_of_getElem? (i := 706) (by decide +kernel)) rfl
theorem zw_707 : Cond.selects "RequestGate$Pieces" ({ cls := "RequestGate$Pieces", name := "lengthOf", desc := "(I)I" } : MethodName) ({ cls := "RequestGate$Pieces", name := "lengthOf", desc := "(I)I" } : MethodName) ∈ zz_ws := zz_in (List.mem_of_getElem? (i := 707) (by decide +kernel)) rfl
theorem zw_708 : Cond.code ({ cls := "RequestGate$Pieces", name := "lengthOf", desc := "(I)I" } : MethodName) prog_4_method_9_code (2 : Nat) (Option.some FieldType.int) ∈ zz_ws := zz_in (List.mem_of_getElem? (i := 708) (by decide +kernel)) rfl
theorem zw_709 : Cond.methodLink "RequestGate$Pieces" (40 : Nat) ({ cls := "RequestGate$Pieces", name := "at", desc := "(II)C" } : MethodName) ∈ zz_ws := zz_in (List.mem_of_getElem? (i := 709) (by decide +kernel)) rfl
theorem zw_710 : Cond.instanceMethod ({ cls := "RequestGate$Pieces", name := "at", desc := "(II)C" } : MethodName) ∈ zz_ws := zz_in (List.mem_of_getElem? (i := 710) (by decide +kernel)) rfl
theorem zw_711 : Cond.selects "RequestGate$Pieces" ({ cls := "RequestGate$Pieces", name := "at", desc := "(II)C" } : MethodName) ({ cls := "RequestGate$Pieces", name := "at", desc := "(II)C" } : MethodName) ∈ zz_ws := zz_in (List.mem_of_getElem? (i := 711) (by decide +kernel)) rfl
theorem zw_712 : Cond.code ({ cls := "RequestGate$Pieces", name := "at", desc := "(II)C" } : MethodName) prog_4_method_10_code (3 : Nat) (Option.some FieldType.char) ∈ zz_ws := zz_in (List.mem_of_getElem? (i := 712) (by decide +kernel)) rfl
theorem zw_713 : Cond.methodLink "RequestGate$Layer" (32 : Nat) ({ cls := "RequestGate$Layer", name := "spread", desc := "([Z)V" } : MethodName) ∈ zz_ws := zz_in (List.mem_of_getElem? (i := 713) (by decide +kernel)) rfl
theorem zw_714 : Cond.static ({ cls := "RequestGate$Layer", name := "spread", desc := "([Z)V" } : MethodName) ∈ zz_ws := zz_in (List.mem_of_getElem? (i := 714) (by decide +kernel)) rfl
theorem zw_715 : Cond.code ({ cls := "RequestGate$Layer", name := "spread", desc := "([Z)V" } : MethodName) prog_3_method_6_code (2 : Nat) (none : Option FieldType) ∈ zz_ws := zz_in (List.mem_of_getElem? (i := 715) (by decide +kernel)) rfl
theorem zw_716 : Cond.methodLink "RequestGate$Layer" (35 : Nat) ({ cls := "RequestGate$Layer", name := "layOnOne", desc := "(LRequestGate$Pieces;ILRequestGate$Pieces;)V" } : MethodName) ∈ zz_ws := zz_in (List.mem_of_getElem? (i := 716) (by decide +kernel)) rfl
theorem zw_718 : Cond.instanceMethod ({ cls := "RequestGate$Layer", name := "layOnOne", desc := "(LRequestGate$Pieces;ILRequestGate$Pieces;)V" } : MethodName) ∈ zz_ws := zz_in (List.mem_of_getElem? (i := 718) (by decide +kernel)) rfl
theorem zw_719 : Cond.code ({ cls := "RequestGate$Layer", name := "layOnOne", desc := "(LRequestGate$Pieces;ILRequestGate$Pieces;)V" } : MethodName) prog_3_method_3_code (5 : Nat) (none : Option FieldType) ∈ zz_ws := zz_in (List.mem_of_getElem? (i := 719) (by decide +kernel)) rfl
theorem zw_720 : Cond.methodLink "RequestGate$Layer" (39 : Nat) ({ cls := "RequestGate$Layer", name := "covers", desc := "(LRequestGate$Pieces;ILRequestGate$Pieces;I)Z" } : MethodName) ∈ zz_ws := zz_in (List.mem_of_getElem? (i := 720) (by decide +kernel)) rfl
theorem zw_722 : Cond.instanceMethod ({ cls := "RequestGate$Layer", name := "covers", desc := "(LRequestGate$Pieces;ILRequestGate$Pieces;I)Z" } : MethodName) ∈ zz_ws := zz_in (List.mem_of_getElem? (i := 722) (by decide +kernel)) rfl
theorem zw_723 : Cond.code ({ cls := "RequestGate$Layer", name := "covers", desc := "(LRequestGate$Pieces;ILRequestGate$Pieces;I)Z" } : MethodName) prog_3_method_4_code (9 : Nat) (Option.some FieldType.boolean) ∈ zz_ws := zz_in (List.mem_of_getElem? (i := 723) (by decide +kernel)) rfl
theorem zw_724 : Cond.methodLink "RequestGate$Layer" (43 : Nat) ({ cls := "RequestGate$Pieces", name := "lengthOf", desc := "(I)I" } : MethodName) ∈ zz_ws := zz_in (List.mem_of_getElem? (i := 724) (by decide +kernel)) rfl
theorem zw_725 : Cond.methodLink "RequestGate$Layer" (47 : Nat) ({ cls := "RequestGate$Pieces", name := "at", desc := "(II)C" } : MethodName) ∈ zz_ws := zz_in (List.mem_of_getElem? (i := 725) (by decide +kernel)) rfl
theorem zw_726 : Cond.methodLink "RequestGate" (216 : Nat) ({ cls := "RequestGate", name := "isTrue", desc := "(III)Z" } : MethodName) ∈ zz_ws := zz_in (List.mem_of_getElem? (i := 726) (by decide +kernel)) rfl
theorem zw_728 : Cond.instanceMethod ({ cls := "RequestGate", name := "isTrue", desc := "(III)Z" } : MethodName) ∈ zz_ws := zz_in (List.mem_of_getElem? (i := 728) (by decide +kernel)) rfl
theorem zw_729 : Cond.code ({ cls := "RequestGate", name := "isTrue", desc := "(III)Z" } : MethodName) prog_1_method_33_code (6 : Nat) (Option.some FieldType.boolean) ∈ zz_ws := zz_in (List.mem_of_getElem? (i := 729) (by decide +kernel)) rfl
theorem zw_730 : Cond.methodLink "RequestGate" (285 : Nat) ({ cls := "RequestGate$Roles", name := "includedIn", desc := "(I)I" } : MethodName) ∈ zz_ws := zz_in (List.mem_of_getElem? (i := 730) (by decide +kernel)) rfl
theorem zw_731 : Cond.instanceMethod ({ cls := "RequestGate$Roles", name := "includedIn", desc := "(I)I" } : MethodName) ∈ zz_ws := zz_in (List.mem_of_getElem? (i := 731) (by decide +kernel)) rfl
theorem zw_732 : Cond.selects "RequestGate$Roles" ({ cls := "RequestGate$Roles", name := "includedIn", desc := "(I)I" } : MethodName) ({ cls := "RequestGate$Roles", name := "includedIn", desc := "(I)I" } : MethodName) ∈ zz_ws := zz_in (List.mem_of_getElem? (i := 732) (by decide +kernel)) rfl
theorem zw_733 : Cond.code ({ cls := "RequestGate$Roles", name := "includedIn", desc := "(I)I" } : MethodName) prog_6_method_5_code (4 : Nat) (Option.some FieldType.int) ∈ zz_ws := zz_in (List.mem_of_getElem? (i := 733) (by decide +kernel)) rfl
theorem zw_734 : Cond.methodLink "RequestGate" (288 : Nat) ({ cls := "RequestGate$Conditions", name := "isTrueFor", desc := "(IIII)Z" } : MethodName) ∈ zz_ws := zz_in (List.mem_of_getElem? (i := 734) (by decide +kernel)) rfl
theorem zw_735 : Cond.instanceMethod ({ cls := "RequestGate$Conditions", name := "isTrueFor", desc := "(IIII)Z" } : MethodName) ∈ zz_ws := zz_in (List.mem_of_getElem? (i := 735) (by decide +kernel)) rfl
theorem zw_736 : Cond.selects "RequestGate$Conditions" ({ cls := "RequestGate$Conditions", name := "isTrueFor", desc := "(IIII)Z" } : MethodName) ({ cls := "RequestGate$Conditions", name := "isTrueFor", desc := "(IIII)Z" } : MethodName) ∈ zz_ws := zz_in (List.mem_of_getElem? (i := 736) (by decide +kernel)) rfl
theorem zw_737 : Cond.code ({ cls := "RequestGate$Conditions", name := "isTrueFor", desc := "(IIII)Z" } : MethodName) prog_2_method_5_code (7 : Nat) (Option.some FieldType.boolean) ∈ zz_ws := zz_in (List.mem_of_getElem? (i := 737) (by decide +kernel)) rfl
theorem zw_738 : Cond.methodLink "RequestGate$Conditions" (41 : Nat) ({ cls := "RequestGate$Conditions", name := "jointValue", desc := "(I)I" } : MethodName) ∈ zz_ws := zz_in (List.mem_of_getElem? (i := 738) (by decide +kernel)) rfl
theorem zw_740 : Cond.instanceMethod ({ cls := "RequestGate$Conditions", name := "jointValue", desc := "(I)I" } : MethodName) ∈ zz_ws := zz_in (List.mem_of_getElem? (i := 740) (by decide +kernel)) rfl
theorem zw_741 : Cond.code ({ cls := "RequestGate$Conditions", name := "jointValue", desc := "(I)I" } : MethodName) prog_2_method_6_code (4 : Nat) (Option.some FieldType.int) ∈ zz_ws := zz_in (List.mem_of_getElem? (i := 741) (by decide +kernel)) rfl
theorem zw_742 : Cond.methodLink "RequestGate$Conditions" (49 : Nat) ({ cls := "RequestGate$Conditions", name := "truth", desc := "(Z)I" } : MethodName) ∈ zz_ws := zz_in (List.mem_of_getElem? (i := 742) (by decide +kernel)) rfl
theorem zw_743 : Cond.static ({ cls := "RequestGate$Conditions", name := "truth", desc := "(Z)I" } : MethodName) ∈ zz_ws := zz_in (List.mem_of_getElem? (i := 743) (by decide +kernel)) rfl
theorem zw_744 : Cond.code ({ cls := "RequestGate$Conditions", name := "truth", desc := "(Z)I" } : MethodName) prog_2_method_8_code (1 : Nat) (Option.some FieldType.int) ∈ zz_ws := zz_in (List.mem_of_getElem? (i := 744) (by decide +kernel)) rfl
theorem zw_745 : Cond.methodLink "RequestGate$Conditions" (45 : Nat) ({ cls := "RequestGate$Conditions", name := "singleValue", desc := "(IIII)I" } : MethodName) ∈ zz_ws := zz_in (List.mem_of_getElem? (i := 745) (by decide +kernel)) rfl
theorem zw_747 : Cond.instanceMethod ({ cls := "RequestGate$Conditions", name := "singleValue", desc := "(IIII)I" } : MethodName) ∈ zz_ws := zz_in (List.mem_of_getElem? (i := 747) (by decide +kernel)) rfl
theorem zw_748 : Cond.code ({ cls := "RequestGate$Conditions", name := "singleValue", desc := "(IIII)I" } : MethodName) prog_2_method_7_code (7 : Nat) (Option.some FieldType.int) ∈ zz_ws := zz_in (List.mem_of_getElem? (i := 748) (by decide +kernel)) rfl
theorem zw_749 : Cond.methodLink "RequestGate$Conditions" (53 : Nat) ({ cls := "RequestGate$Roles", name := "contains", desc := "(II)Z" } : MethodName) ∈ zz_ws := zz_in (List.mem_of_getElem? (i := 749) (by decide +kernel)) rfl
theorem zw_750 : Cond.methodLink "RequestGateLaw" (68 : Nat) ({ cls := "RequestGate", name := "call", desc := "(III)I" } : MethodName) ∈ zz_ws := zz_in (List.mem_of_getElem? (i := 750) (by decide +kernel)) rfl
theorem zw_751 : Cond.instanceMethod ({ cls := "RequestGate", name := "call", desc := "(III)I" } : MethodName) ∈ zz_ws := zz_in (List.mem_of_getElem? (i := 751) (by decide +kernel)) rfl
theorem zw_752 : Cond.selects "RequestGate" ({ cls := "RequestGate", name := "call", desc := "(III)I" } : MethodName) ({ cls := "RequestGate", name := "call", desc := "(III)I" } : MethodName) ∈ zz_ws := zz_in (List.mem_of_getElem? (i := 752) (by decide +kernel)) rfl
theorem zw_753 : Cond.code ({ cls := "RequestGate", name := "call", desc := "(III)I" } : MethodName) prog_1_method_14_code (6 : Nat) (Option.some FieldType.int) ∈ zz_ws := zz_in (List.mem_of_getElem? (i := 753) (by decide +kernel)) rfl
theorem zw_754 : Cond.methodLink "RequestGate" (207 : Nat) ({ cls := "RequestGate", name := "typeThatDeclares", desc := "(II)I" } : MethodName) ∈ zz_ws := zz_in (List.mem_of_getElem? (i := 754) (by decide +kernel)) rfl
theorem zw_756 : Cond.instanceMethod ({ cls := "RequestGate", name := "typeThatDeclares", desc := "(II)I" } : MethodName) ∈ zz_ws := zz_in (List.mem_of_getElem? (i := 756) (by decide +kernel)) rfl
theorem zw_757 : Cond.code ({ cls := "RequestGate", name := "typeThatDeclares", desc := "(II)I" } : MethodName) prog_1_method_34_code (6 : Nat) (Option.some FieldType.int) ∈ zz_ws := zz_in (List.mem_of_getElem? (i := 757) (by decide +kernel)) rfl
theorem zw_758 : Cond.methodLink "RequestGate" (292 : Nat) ({ cls := "RequestGate$Service", name := "declares", desc := "(I)Z" } : MethodName) ∈ zz_ws := zz_in (List.mem_of_getElem? (i := 758) (by decide +kernel)) rfl
theorem zw_759 : Cond.instanceMethod ({ cls := "RequestGate$Service", name := "declares", desc := "(I)Z" } : MethodName) ∈ zz_ws := zz_in (List.mem_of_getElem? (i := 759) (by decide +kernel)) rfl
theorem zw_760 : Cond.selects "RequestGate$Service" ({ cls := "RequestGate$Service", name := "declares", desc := "(I)Z" } : MethodName) ({ cls := "RequestGate$Service", name := "declares", desc := "(I)Z" } : MethodName) ∈ zz_ws := zz_in (List.mem_of_getElem? (i := 760) (by decide +kernel)) rfl
theorem zw_761 : Cond.code ({ cls := "RequestGate$Service", name := "declares", desc := "(I)Z" } : MethodName) prog_8_method_2_code (2 : Nat) (Option.some FieldType.boolean) ∈ zz_ws := zz_in (List.mem_of_getElem? (i := 761) (by decide +kernel)) rfl
theorem zw_762 : Cond.methodLink "RequestGate" (210 : Nat) ({ cls := "RequestGate", name := "conditionAt", desc := "(II)I" } : MethodName) ∈ zz_ws := zz_in (List.mem_of_getElem? (i := 762) (by decide +kernel)) rfl
theorem zw_764 : Cond.instanceMethod ({ cls := "RequestGate", name := "conditionAt", desc := "(II)I" } : MethodName) ∈ zz_ws := zz_in (List.mem_of_getElem? (i := 764) (by decide +kernel)) rfl
theorem zw_765 : Cond.code ({ cls := "RequestGate", name := "conditionAt", desc := "(II)I" } : MethodName) prog_1_method_36_code (3 : Nat) (Option.some FieldType.int) ∈ zz_ws := zz_in (List.mem_of_getElem? (i := 765) (by decide +kernel)) rfl
theorem zw_766 : Cond.methodLink "RequestGate" (301 : Nat) ({ cls := "RequestGate$Service", name := "conditionOf", desc := "(I)I" } : MethodName) ∈ zz_ws := zz_in (List.mem_of_getElem? (i := 766) (by decide +kernel)) rfl
theorem zw_767 : Cond.instanceMethod ({ cls := "RequestGate$Service", name := "conditionOf", desc := "(I)I" } : MethodName) ∈ zz_ws := zz_in (List.mem_of_getElem? (i := 767) (by decide +kernel)) rfl
theorem zw_768 : Cond.selects "RequestGate$Service" ({ cls := "RequestGate$Service", name := "conditionOf", desc := "(I)I" } : MethodName) ({ cls := "RequestGate$Service", name := "conditionOf", desc := "(I)I" } : MethodName) ∈ zz_ws := zz_in (List.mem_of_getElem? (i := 768) (by decide +kernel)) rfl
theorem zw_769 : Cond.code ({ cls := "RequestGate$Service", name := "conditionOf", desc := "(I)I" } : MethodName) prog_8_method_4_code (2 : Nat) (Option.some FieldType.int) ∈ zz_ws := zz_in (List.mem_of_getElem? (i := 769) (by decide +kernel)) rfl
theorem zw_770 : Cond.methodLink "RequestGate$Service" (33 : Nat) ({ cls := "RequestGate$Service", name := "declares", desc := "(I)Z" } : MethodName) ∈ zz_ws := zz_in (List.mem_of_getElem? (i := 770) (by decide +kernel)) rfl
theorem zw_771 : Cond.methodLink "RequestGate" (213 : Nat) ({ cls := "RequestGate", name := "conditionByInterfaces", desc := "(II)I" } : MethodName) ∈ zz_ws := zz_in (List.mem_of_getElem? (i := 771) (by decide +kernel)) rfl
theorem zw_773 : Cond.instanceMethod ({ cls := "RequestGate", name := "conditionByInterfaces", desc := "(II)I" } : MethodName) ∈ zz_ws := zz_in (List.mem_of_getElem? (i := 773) (by decide +kernel)) rfl
theorem zw_774 : Cond.code ({ cls := "RequestGate", name := "conditionByInterfaces", desc := "(II)I" } : MethodName) prog_1_method_35_code (7 : Nat) (Option.some FieldType.int) ∈ zz_ws := zz_in (List.mem_of_getElem? (i := 774) (by decide +kernel)) rfl
theorem zw_775 : Cond.methodLink "RequestGateLaw" (72 : Nat) ({ cls := "RequestGate", name := "close", desc := "()Z" } : MethodName) ∈ zz_ws := zz_in (List.mem_of_getElem? (i := 775) (by decide +kernel)) rfl
theorem zw_776 : Cond.instanceMethod ({ cls := "RequestGate", name := "close", desc := "()Z" } : MethodName) ∈ zz_ws := zz_in (List.mem_of_getElem? (i := 776) (by decide +kernel)) rfl
theorem zw_777 : Cond.selects "RequestGate" ({ cls := "RequestGate", name := "close", desc := "()Z" } : MethodName) ({ cls := "RequestGate", name := "close", desc := "()Z" } : MethodName) ∈ zz_ws := zz_in (List.mem_of_getElem? (i := 777) (by decide +kernel)) rfl
theorem zw_778 : Cond.code ({ cls := "RequestGate", name := "close", desc := "()Z" } : MethodName) prog_1_method_15_code (1 : Nat) (Option.some FieldType.boolean) ∈ zz_ws := zz_in (List.mem_of_getElem? (i := 778) (by decide +kernel)) rfl
theorem zw_779 : Cond.methodLink "RequestGateLaw" (77 : Nat) ({ cls := "RequestGate", name := "who", desc := "()I" } : MethodName) ∈ zz_ws := zz_in (List.mem_of_getElem? (i := 779) (by decide +kernel)) rfl
theorem zw_780 : Cond.instanceMethod ({ cls := "RequestGate", name := "who", desc := "()I" } : MethodName) ∈ zz_ws := zz_in (List.mem_of_getElem? (i := 780) (by decide +kernel)) rfl
theorem zw_781 : Cond.selects "RequestGate" ({ cls := "RequestGate", name := "who", desc := "()I" } : MethodName) ({ cls := "RequestGate", name := "who", desc := "()I" } : MethodName) ∈ zz_ws := zz_in (List.mem_of_getElem? (i := 781) (by decide +kernel)) rfl
theorem zw_782 : Cond.code ({ cls := "RequestGate", name := "who", desc := "()I" } : MethodName) prog_1_method_16_code (1 : Nat) (Option.some FieldType.int) ∈ zz_ws := zz_in (List.mem_of_getElem? (i := 782) (by decide +kernel)) rfl
theorem zw_783 : Cond.methodLink "RequestGateLaw" (82 : Nat) ({ cls := "RequestGate", name := "fits", desc := "(I)I" } : MethodName) ∈ zz_ws := zz_in (List.mem_of_getElem? (i := 783) (by decide +kernel)) rfl
theorem zw_784 : Cond.instanceMethod ({ cls := "RequestGate", name := "fits", desc := "(I)I" } : MethodName) ∈ zz_ws := zz_in (List.mem_of_getElem? (i := 784) (by decide +kernel)) rfl
theorem zw_785 : Cond.selects "RequestGate" ({ cls := "RequestGate", name := "fits", desc := "(I)I" } : MethodName) ({ cls := "RequestGate", name := "fits", desc := "(I)I" } : MethodName) ∈ zz_ws := zz_in (List.mem_of_getElem? (i := 785) (by decide +kernel)) rfl
theorem zw_786 : Cond.code ({ cls := "RequestGate", name := "fits", desc := "(I)I" } : MethodName) prog_1_method_17_code (2 : Nat) (Option.some FieldType.int) ∈ zz_ws := zz_in (List.mem_of_getElem? (i := 786) (by decide +kernel)) rfl
theorem zw_787 : Cond.methodLink "RequestGateLaw" (87 : Nat) ({ cls := "RequestGate", name := "session", desc := "(III)I" } : MethodName) ∈ zz_ws := zz_in (List.mem_of_getElem? (i := 787) (by decide +kernel)) rfl
theorem zw_788 : Cond.instanceMethod ({ cls := "RequestGate", name := "session", desc := "(III)I" } : MethodName) ∈ zz_ws := zz_in (List.mem_of_getElem? (i := 788) (by decide +kernel)) rfl
theorem zw_789 : Cond.selects "RequestGate" ({ cls := "RequestGate", name := "session", desc := "(III)I" } : MethodName) ({ cls := "RequestGate", name := "session", desc := "(III)I" } : MethodName) ∈ zz_ws := zz_in (List.mem_of_getElem? (i := 789) (by decide +kernel)) rfl
theorem zw_790 : Cond.code ({ cls := "RequestGate", name := "session", desc := "(III)I" } : MethodName) prog_1_method_18_code (5 : Nat) (Option.some FieldType.int) ∈ zz_ws := zz_in (List.mem_of_getElem? (i := 790) (by decide +kernel)) rfl
theorem zw_791 : Cond.methodLink "RequestGate" (237 : Nat) ({ cls := "RequestGate$Tickets", name := "findOf", desc := "(II)LRequestGate$Ticket;" } : MethodName) ∈ zz_ws := zz_in (List.mem_of_getElem? (i := 791) (by decide +kernel)) rfl
theorem zw_792 : Cond.methodLink "RequestGateLaw" (91 : Nat) ({ cls := "RequestGate", name := "series", desc := "(III)I" } : MethodName) ∈ zz_ws := zz_in (List.mem_of_getElem? (i := 792) (by decide +kernel)) rfl
theorem zw_793 : Cond.instanceMethod ({ cls := "RequestGate", name := "series", desc := "(III)I" } : MethodName) ∈ zz_ws := zz_in (List.mem_of_getElem? (i := 793) (by decide +kernel)) rfl
theorem zw_794 : Cond.selects "RequestGate" ({ cls := "RequestGate", name := "series", desc := "(III)I" } : MethodName) ({ cls := "RequestGate", name := "series", desc := "(III)I" } : MethodName) ∈ zz_ws := zz_in (List.mem_of_getElem? (i := 794) (by decide +kernel)) rfl
theorem zw_795 : Cond.code ({ cls := "RequestGate", name := "series", desc := "(III)I" } : MethodName) prog_1_method_19_code (5 : Nat) (Option.some FieldType.int) ∈ zz_ws := zz_in (List.mem_of_getElem? (i := 795) (by decide +kernel)) rfl
theorem zw_796 : Cond.methodLink "RequestGateLaw" (95 : Nat) ({ cls := "RequestGate", name := "hash", desc := "(I)I" } : MethodName) ∈ zz_ws := zz_in (List.mem_of_getElem? (i := 796) (by decide +kernel)) rfl
theorem zw_797 : Cond.instanceMethod ({ cls := "RequestGate", name := "hash", desc := "(I)I" } : MethodName) ∈ zz_ws := zz_in (List.mem_of_getElem? (i := 797) (by decide +kernel)) rfl
theorem zw_798 : Cond.selects "RequestGate" ({ cls := "RequestGate", name := "hash", desc := "(I)I" } : MethodName) ({ cls := "RequestGate", name := "hash", desc := "(I)I" } : MethodName) ∈ zz_ws := zz_in (List.mem_of_getElem? (i := 798) (by decide +kernel)) rfl
theorem zw_799 : Cond.code ({ cls := "RequestGate", name := "hash", desc := "(I)I" } : MethodName) prog_1_method_20_code (2 : Nat) (Option.some FieldType.int) ∈ zz_ws := zz_in (List.mem_of_getElem? (i := 799) (by decide +kernel)) rfl
theorem zw_800 : Cond.methodLink "RequestGateLaw" (99 : Nat) ({ cls := "RequestGate", name := "count", desc := "(I)I" } : MethodName) ∈ zz_ws := zz_in (List.mem_of_getElem? (i := 800) (by decide +kernel)) rfl
theorem zw_801 : Cond.instanceMethod ({ cls := "RequestGate", name := "count", desc := "(I)I" } : MethodName) ∈ zz_ws := zz_in (List.mem_of_getElem? (i := 801) (by decide +kernel)) rfl
theorem zw_802 : Cond.selects "RequestGate" ({ cls := "RequestGate", name := "count", desc := "(I)I" } : MethodName) ({ cls := "RequestGate", name := "count", desc := "(I)I" } : MethodName) ∈ zz_ws := zz_in (List.mem_of_getElem? (i := 802) (by decide +kernel)) rfl
theorem zw_803 : Cond.code ({ cls := "RequestGate", name := "count", desc := "(I)I" } : MethodName) prog_1_method_21_code (2 : Nat) (Option.some FieldType.int) ∈ zz_ws := zz_in (List.mem_of_getElem? (i := 803) (by decide +kernel)) rfl
theorem zw_804 : Cond.classLink "RequestGateLaw" (10 : Nat) "RequestGateModel" ∈ zz_ws := zz_in (List.mem_of_getElem? (i := 804) (by decide +kernel)) rfl
theorem zw_805 : Cond.instantiable "RequestGateModel" (56 : Nat) ∈ zz_ws := zz_in (List.mem_of_getElem? (i := 805) (by decide +kernel)) rfl
theorem zw_806 : Cond.methodLink "RequestGateLaw" (12 : Nat) ({ cls := "RequestGateModel", name := "<init>", desc := "()V" } : MethodName) ∈ zz_ws := zz_in (List.mem_of_getElem? (i := 806) (by decide +kernel)) rfl
theorem zw_807 : Cond.instanceMethod ({ cls := "RequestGateModel", name := "<init>", desc := "()V" } : MethodName) ∈ zz_ws := zz_in (List.mem_of_getElem? (i := 807) (by decide +kernel)) rfl
theorem zw_808 : Cond.code ({ cls := "RequestGateModel", name := "<init>", desc := "()V" } : MethodName) prog_14_method_1_code (1 : Nat) (none : Option FieldType) ∈ zz_ws := zz_in (List.mem_of_getElem? (i := 808) (by decide +kernel)) rfl
theorem zw_809 : Cond.methodLink "RequestGateModel" (1 : Nat) ({ cls := "java/lang/Object", name := "<init>", desc := "()V" } : MethodName) ∈ zz_ws := zz_in (List.mem_of_getElem? (i := 809) (by decide +kernel)) rfl
theorem zw_810 : Cond.fieldLink "RequestGateModel" (178 : Nat) "RequestGateModel" "drawn" "I" ∈ zz_ws := zz_in (List.mem_of_getElem? (i := 810) (by decide +kernel)) rfl
theorem zw_811 : Cond.fieldLink "RequestGateModel" (192 : Nat) "RequestGateModel" "time" "I" ∈ zz_ws := zz_in (List.mem_of_getElem? (i := 811) (by decide +kernel)) rfl
theorem zw_812 : Cond.fieldLink "RequestGateModel" (264 : Nat) "RequestGateModel" "opened" "I" ∈ zz_ws := zz_in (List.mem_of_getElem? (i := 812) (by decide +kernel)) rfl
theorem zw_813 : Cond.fieldLink "RequestGateModel" (234 : Nat) "RequestGateModel" "ran" "I" ∈ zz_ws := zz_in (List.mem_of_getElem? (i := 813) (by decide +kernel)) rfl
theorem zw_814 : Cond.fieldLink "RequestGateModel" (237 : Nat) "RequestGateModel" "kept" "I" ∈ zz_ws := zz_in (List.mem_of_getElem? (i := 814) (by decide +kernel)) rfl
theorem zw_815 : Cond.fieldLink "RequestGateModel" (249 : Nat) "RequestGateModel" "thefts" "I" ∈ zz_ws := zz_in (List.mem_of_getElem? (i := 815) (by decide +kernel)) rfl
theorem zw_816 : Cond.fieldLink "RequestGateModel" (201 : Nat) "RequestGateModel" "locks" "I" ∈ zz_ws := zz_in (List.mem_of_getElem? (i := 816) (by decide +kernel)) rfl
theorem zw_817 : Cond.fieldLink "RequestGateModel" (7 : Nat) "RequestGateModel" "added" "[I" ∈ zz_ws := zz_in (List.mem_of_getElem? (i := 817) (by decide +kernel)) rfl
theorem zw_818 : Cond.fieldLink "RequestGateModel" (181 : Nat) "RequestGateModel" "users" "I" ∈ zz_ws := zz_in (List.mem_of_getElem? (i := 818) (by decide +kernel)) rfl
theorem zw_819 : Cond.fieldLink "RequestGateModel" (13 : Nat) "RequestGateModel" "given" "[I" ∈ zz_ws := zz_in (List.mem_of_getElem? (i := 819) (by decide +kernel)) rfl
theorem zw_820 : Cond.fieldLink "RequestGateModel" (16 : Nat) "RequestGateModel" "scheme" "[I" ∈ zz_ws := zz_in (List.mem_of_getElem? (i := 820) (by decide +kernel)) rfl
theorem zw_821 : Cond.fieldLink "RequestGateModel" (19 : Nat) "RequestGateModel" "salt" "[I" ∈ zz_ws := zz_in (List.mem_of_getElem? (i := 821) (by decide +kernel)) rfl
theorem zw_822 : Cond.fieldLink "RequestGateModel" (22 : Nat) "RequestGateModel" "hash" "[I" ∈ zz_ws := zz_in (List.mem_of_getElem? (i := 822) (by decide +kernel)) rfl
theorem zw_823 : Cond.fieldLink "RequestGateModel" (25 : Nat) "RequestGateModel" "fails" "[I" ∈ zz_ws := zz_in (List.mem_of_getElem? (i := 823) (by decide +kernel)) rfl
theorem zw_824 : Cond.fieldLink "RequestGateModel" (28 : Nat) "RequestGateModel" "lockedTo" "[I" ∈ zz_ws := zz_in (List.mem_of_getElem? (i := 824) (by decide +kernel)) rfl
theorem zw_825 : Cond.fieldLink "RequestGateModel" (31 : Nat) "RequestGateModel" "made" "[Z" ∈ zz_ws := zz_in (List.mem_of_getElem? (i := 825) (by decide +kernel)) rfl
theorem zw_826 : Cond.fieldLink "RequestGateModel" (35 : Nat) "RequestGateModel" "sessionId" "[I" ∈ zz_ws := zz_in (List.mem_of_getElem? (i := 826) (by decide +kernel)) rfl
theorem zw_827 : Cond.fieldLink "RequestGateModel" (38 : Nat) "RequestGateModel" "sessionToken" "[I" ∈ zz_ws := zz_in (List.mem_of_getElem? (i := 827) (by decide +kernel)) rfl
theorem zw_828 : Cond.fieldLink "RequestGateModel" (41 : Nat) "RequestGateModel" "remembered" "[Z" ∈ zz_ws := zz_in (List.mem_of_getElem? (i := 828) (by decide +kernel)) rfl
theorem zw_829 : Cond.fieldLink "RequestGateModel" (44 : Nat) "RequestGateModel" "madeAt" "[I" ∈ zz_ws := zz_in (List.mem_of_getElem? (i := 829) (by decide +kernel)) rfl
theorem zw_830 : Cond.fieldLink "RequestGateModel" (47 : Nat) "RequestGateModel" "usedAt" "[I" ∈ zz_ws := zz_in (List.mem_of_getElem? (i := 830) (by decide +kernel)) rfl
theorem zw_831 : Cond.fieldLink "RequestGateModel" (50 : Nat) "RequestGateModel" "lasting" "[Z" ∈ zz_ws := zz_in (List.mem_of_getElem? (i := 831) (by decide +kernel)) rfl
theorem zw_832 : Cond.fieldLink "RequestGateModel" (53 : Nat) "RequestGateModel" "seriesId" "[I" ∈ zz_ws := zz_in (List.mem_of_getElem? (i := 832) (by decide +kernel)) rfl
theorem zw_833 : Cond.fieldLink "RequestGateModel" (56 : Nat) "RequestGateModel" "seriesToken" "[I" ∈ zz_ws := zz_in (List.mem_of_getElem? (i := 833) (by decide +kernel)) rfl
theorem zw_834 : Cond.fieldLink "RequestGateModel" (154 : Nat) "RequestGateModel" "expressions" "I" ∈ zz_ws := zz_in (List.mem_of_getElem? (i := 834) (by decide +kernel)) rfl
theorem zw_835 : Cond.fieldLink "RequestGateModel" (59 : Nat) "RequestGateModel" "op" "[I" ∈ zz_ws := zz_in (List.mem_of_getElem? (i := 835) (by decide +kernel)) rfl
theorem zw_836 : Cond.fieldLink "RequestGateModel" (62 : Nat) "RequestGateModel" "one" "[I" ∈ zz_ws := zz_in (List.mem_of_getElem? (i := 836) (by decide +kernel)) rfl
theorem zw_837 : Cond.fieldLink "RequestGateModel" (65 : Nat) "RequestGateModel" "two" "[I" ∈ zz_ws := zz_in (List.mem_of_getElem? (i := 837) (by decide +kernel)) rfl
theorem zw_838 : Cond.fieldLink "RequestGateModel" (68 : Nat) "RequestGateModel" "value" "[I" ∈ zz_ws := zz_in (List.mem_of_getElem? (i := 838) (by decide +kernel)) rfl
theorem zw_839 : Cond.fieldLink "RequestGateModel" (129 : Nat) "RequestGateModel" "size" "I" ∈ zz_ws := zz_in (List.mem_of_getElem? (i := 839) (by decide +kernel)) rfl
theorem zw_840 : Cond.fieldLink "RequestGateModel" (71 : Nat) "RequestGateModel" "buffer" "[I" ∈ zz_ws := zz_in (List.mem_of_getElem? (i := 840) (by decide +kernel)) rfl
theorem zw_841 : Cond.fieldLink "RequestGateModel" (74 : Nat) "RequestGateModel" "plain" "[I" ∈ zz_ws := zz_in (List.mem_of_getElem? (i := 841) (by decide +kernel)) rfl
theorem zw_842 : Cond.fieldLink "RequestGateModel" (77 : Nat) "RequestGateModel" "from" "[I" ∈ zz_ws := zz_in (List.mem_of_getElem? (i := 842) (by decide +kernel)) rfl
theorem zw_843 : Cond.fieldLink "RequestGateModel" (80 : Nat) "RequestGateModel" "to" "[I" ∈ zz_ws := zz_in (List.mem_of_getElem? (i := 843) (by decide +kernel)) rfl
theorem zw_844 : Cond.fieldLink "RequestGateModel" (83 : Nat) "RequestGateModel" "segment" "[I" ∈ zz_ws := zz_in (List.mem_of_getElem? (i := 844) (by decide +kernel)) rfl
theorem zw_845 : Cond.fieldLink "RequestGateModel" (143 : Nat) "RequestGateModel" "segments" "I" ∈ zz_ws := zz_in (List.mem_of_getElem? (i := 845) (by decide +kernel)) rfl
theorem zw_846 : Cond.fieldLink "RequestGateModel" (86 : Nat) "RequestGateModel" "here" "[Z" ∈ zz_ws := zz_in (List.mem_of_getElem? (i := 846) (by decide +kernel)) rfl
theorem zw_847 : Cond.fieldLink "RequestGateModel" (89 : Nat) "RequestGateModel" "next" "[Z" ∈ zz_ws := zz_in (List.mem_of_getElem? (i := 847) (by decide +kernel)) rfl
theorem zw_848 : Cond.fieldLink "RequestGateModel" (92 : Nat) "RequestGateModel" "mark" "[Z" ∈ zz_ws := zz_in (List.mem_of_getElem? (i := 848) (by decide +kernel)) rfl
theorem zw_849 : Cond.fieldLink "RequestGateModel" (95 : Nat) "RequestGateModel" "beyond" "[Z" ∈ zz_ws := zz_in (List.mem_of_getElem? (i := 849) (by decide +kernel)) rfl
theorem zw_850 : Cond.fieldLink "RequestGateModel" (171 : Nat) "RequestGateModel" "rules" "I" ∈ zz_ws := zz_in (List.mem_of_getElem? (i := 850) (by decide +kernel)) rfl
theorem zw_851 : Cond.fieldLink "RequestGateModel" (98 : Nat) "RequestGateModel" "text" "[I" ∈ zz_ws := zz_in (List.mem_of_getElem? (i := 851) (by decide +kernel)) rfl
theorem zw_852 : Cond.fieldLink "RequestGateModel" (101 : Nat) "RequestGateModel" "length" "[I" ∈ zz_ws := zz_in (List.mem_of_getElem? (i := 852) (by decide +kernel)) rfl
theorem zw_853 : Cond.fieldLink "RequestGateModel" (104 : Nat) "RequestGateModel" "condition" "[I" ∈ zz_ws := zz_in (List.mem_of_getElem? (i := 853) (by decide +kernel)) rfl
theorem zw_854 : Cond.fieldLink "RequestGateModel" (107 : Nat) "RequestGateModel" "methods" "[I" ∈ zz_ws := zz_in (List.mem_of_getElem? (i := 854) (by decide +kernel)) rfl
theorem zw_855 : Cond.fieldLink "RequestGateModel" (218 : Nat) "RequestGateModel" "types" "I" ∈ zz_ws := zz_in (List.mem_of_getElem? (i := 855) (by decide +kernel)) rfl
theorem zw_856 : Cond.fieldLink "RequestGateModel" (110 : Nat) "RequestGateModel" "parent" "[I" ∈ zz_ws := zz_in (List.mem_of_getElem? (i := 856) (by decide +kernel)) rfl
theorem zw_857 : Cond.fieldLink "RequestGateModel" (113 : Nat) "RequestGateModel" "face" "[I" ∈ zz_ws := zz_in (List.mem_of_getElem? (i := 857) (by decide +kernel)) rfl
theorem zw_858 : Cond.fieldLink "RequestGateModel" (116 : Nat) "RequestGateModel" "typeCondition" "[I" ∈ zz_ws := zz_in (List.mem_of_getElem? (i := 858) (by decide +kernel)) rfl
theorem zw_859 : Cond.fieldLink "RequestGateModel" (119 : Nat) "RequestGateModel" "declares" "[Z" ∈ zz_ws := zz_in (List.mem_of_getElem? (i := 859) (by decide +kernel)) rfl
theorem zw_860 : Cond.fieldLink "RequestGateModel" (122 : Nat) "RequestGateModel" "declared" "[I" ∈ zz_ws := zz_in (List.mem_of_getElem? (i := 860) (by decide +kernel)) rfl
theorem zw_861 : Cond.fieldLink "RequestGateModel" (252 : Nat) "RequestGateModel" "isOpen" "Z" ∈ zz_ws := zz_in (List.mem_of_getElem? (i := 861) (by decide +kernel)) rfl
theorem zw_862 : Cond.fieldLink "RequestGateModel" (125 : Nat) "RequestGateModel" "subject" "I" ∈ zz_ws := zz_in (List.mem_of_getElem? (i := 862) (by decide +kernel)) rfl
theorem zw_863 : Cond.fieldLink "RequestGateModel" (227 : Nat) "RequestGateModel" "subjectRemembered" "Z" ∈ zz_ws := zz_in (List.mem_of_getElem? (i := 863) (by decide +kernel)) rfl
theorem zw_864 : Cond.fieldLink "RequestGateModel" (240 : Nat) "RequestGateModel" "asker" "I" ∈ zz_ws := zz_in (List.mem_of_getElem? (i := 864) (by decide +kernel)) rfl
theorem zw_865 : Cond.fieldLink "RequestGateModel" (243 : Nat) "RequestGateModel" "askerRemembered" "Z" ∈ zz_ws := zz_in (List.mem_of_getElem? (i := 865) (by decide +kernel)) rfl
theorem zw_866 : Cond.lays "RequestGateModel" "RequestGateModel" "drawn" "I" ∈ zz_ws := zz_in (List.mem_of_getElem? (i := 866) (by decide +kernel)) rfl
theorem zw_868 : Cond.lays "RequestGateModel" "RequestGateModel" "time" "I" ∈ zz_ws := zz_in (List.mem_of_getElem? (i := 868) (by decide +kernel)) rfl
theorem zw_870 : Cond.lays "RequestGateModel" "RequestGateModel" "opened" "I" ∈ zz_ws := zz_in (List.mem_of_getElem? (i := 870) (by decide +kernel)) rfl
theorem zw_872 : Cond.lays "RequestGateModel" "RequestGateModel" "ran" "I" ∈ zz_ws := zz_in (List.mem_of_getElem? (i := 872) (by decide +kernel)) rfl
theorem zw_874 : Cond.lays "RequestGateModel" "RequestGateModel" "kept" "I" ∈ zz_ws := zz_in (List.mem_of_getElem? (i := 874) (by decide +kernel)) rfl
theorem zw_876 : Cond.lays "RequestGateModel" "RequestGateModel" "thefts" "I" ∈ zz_ws := zz_in (List.mem_of_getElem? (i := 876) (by decide +kernel)) rfl
theorem zw_878 : Cond.lays "RequestGateModel" "RequestGateModel" "locks" "I" ∈ zz_ws := zz_in (List.mem_of_getElem? (i := 878) (by decide +kernel)) rfl
theorem zw_880 : Cond.laysFinal "RequestGateModel" "RequestGateModel" "added" "[I" ∈ zz_ws := zz_in (List.mem_of_getElem? (i := 880) (by decide +kernel)) rfl
theorem zw_882 : Cond.lays "RequestGateModel" "RequestGateModel" "users" "I" ∈ zz_ws := zz_in (List.mem_of_getElem? (i := 882) (by decide +kernel)) rfl
theorem zw_884 : Cond.laysFinal "RequestGateModel" "RequestGateModel" "given" "[I" ∈ zz_ws := zz_in (List.mem_of_getElem? (i := 884) (by decide +kernel)) rfl
theorem zw_886 : Cond.laysFinal "RequestGateModel" "RequestGateModel" "scheme" "[I" ∈ zz_ws := zz_in (List.mem_of_getElem? (i := 886) (by decide +kernel)) rfl
theorem zw_888 : Cond.laysFinal "RequestGateModel" "RequestGateModel" "salt" "[I" ∈ zz_ws := zz_in (List.mem_of_getElem? (i := 888) (by decide +kernel)) rfl
theorem zw_890 : Cond.laysFinal "RequestGateModel" "RequestGateModel" "hash" "[I" ∈ zz_ws := zz_in (List.mem_of_getElem? (i := 890) (by decide +kernel)) rfl
theorem zw_892 : Cond.laysFinal "RequestGateModel" "RequestGateModel" "fails" "[I" ∈ zz_ws := zz_in (List.mem_of_getElem? (i := 892) (by decide +kernel)) rfl
theorem zw_894 : Cond.laysFinal "RequestGateModel" "RequestGateModel" "lockedTo" "[I" ∈ zz_ws := zz_in (List.mem_of_getElem? (i := 894) (by decide +kernel)) rfl
theorem zw_896 : Cond.laysFinal "RequestGateModel" "RequestGateModel" "made" "[Z" ∈ zz_ws := zz_in (List.mem_of_getElem? (i := 896) (by decide +kernel)) rfl
theorem zw_898 : Cond.laysFinal "RequestGateModel" "RequestGateModel" "sessionId" "[I" ∈ zz_ws := zz_in (List.mem_of_getElem? (i := 898) (by decide +kernel)) rfl
theorem zw_900 : Cond.laysFinal "RequestGateModel" "RequestGateModel" "sessionToken" "[I" ∈ zz_ws := zz_in (List.mem_of_getElem? (i := 900) (by decide +kernel)) rfl
theorem zw_902 : Cond.laysFinal "RequestGateModel" "RequestGateModel" "remembered" "[Z" ∈ zz_ws := zz_in (List.mem_of_getElem? (i := 902) (by decide +kernel)) rfl
theorem zw_904 : Cond.laysFinal "RequestGateModel" "RequestGateModel" "madeAt" "[I" ∈ zz_ws := zz_in (List.mem_of_getElem? (i := 904) (by decide +kernel)) rfl
theorem zw_906 : Cond.laysFinal "RequestGateModel" "RequestGateModel" "usedAt" "[I" ∈ zz_ws := zz_in (List.mem_of_getElem? (i := 906) (by decide +kernel)) rfl
theorem zw_908 : Cond.laysFinal "RequestGateModel" "RequestGateModel" "lasting" "[Z" ∈ zz_ws := zz_in (List.mem_of_getElem? (i := 908) (by decide +kernel)) rfl
theorem zw_910 : Cond.laysFinal "RequestGateModel" "RequestGateModel" "seriesId" "[I" ∈ zz_ws := zz_in (List.mem_of_getElem? (i := 910) (by decide +kernel)) rfl
theorem zw_912 : Cond.laysFinal "RequestGateModel" "RequestGateModel" "seriesToken" "[I" ∈ zz_ws := zz_in (List.mem_of_getElem? (i := 912) (by decide +kernel)) rfl
theorem zw_914 : Cond.lays "RequestGateModel" "RequestGateModel" "expressions" "I" ∈ zz_ws := zz_in (List.mem_of_getElem? (i := 914) (by decide +kernel)) rfl
theorem zw_916 : Cond.laysFinal "RequestGateModel" "RequestGateModel" "op" "[I" ∈ zz_ws := zz_in (List.mem_of_getElem? (i := 916) (by decide +kernel)) rfl
theorem zw_918 : Cond.laysFinal "RequestGateModel" "RequestGateModel" "one" "[I" ∈ zz_ws := zz_in (List.mem_of_getElem? (i := 918) (by decide +kernel)) rfl
theorem zw_920 : Cond.laysFinal "RequestGateModel" "RequestGateModel" "two" "[I" ∈ zz_ws := zz_in (List.mem_of_getElem? (i := 920) (by decide +kernel)) rfl
theorem zw_922 : Cond.laysFinal "RequestGateModel" "RequestGateModel" "value" "[I" ∈ zz_ws := zz_in (List.mem_of_getElem? (i := 922) (by decide +kernel)) rfl
theorem zw_924 : Cond.lays "RequestGateModel" "RequestGateModel" "size" "I" ∈ zz_ws := zz_in (List.mem_of_getElem? (i := 924) (by decide +kernel)) rfl
theorem zw_926 : Cond.laysFinal "RequestGateModel" "RequestGateModel" "buffer" "[I" ∈ zz_ws := zz_in (List.mem_of_getElem? (i := 926) (by decide +kernel)) rfl
theorem zw_928 : Cond.laysFinal "RequestGateModel" "RequestGateModel" "plain" "[I" ∈ zz_ws := zz_in (List.mem_of_getElem? (i := 928) (by decide +kernel)) rfl
theorem zw_930 : Cond.laysFinal "RequestGateModel" "RequestGateModel" "from" "[I" ∈ zz_ws := zz_in (List.mem_of_getElem? (i := 930) (by decide +kernel)) rfl
theorem zw_932 : Cond.laysFinal "RequestGateModel" "RequestGateModel" "to" "[I" ∈ zz_ws := zz_in (List.mem_of_getElem? (i := 932) (by decide +kernel)) rfl
theorem zw_934 : Cond.laysFinal "RequestGateModel" "RequestGateModel" "segment" "[I" ∈ zz_ws := zz_in (List.mem_of_getElem? (i := 934) (by decide +kernel)) rfl
theorem zw_936 : Cond.lays "RequestGateModel" "RequestGateModel" "segments" "I" ∈ zz_ws := zz_in (List.mem_of_getElem? (i := 936) (by decide +kernel)) rfl
theorem zw_938 : Cond.laysFinal "RequestGateModel" "RequestGateModel" "here" "[Z" ∈ zz_ws := zz_in (List.mem_of_getElem? (i := 938) (by decide +kernel)) rfl
theorem zw_940 : Cond.laysFinal "RequestGateModel" "RequestGateModel" "next" "[Z" ∈ zz_ws := zz_in (List.mem_of_getElem? (i := 940) (by decide +kernel)) rfl
theorem zw_942 : Cond.laysFinal "RequestGateModel" "RequestGateModel" "mark" "[Z" ∈ zz_ws := zz_in (List.mem_of_getElem? (i := 942) (by decide +kernel)) rfl
theorem zw_944 : Cond.laysFinal "RequestGateModel" "RequestGateModel" "beyond" "[Z" ∈ zz_ws := zz_in (List.mem_of_getElem? (i := 944) (by decide +kernel)) rfl
theorem zw_946 : Cond.lays "RequestGateModel" "RequestGateModel" "rules" "I" ∈ zz_ws := zz_in (List.mem_of_getElem? (i := 946) (by decide +kernel)) rfl
theorem zw_948 : Cond.laysFinal "RequestGateModel" "RequestGateModel" "text" "[I" ∈ zz_ws := zz_in (List.mem_of_getElem? (i := 948) (by decide +kernel)) rfl
theorem zw_950 : Cond.laysFinal "RequestGateModel" "RequestGateModel" "length" "[I" ∈ zz_ws := zz_in (List.mem_of_getElem? (i := 950) (by decide +kernel)) rfl
theorem zw_952 : Cond.laysFinal "RequestGateModel" "RequestGateModel" "condition" "[I" ∈ zz_ws := zz_in (List.mem_of_getElem? (i := 952) (by decide +kernel)) rfl
theorem zw_954 : Cond.laysFinal "RequestGateModel" "RequestGateModel" "methods" "[I" ∈ zz_ws := zz_in (List.mem_of_getElem? (i := 954) (by decide +kernel)) rfl
theorem zw_956 : Cond.lays "RequestGateModel" "RequestGateModel" "types" "I" ∈ zz_ws := zz_in (List.mem_of_getElem? (i := 956) (by decide +kernel)) rfl
theorem zw_958 : Cond.laysFinal "RequestGateModel" "RequestGateModel" "parent" "[I" ∈ zz_ws := zz_in (List.mem_of_getElem? (i := 958) (by decide +kernel)) rfl
theorem zw_960 : Cond.laysFinal "RequestGateModel" "RequestGateModel" "face" "[I" ∈ zz_ws := zz_in (List.mem_of_getElem? (i := 960) (by decide +kernel)) rfl
theorem zw_962 : Cond.laysFinal "RequestGateModel" "RequestGateModel" "typeCondition" "[I" ∈ zz_ws := zz_in (List.mem_of_getElem? (i := 962) (by decide +kernel)) rfl
theorem zw_964 : Cond.laysFinal "RequestGateModel" "RequestGateModel" "declares" "[Z" ∈ zz_ws := zz_in (List.mem_of_getElem? (i := 964) (by decide +kernel)) rfl
theorem zw_966 : Cond.laysFinal "RequestGateModel" "RequestGateModel" "declared" "[I" ∈ zz_ws := zz_in (List.mem_of_getElem? (i := 966) (by decide +kernel)) rfl
theorem zw_968 : Cond.lays "RequestGateModel" "RequestGateModel" "isOpen" "Z" ∈ zz_ws := zz_in (List.mem_of_getElem? (i := 968) (by decide +kernel)) rfl
theorem zw_970 : Cond.lays "RequestGateModel" "RequestGateModel" "subject" "I" ∈ zz_ws := zz_in (List.mem_of_getElem? (i := 970) (by decide +kernel)) rfl
theorem zw_972 : Cond.lays "RequestGateModel" "RequestGateModel" "subjectRemembered" "Z" ∈ zz_ws := zz_in (List.mem_of_getElem? (i := 972) (by decide +kernel)) rfl
theorem zw_974 : Cond.lays "RequestGateModel" "RequestGateModel" "asker" "I" ∈ zz_ws := zz_in (List.mem_of_getElem? (i := 974) (by decide +kernel)) rfl
theorem zw_976 : Cond.lays "RequestGateModel" "RequestGateModel" "askerRemembered" "Z" ∈ zz_ws := zz_in (List.mem_of_getElem? (i := 976) (by decide +kernel)) rfl
theorem zw_979 : Cond.methodLink "RequestGateLaw" (17 : Nat) ({ cls := "RequestGateModel", name := "type", desc := "(I)Z" } : MethodName) ∈ zz_ws := zz_in (List.mem_of_getElem? (i := 979) (by decide +kernel)) rfl
theorem zw_980 : Cond.instanceMethod ({ cls := "RequestGateModel", name := "type", desc := "(I)Z" } : MethodName) ∈ zz_ws := zz_in (List.mem_of_getElem? (i := 980) (by decide +kernel)) rfl
theorem zw_981 : Cond.selects "RequestGateModel" ({ cls := "RequestGateModel", name := "type", desc := "(I)Z" } : MethodName) ({ cls := "RequestGateModel", name := "type", desc := "(I)Z" } : MethodName) ∈ zz_ws := zz_in (List.mem_of_getElem? (i := 981) (by decide +kernel)) rfl
theorem zw_982 : Cond.code ({ cls := "RequestGateModel", name := "type", desc := "(I)Z" } : MethodName) prog_14_method_2_code (2 : Nat) (Option.some FieldType.boolean) ∈ zz_ws := zz_in (List.mem_of_getElem? (i := 982) (by decide +kernel)) rfl
theorem zw_983 : Cond.methodLink "RequestGateLaw" (21 : Nat) ({ cls := "RequestGateModel", name := "clear", desc := "()V" } : MethodName) ∈ zz_ws := zz_in (List.mem_of_getElem? (i := 983) (by decide +kernel)) rfl
theorem zw_984 : Cond.instanceMethod ({ cls := "RequestGateModel", name := "clear", desc := "()V" } : MethodName) ∈ zz_ws := zz_in (List.mem_of_getElem? (i := 984) (by decide +kernel)) rfl
theorem zw_985 : Cond.selects "RequestGateModel" ({ cls := "RequestGateModel", name := "clear", desc := "()V" } : MethodName) ({ cls := "RequestGateModel", name := "clear", desc := "()V" } : MethodName) ∈ zz_ws := zz_in (List.mem_of_getElem? (i := 985) (by decide +kernel)) rfl
theorem zw_986 : Cond.code ({ cls := "RequestGateModel", name := "clear", desc := "()V" } : MethodName) prog_14_method_3_code (1 : Nat) (none : Option FieldType) ∈ zz_ws := zz_in (List.mem_of_getElem? (i := 986) (by decide +kernel)) rfl
theorem zw_987 : Cond.methodLink "RequestGateLaw" (26 : Nat) ({ cls := "RequestGateModel", name := "expression", desc := "(III)I" } : MethodName) ∈ zz_ws := zz_in (List.mem_of_getElem? (i := 987) (by decide +kernel)) rfl
theorem zw_988 : Cond.instanceMethod ({ cls := "RequestGateModel", name := "expression", desc := "(III)I" } : MethodName) ∈ zz_ws := zz_in (List.mem_of_getElem? (i := 988) (by decide +kernel)) rfl
theorem zw_989 : Cond.selects "RequestGateModel" ({ cls := "RequestGateModel", name := "expression", desc := "(III)I" } : MethodName) ({ cls := "RequestGateModel", name := "expression", desc := "(III)I" } : MethodName) ∈ zz_ws := zz_in (List.mem_of_getElem? (i := 989) (by decide +kernel)) rfl
theorem zw_990 : Cond.code ({ cls := "RequestGateModel", name := "expression", desc := "(III)I" } : MethodName) prog_14_method_13_code (4 : Nat) (Option.some FieldType.int) ∈ zz_ws := zz_in (List.mem_of_getElem? (i := 990) (by decide +kernel)) rfl
theorem zw_991 : Cond.methodLink "RequestGateModel" (157 : Nat) ({ cls := "RequestGateModel", name := "isExpression", desc := "(I)Z" } : MethodName) ∈ zz_ws := zz_in (List.mem_of_getElem? (i := 991) (by decide +kernel)) rfl
theorem zw_993 : Cond.instanceMethod ({ cls := "RequestGateModel", name := "isExpression", desc := "(I)Z" } : MethodName) ∈ zz_ws := zz_in (List.mem_of_getElem? (i := 993) (by decide +kernel)) rfl
theorem zw_994 : Cond.code ({ cls := "RequestGateModel", name := "isExpression", desc := "(I)Z" } : MethodName) prog_14_method_12_code (2 : Nat) (Option.some FieldType.boolean) ∈ zz_ws := zz_in (List.mem_of_getElem? (i := 994) (by decide +kernel)) rfl
theorem zw_995 : Cond.methodLink "RequestGateLaw" (36 : Nat) ({ cls := "RequestGateModel", name := "role", desc := "(II)Z" } : MethodName) ∈ zz_ws := zz_in (List.mem_of_getElem? (i := 995) (by decide +kernel)) rfl
theorem zw_996 : Cond.instanceMethod ({ cls := "RequestGateModel", name := "role", desc := "(II)Z" } : MethodName) ∈ zz_ws := zz_in (List.mem_of_getElem? (i := 996) (by decide +kernel)) rfl
theorem zw_997 : Cond.selects "RequestGateModel" ({ cls := "RequestGateModel", name := "role", desc := "(II)Z" } : MethodName) ({ cls := "RequestGateModel", name := "role", desc := "(II)Z" } : MethodName) ∈ zz_ws := zz_in (List.mem_of_getElem? (i := 997) (by decide +kernel)) rfl
theorem zw_998 : Cond.code ({ cls := "RequestGateModel", name := "role", desc := "(II)Z" } : MethodName) prog_14_method_15_code (3 : Nat) (Option.some FieldType.boolean) ∈ zz_ws := zz_in (List.mem_of_getElem? (i := 998) (by decide +kernel)) rfl
theorem zw_999 : Cond.methodLink "RequestGateModel" (160 : Nat) ({ cls := "RequestGateModel", name := "included", desc := "(I)I" } : MethodName) ∈ zz_ws := zz_in (List.mem_of_getElem? (i := 999) (by decide +kernel)) rfl
theorem zw_1001 : Cond.instanceMethod ({ cls := "RequestGateModel", name := "included", desc := "(I)I" } : MethodName) ∈ zz_ws := zz_in (List.mem_of_getElem? (i := 1001) (by decide +kernel)) rfl
theorem zw_1002 : Cond.code ({ cls := "RequestGateModel", name := "included", desc := "(I)I" } : MethodName) prog_14_method_14_code (5 : Nat) (Option.some FieldType.int) ∈ zz_ws := zz_in (List.mem_of_getElem? (i := 1002) (by decide +kernel)) rfl
theorem zw_1003 : Cond.methodLink "RequestGateLaw" (31 : Nat) ({ cls := "RequestGateModel", name := "rule", desc := "(II)I" } : MethodName) ∈ zz_ws := zz_in (List.mem_of_getElem? (i := 1003) (by decide +kernel)) rfl
theorem zw_1004 : Cond.instanceMethod ({ cls := "RequestGateModel", name := "rule", desc := "(II)I" } : MethodName) ∈ zz_ws := zz_in (List.mem_of_getElem? (i := 1004) (by decide +kernel)) rfl
theorem zw_1005 : Cond.selects "RequestGateModel" ({ cls := "RequestGateModel", name := "rule", desc := "(II)I" } : MethodName) ({ cls := "RequestGateModel", name := "rule", desc := "(II)I" } : MethodName) ∈ zz_ws := zz_in (List.mem_of_getElem? (i := 1005) (by decide +kernel)) rfl
theorem zw_1006 : Cond.code ({ cls := "RequestGateModel", name := "rule", desc := "(II)I" } : MethodName) prog_14_method_19_code (4 : Nat) (Option.some FieldType.int) ∈ zz_ws := zz_in (List.mem_of_getElem? (i := 1006) (by decide +kernel)) rfl
theorem zw_1007 : Cond.methodLink "RequestGateModel" (174 : Nat) ({ cls := "RequestGateModel", name := "isPattern", desc := "()Z" } : MethodName) ∈ zz_ws := zz_in (List.mem_of_getElem? (i := 1007) (by decide +kernel)) rfl
theorem zw_1009 : Cond.instanceMethod ({ cls := "RequestGateModel", name := "isPattern", desc := "()Z" } : MethodName) ∈ zz_ws := zz_in (List.mem_of_getElem? (i := 1009) (by decide +kernel)) rfl
theorem zw_1010 : Cond.code ({ cls := "RequestGateModel", name := "isPattern", desc := "()Z" } : MethodName) prog_14_method_9_code (4 : Nat) (Option.some FieldType.boolean) ∈ zz_ws := zz_in (List.mem_of_getElem? (i := 1010) (by decide +kernel)) rfl
theorem zw_1011 : Cond.methodLink "RequestGateModel" (136 : Nat) ({ cls := "RequestGateModel", name := "barred", desc := "(I)Z" } : MethodName) ∈ zz_ws := zz_in (List.mem_of_getElem? (i := 1011) (by decide +kernel)) rfl
theorem zw_1012 : Cond.static ({ cls := "RequestGateModel", name := "barred", desc := "(I)Z" } : MethodName) ∈ zz_ws := zz_in (List.mem_of_getElem? (i := 1012) (by decide +kernel)) rfl
theorem zw_1013 : Cond.code ({ cls := "RequestGateModel", name := "barred", desc := "(I)Z" } : MethodName) prog_14_method_5_code (1 : Nat) (Option.some FieldType.boolean) ∈ zz_ws := zz_in (List.mem_of_getElem? (i := 1013) (by decide +kernel)) rfl
theorem zw_1014 : Cond.methodLink "RequestGateLaw" (40 : Nat) ({ cls := "RequestGateModel", name := "user", desc := "(III)I" } : MethodName) ∈ zz_ws := zz_in (List.mem_of_getElem? (i := 1014) (by decide +kernel)) rfl
theorem zw_1015 : Cond.instanceMethod ({ cls := "RequestGateModel", name := "user", desc := "(III)I" } : MethodName) ∈ zz_ws := zz_in (List.mem_of_getElem? (i := 1015) (by decide +kernel)) rfl
theorem zw_1016 : Cond.selects "RequestGateModel" ({ cls := "RequestGateModel", name := "user", desc := "(III)I" } : MethodName) ({ cls := "RequestGateModel", name := "user", desc := "(III)I" } : MethodName) ∈ zz_ws := zz_in (List.mem_of_getElem? (i := 1016) (by decide +kernel)) rfl
theorem zw_1017 : Cond.code ({ cls := "RequestGateModel", name := "user", desc := "(III)I" } : MethodName) prog_14_method_23_code (4 : Nat) (Option.some FieldType.int) ∈ zz_ws := zz_in (List.mem_of_getElem? (i := 1017) (by decide +kernel)) rfl
theorem zw_1018 : Cond.methodLink "RequestGateModel" (184 : Nat) ({ cls := "RequestGateModel", name := "draw", desc := "()I" } : MethodName) ∈ zz_ws := zz_in (List.mem_of_getElem? (i := 1018) (by decide +kernel)) rfl
theorem zw_1020 : Cond.instanceMethod ({ cls := "RequestGateModel", name := "draw", desc := "()I" } : MethodName) ∈ zz_ws := zz_in (List.mem_of_getElem? (i := 1020) (by decide +kernel)) rfl
theorem zw_1021 : Cond.code ({ cls := "RequestGateModel", name := "draw", desc := "()I" } : MethodName) prog_14_method_20_code (1 : Nat) (Option.some FieldType.int) ∈ zz_ws := zz_in (List.mem_of_getElem? (i := 1021) (by decide +kernel)) rfl
theorem zw_1022 : Cond.methodLink "RequestGateModel" (188 : Nat) ({ cls := "RequestGateModel", name := "hashOf", desc := "(III)I" } : MethodName) ∈ zz_ws := zz_in (List.mem_of_getElem? (i := 1022) (by decide +kernel)) rfl
theorem zw_1023 : Cond.static ({ cls := "RequestGateModel", name := "hashOf", desc := "(III)I" } : MethodName) ∈ zz_ws := zz_in (List.mem_of_getElem? (i := 1023) (by decide +kernel)) rfl
theorem zw_1024 : Cond.code ({ cls := "RequestGateModel", name := "hashOf", desc := "(III)I" } : MethodName) prog_14_method_21_code (6 : Nat) (Option.some FieldType.int) ∈ zz_ws := zz_in (List.mem_of_getElem? (i := 1024) (by decide +kernel)) rfl
theorem zw_1025 : Cond.methodLink "RequestGateLaw" (58 : Nat) ({ cls := "RequestGateModel", name := "login", desc := "(IIIZ)I" } : MethodName) ∈ zz_ws := zz_in (List.mem_of_getElem? (i := 1025) (by decide +kernel)) rfl
theorem zw_1026 : Cond.instanceMethod ({ cls := "RequestGateModel", name := "login", desc := "(IIIZ)I" } : MethodName) ∈ zz_ws := zz_in (List.mem_of_getElem? (i := 1026) (by decide +kernel)) rfl
theorem zw_1027 : Cond.selects "RequestGateModel" ({ cls := "RequestGateModel", name := "login", desc := "(IIIZ)I" } : MethodName) ({ cls := "RequestGateModel", name := "login", desc := "(IIIZ)I" } : MethodName) ∈ zz_ws := zz_in (List.mem_of_getElem? (i := 1027) (by decide +kernel)) rfl
theorem zw_1028 : Cond.code ({ cls := "RequestGateModel", name := "login", desc := "(IIIZ)I" } : MethodName) prog_14_method_29_code (7 : Nat) (Option.some FieldType.int) ∈ zz_ws := zz_in (List.mem_of_getElem? (i := 1028) (by decide +kernel)) rfl
theorem zw_1029 : Cond.methodLink "RequestGateModel" (198 : Nat) ({ cls := "RequestGateModel", name := "isUser", desc := "(I)Z" } : MethodName) ∈ zz_ws := zz_in (List.mem_of_getElem? (i := 1029) (by decide +kernel)) rfl
theorem zw_1031 : Cond.instanceMethod ({ cls := "RequestGateModel", name := "isUser", desc := "(I)Z" } : MethodName) ∈ zz_ws := zz_in (List.mem_of_getElem? (i := 1031) (by decide +kernel)) rfl
theorem zw_1032 : Cond.code ({ cls := "RequestGateModel", name := "isUser", desc := "(I)Z" } : MethodName) prog_14_method_22_code (2 : Nat) (Option.some FieldType.boolean) ∈ zz_ws := zz_in (List.mem_of_getElem? (i := 1032) (by decide +kernel)) rfl
theorem zw_1033 : Cond.methodLink "RequestGateModel" (204 : Nat) ({ cls := "RequestGateModel", name := "sessionBy", desc := "(I)I" } : MethodName) ∈ zz_ws := zz_in (List.mem_of_getElem? (i := 1033) (by decide +kernel)) rfl
theorem zw_1035 : Cond.instanceMethod ({ cls := "RequestGateModel", name := "sessionBy", desc := "(I)I" } : MethodName) ∈ zz_ws := zz_in (List.mem_of_getElem? (i := 1035) (by decide +kernel)) rfl
theorem zw_1036 : Cond.code ({ cls := "RequestGateModel", name := "sessionBy", desc := "(I)I" } : MethodName) prog_14_method_25_code (4 : Nat) (Option.some FieldType.int) ∈ zz_ws := zz_in (List.mem_of_getElem? (i := 1036) (by decide +kernel)) rfl
theorem zw_1037 : Cond.methodLink "RequestGateModel" (195 : Nat) ({ cls := "RequestGateModel", name := "live", desc := "(I)Z" } : MethodName) ∈ zz_ws := zz_in (List.mem_of_getElem? (i := 1037) (by decide +kernel)) rfl
theorem zw_1039 : Cond.instanceMethod ({ cls := "RequestGateModel", name := "live", desc := "(I)Z" } : MethodName) ∈ zz_ws := zz_in (List.mem_of_getElem? (i := 1039) (by decide +kernel)) rfl
theorem zw_1040 : Cond.code ({ cls := "RequestGateModel", name := "live", desc := "(I)Z" } : MethodName) prog_14_method_24_code (2 : Nat) (Option.some FieldType.boolean) ∈ zz_ws := zz_in (List.mem_of_getElem? (i := 1040) (by decide +kernel)) rfl
theorem zw_1041 : Cond.methodLink "RequestGateModel" (207 : Nat) ({ cls := "RequestGateModel", name := "makeSession", desc := "(IZ)I" } : MethodName) ∈ zz_ws := zz_in (List.mem_of_getElem? (i := 1041) (by decide +kernel)) rfl
theorem zw_1043 : Cond.instanceMethod ({ cls := "RequestGateModel", name := "makeSession", desc := "(IZ)I" } : MethodName) ∈ zz_ws := zz_in (List.mem_of_getElem? (i := 1043) (by decide +kernel)) rfl
theorem zw_1044 : Cond.code ({ cls := "RequestGateModel", name := "makeSession", desc := "(IZ)I" } : MethodName) prog_14_method_27_code (7 : Nat) (Option.some FieldType.int) ∈ zz_ws := zz_in (List.mem_of_getElem? (i := 1044) (by decide +kernel)) rfl
theorem zw_1045 : Cond.methodLink "RequestGateModel" (211 : Nat) ({ cls := "RequestGateModel", name := "makeSeries", desc := "(I)V" } : MethodName) ∈ zz_ws := zz_in (List.mem_of_getElem? (i := 1045) (by decide +kernel)) rfl
theorem zw_1047 : Cond.instanceMethod ({ cls := "RequestGateModel", name := "makeSeries", desc := "(I)V" } : MethodName) ∈ zz_ws := zz_in (List.mem_of_getElem? (i := 1047) (by decide +kernel)) rfl
theorem zw_1048 : Cond.code ({ cls := "RequestGateModel", name := "makeSeries", desc := "(I)V" } : MethodName) prog_14_method_28_code (5 : Nat) (none : Option FieldType) ∈ zz_ws := zz_in (List.mem_of_getElem? (i := 1048) (by decide +kernel)) rfl
theorem zw_1049 : Cond.methodLink "RequestGateLaw" (62 : Nat) ({ cls := "RequestGateModel", name := "logout", desc := "(I)Z" } : MethodName) ∈ zz_ws := zz_in (List.mem_of_getElem? (i := 1049) (by decide +kernel)) rfl
theorem zw_1050 : Cond.instanceMethod ({ cls := "RequestGateModel", name := "logout", desc := "(I)Z" } : MethodName) ∈ zz_ws := zz_in (List.mem_of_getElem? (i := 1050) (by decide +kernel)) rfl
theorem zw_1051 : Cond.selects "RequestGateModel" ({ cls := "RequestGateModel", name := "logout", desc := "(I)Z" } : MethodName) ({ cls := "RequestGateModel", name := "logout", desc := "(I)Z" } : MethodName) ∈ zz_ws := zz_in (List.mem_of_getElem? (i := 1051) (by decide +kernel)) rfl
theorem zw_1052 : Cond.code ({ cls := "RequestGateModel", name := "logout", desc := "(I)Z" } : MethodName) prog_14_method_31_code (3 : Nat) (Option.some FieldType.boolean) ∈ zz_ws := zz_in (List.mem_of_getElem? (i := 1052) (by decide +kernel)) rfl
theorem zw_1053 : Cond.methodLink "RequestGateModel" (215 : Nat) ({ cls := "RequestGateModel", name := "endSeries", desc := "(I)V" } : MethodName) ∈ zz_ws := zz_in (List.mem_of_getElem? (i := 1053) (by decide +kernel)) rfl
theorem zw_1055 : Cond.instanceMethod ({ cls := "RequestGateModel", name := "endSeries", desc := "(I)V" } : MethodName) ∈ zz_ws := zz_in (List.mem_of_getElem? (i := 1055) (by decide +kernel)) rfl
theorem zw_1056 : Cond.code ({ cls := "RequestGateModel", name := "endSeries", desc := "(I)V" } : MethodName) prog_14_method_30_code (2 : Nat) (none : Option FieldType) ∈ zz_ws := zz_in (List.mem_of_getElem? (i := 1056) (by decide +kernel)) rfl
theorem zw_1057 : Cond.methodLink "RequestGateLaw" (53 : Nat) ({ cls := "RequestGateModel", name := "tick", desc := "(I)Z" } : MethodName) ∈ zz_ws := zz_in (List.mem_of_getElem? (i := 1057) (by decide +kernel)) rfl
theorem zw_1058 : Cond.instanceMethod ({ cls := "RequestGateModel", name := "tick", desc := "(I)Z" } : MethodName) ∈ zz_ws := zz_in (List.mem_of_getElem? (i := 1058) (by decide +kernel)) rfl
theorem zw_1059 : Cond.selects "RequestGateModel" ({ cls := "RequestGateModel", name := "tick", desc := "(I)Z" } : MethodName) ({ cls := "RequestGateModel", name := "tick", desc := "(I)Z" } : MethodName) ∈ zz_ws := zz_in (List.mem_of_getElem? (i := 1059) (by decide +kernel)) rfl
theorem zw_1060 : Cond.code ({ cls := "RequestGateModel", name := "tick", desc := "(I)Z" } : MethodName) prog_14_method_32_code (2 : Nat) (Option.some FieldType.boolean) ∈ zz_ws := zz_in (List.mem_of_getElem? (i := 1060) (by decide +kernel)) rfl
theorem zw_1061 : Cond.methodLink "RequestGateLaw" (44 : Nat) ({ cls := "RequestGateModel", name := "service", desc := "(III)I" } : MethodName) ∈ zz_ws := zz_in (List.mem_of_getElem? (i := 1061) (by decide +kernel)) rfl
theorem zw_1062 : Cond.instanceMethod ({ cls := "RequestGateModel", name := "service", desc := "(III)I" } : MethodName) ∈ zz_ws := zz_in (List.mem_of_getElem? (i := 1062) (by decide +kernel)) rfl
theorem zw_1063 : Cond.selects "RequestGateModel" ({ cls := "RequestGateModel", name := "service", desc := "(III)I" } : MethodName) ({ cls := "RequestGateModel", name := "service", desc := "(III)I" } : MethodName) ∈ zz_ws := zz_in (List.mem_of_getElem? (i := 1063) (by decide +kernel)) rfl
theorem zw_1064 : Cond.code ({ cls := "RequestGateModel", name := "service", desc := "(III)I" } : MethodName) prog_14_method_34_code (4 : Nat) (Option.some FieldType.int) ∈ zz_ws := zz_in (List.mem_of_getElem? (i := 1064) (by decide +kernel)) rfl
theorem zw_1065 : Cond.methodLink "RequestGateModel" (221 : Nat) ({ cls := "RequestGateModel", name := "mayBe", desc := "(II)Z" } : MethodName) ∈ zz_ws := zz_in (List.mem_of_getElem? (i := 1065) (by decide +kernel)) rfl
theorem zw_1067 : Cond.instanceMethod ({ cls := "RequestGateModel", name := "mayBe", desc := "(II)Z" } : MethodName) ∈ zz_ws := zz_in (List.mem_of_getElem? (i := 1067) (by decide +kernel)) rfl
theorem zw_1068 : Cond.code ({ cls := "RequestGateModel", name := "mayBe", desc := "(II)Z" } : MethodName) prog_14_method_33_code (3 : Nat) (Option.some FieldType.boolean) ∈ zz_ws := zz_in (List.mem_of_getElem? (i := 1068) (by decide +kernel)) rfl
theorem zw_1069 : Cond.methodLink "RequestGateLaw" (49 : Nat) ({ cls := "RequestGateModel", name := "declare", desc := "(III)Z" } : MethodName) ∈ zz_ws := zz_in (List.mem_of_getElem? (i := 1069) (by decide +kernel)) rfl
theorem zw_1070 : Cond.instanceMethod ({ cls := "RequestGateModel", name := "declare", desc := "(III)Z" } : MethodName) ∈ zz_ws := zz_in (List.mem_of_getElem? (i := 1070) (by decide +kernel)) rfl
theorem zw_1071 : Cond.selects "RequestGateModel" ({ cls := "RequestGateModel", name := "declare", desc := "(III)Z" } : MethodName) ({ cls := "RequestGateModel", name := "declare", desc := "(III)Z" } : MethodName) ∈ zz_ws := zz_in (List.mem_of_getElem? (i := 1071) (by decide +kernel)) rfl
theorem zw_1072 : Cond.code ({ cls := "RequestGateModel", name := "declare", desc := "(III)Z" } : MethodName) prog_14_method_35_code (5 : Nat) (Option.some FieldType.boolean) ∈ zz_ws := zz_in (List.mem_of_getElem? (i := 1072) (by decide +kernel)) rfl
theorem zw_1073 : Cond.methodLink "RequestGateLaw" (71 : Nat) ({ cls := "RequestGateModel", name := "call", desc := "(III)I" } : MethodName) ∈ zz_ws := zz_in (List.mem_of_getElem? (i := 1073) (by decide +kernel)) rfl
theorem zw_1074 : Cond.instanceMethod ({ cls := "RequestGateModel", name := "call", desc := "(III)I" } : MethodName) ∈ zz_ws := zz_in (List.mem_of_getElem? (i := 1074) (by decide +kernel)) rfl
theorem zw_1075 : Cond.selects "RequestGateModel" ({ cls := "RequestGateModel", name := "call", desc := "(III)I" } : MethodName) ({ cls := "RequestGateModel", name := "call", desc := "(III)I" } : MethodName) ∈ zz_ws := zz_in (List.mem_of_getElem? (i := 1075) (by decide +kernel)) rfl
theorem zw_1076 : Cond.code ({ cls := "RequestGateModel", name := "call", desc := "(III)I" } : MethodName) prog_14_method_37_code (7 : Nat) (Option.some FieldType.int) ∈ zz_ws := zz_in (List.mem_of_getElem? (i := 1076) (by decide +kernel)) rfl
theorem zw_1077 : Cond.methodLink "RequestGateModel" (224 : Nat) ({ cls := "RequestGateModel", name := "guard", desc := "(III)I" } : MethodName) ∈ zz_ws := zz_in (List.mem_of_getElem? (i := 1077) (by decide +kernel)) rfl
theorem zw_1079 : Cond.instanceMethod ({ cls := "RequestGateModel", name := "guard", desc := "(III)I" } : MethodName) ∈ zz_ws := zz_in (List.mem_of_getElem? (i := 1079) (by decide +kernel)) rfl
theorem zw_1080 : Cond.code ({ cls := "RequestGateModel", name := "guard", desc := "(III)I" } : MethodName) prog_14_method_36_code (8 : Nat) (Option.some FieldType.int) ∈ zz_ws := zz_in (List.mem_of_getElem? (i := 1080) (by decide +kernel)) rfl
theorem zw_1081 : Cond.methodLink "RequestGateModel" (231 : Nat) ({ cls := "RequestGateModel", name := "valueOf", desc := "(IIZI)I" } : MethodName) ∈ zz_ws := zz_in (List.mem_of_getElem? (i := 1081) (by decide +kernel)) rfl
theorem zw_1083 : Cond.instanceMethod ({ cls := "RequestGateModel", name := "valueOf", desc := "(IIZI)I" } : MethodName) ∈ zz_ws := zz_in (List.mem_of_getElem? (i := 1083) (by decide +kernel)) rfl
theorem zw_1084 : Cond.code ({ cls := "RequestGateModel", name := "valueOf", desc := "(IIZI)I" } : MethodName) prog_14_method_18_code (9 : Nat) (Option.some FieldType.int) ∈ zz_ws := zz_in (List.mem_of_getElem? (i := 1084) (by decide +kernel)) rfl
theorem zw_1085 : Cond.methodLink "RequestGateModel" (167 : Nat) ({ cls := "RequestGateModel", name := "simple", desc := "(IIZI)I" } : MethodName) ∈ zz_ws := zz_in (List.mem_of_getElem? (i := 1085) (by decide +kernel)) rfl
theorem zw_1087 : Cond.instanceMethod ({ cls := "RequestGateModel", name := "simple", desc := "(IIZI)I" } : MethodName) ∈ zz_ws := zz_in (List.mem_of_getElem? (i := 1087) (by decide +kernel)) rfl
theorem zw_1088 : Cond.code ({ cls := "RequestGateModel", name := "simple", desc := "(IIZI)I" } : MethodName) prog_14_method_17_code (5 : Nat) (Option.some FieldType.int) ∈ zz_ws := zz_in (List.mem_of_getElem? (i := 1088) (by decide +kernel)) rfl
theorem zw_1089 : Cond.methodLink "RequestGateModel" (163 : Nat) ({ cls := "RequestGateModel", name := "truth", desc := "(Z)I" } : MethodName) ∈ zz_ws := zz_in (List.mem_of_getElem? (i := 1089) (by decide +kernel)) rfl
theorem zw_1090 : Cond.static ({ cls := "RequestGateModel", name := "truth", desc := "(Z)I" } : MethodName) ∈ zz_ws := zz_in (List.mem_of_getElem? (i := 1090) (by decide +kernel)) rfl
theorem zw_1091 : Cond.code ({ cls := "RequestGateModel", name := "truth", desc := "(Z)I" } : MethodName) prog_14_method_16_code (1 : Nat) (Option.some FieldType.int) ∈ zz_ws := zz_in (List.mem_of_getElem? (i := 1091) (by decide +kernel)) rfl
theorem zw_1092 : Cond.methodLink "RequestGateLaw" (67 : Nat) ({ cls := "RequestGateModel", name := "open", desc := "(IIIII)I" } : MethodName) ∈ zz_ws := zz_in (List.mem_of_getElem? (i := 1092) (by decide +kernel)) rfl
theorem zw_1093 : Cond.instanceMethod ({ cls := "RequestGateModel", name := "open", desc := "(IIIII)I" } : MethodName) ∈ zz_ws := zz_in (List.mem_of_getElem? (i := 1093) (by decide +kernel)) rfl
theorem zw_1094 : Cond.selects "RequestGateModel" ({ cls := "RequestGateModel", name := "open", desc := "(IIIII)I" } : MethodName) ({ cls := "RequestGateModel", name := "open", desc := "(IIIII)I" } : MethodName) ∈ zz_ws := zz_in (List.mem_of_getElem? (i := 1094) (by decide +kernel)) rfl
theorem zw_1095 : Cond.code ({ cls := "RequestGateModel", name := "open", desc := "(IIIII)I" } : MethodName) prog_14_method_39_code (9 : Nat) (Option.some FieldType.int) ∈ zz_ws := zz_in (List.mem_of_getElem? (i := 1095) (by decide +kernel)) rfl
theorem zw_1096 : Cond.methodLink "RequestGateModel" (255 : Nat) ({ cls := "RequestGateModel", name := "read", desc := "()Z" } : MethodName) ∈ zz_ws := zz_in (List.mem_of_getElem? (i := 1096) (by decide +kernel)) rfl
theorem zw_1098 : Cond.instanceMethod ({ cls := "RequestGateModel", name := "read", desc := "()Z" } : MethodName) ∈ zz_ws := zz_in (List.mem_of_getElem? (i := 1098) (by decide +kernel)) rfl
theorem zw_1099 : Cond.code ({ cls := "RequestGateModel", name := "read", desc := "()Z" } : MethodName) prog_14_method_6_code (10 : Nat) (Option.some FieldType.boolean) ∈ zz_ws := zz_in (List.mem_of_getElem? (i := 1099) (by decide +kernel)) rfl
theorem zw_1100 : Cond.methodLink "RequestGateModel" (132 : Nat) ({ cls := "RequestGateModel", name := "digit", desc := "(I)I" } : MethodName) ∈ zz_ws := zz_in (List.mem_of_getElem? (i := 1100) (by decide +kernel)) rfl
theorem zw_1101 : Cond.static ({ cls := "RequestGateModel", name := "digit", desc := "(I)I" } : MethodName) ∈ zz_ws := zz_in (List.mem_of_getElem? (i := 1101) (by decide +kernel)) rfl
theorem zw_1102 : Cond.code ({ cls := "RequestGateModel", name := "digit", desc := "(I)I" } : MethodName) prog_14_method_4_code (1 : Nat) (Option.some FieldType.int) ∈ zz_ws := zz_in (List.mem_of_getElem? (i := 1102) (by decide +kernel)) rfl
theorem zw_1103 : Cond.methodLink "RequestGateModel" (140 : Nat) ({ cls := "RequestGateModel", name := "settle", desc := "(I)Z" } : MethodName) ∈ zz_ws := zz_in (List.mem_of_getElem? (i := 1103) (by decide +kernel)) rfl
theorem zw_1105 : Cond.instanceMethod ({ cls := "RequestGateModel", name := "settle", desc := "(I)Z" } : MethodName) ∈ zz_ws := zz_in (List.mem_of_getElem? (i := 1105) (by decide +kernel)) rfl
theorem zw_1106 : Cond.code ({ cls := "RequestGateModel", name := "settle", desc := "(I)Z" } : MethodName) prog_14_method_8_code (4 : Nat) (Option.some FieldType.boolean) ∈ zz_ws := zz_in (List.mem_of_getElem? (i := 1106) (by decide +kernel)) rfl
theorem zw_1107 : Cond.methodLink "RequestGateModel" (146 : Nat) ({ cls := "RequestGateModel", name := "dots", desc := "(II)Z" } : MethodName) ∈ zz_ws := zz_in (List.mem_of_getElem? (i := 1107) (by decide +kernel)) rfl
theorem zw_1109 : Cond.instanceMethod ({ cls := "RequestGateModel", name := "dots", desc := "(II)Z" } : MethodName) ∈ zz_ws := zz_in (List.mem_of_getElem? (i := 1109) (by decide +kernel)) rfl
theorem zw_1110 : Cond.code ({ cls := "RequestGateModel", name := "dots", desc := "(II)Z" } : MethodName) prog_14_method_7_code (5 : Nat) (Option.some FieldType.boolean) ∈ zz_ws := zz_in (List.mem_of_getElem? (i := 1110) (by decide +kernel)) rfl
theorem zw_1111 : Cond.methodLink "RequestGateModel" (258 : Nat) ({ cls := "RequestGateModel", name := "ask", desc := "(III)I" } : MethodName) ∈ zz_ws := zz_in (List.mem_of_getElem? (i := 1111) (by decide +kernel)) rfl
theorem zw_1113 : Cond.instanceMethod ({ cls := "RequestGateModel", name := "ask", desc := "(III)I" } : MethodName) ∈ zz_ws := zz_in (List.mem_of_getElem? (i := 1113) (by decide +kernel)) rfl
theorem zw_1114 : Cond.code ({ cls := "RequestGateModel", name := "ask", desc := "(III)I" } : MethodName) prog_14_method_38_code (6 : Nat) (Option.some FieldType.int) ∈ zz_ws := zz_in (List.mem_of_getElem? (i := 1114) (by decide +kernel)) rfl
theorem zw_1115 : Cond.methodLink "RequestGateModel" (246 : Nat) ({ cls := "RequestGateModel", name := "seriesBy", desc := "(I)I" } : MethodName) ∈ zz_ws := zz_in (List.mem_of_getElem? (i := 1115) (by decide +kernel)) rfl
theorem zw_1117 : Cond.instanceMethod ({ cls := "RequestGateModel", name := "seriesBy", desc := "(I)I" } : MethodName) ∈ zz_ws := zz_in (List.mem_of_getElem? (i := 1117) (by decide +kernel)) rfl
theorem zw_1118 : Cond.code ({ cls := "RequestGateModel", name := "seriesBy", desc := "(I)I" } : MethodName) prog_14_method_26_code (4 : Nat) (Option.some FieldType.int) ∈ zz_ws := zz_in (List.mem_of_getElem? (i := 1118) (by decide +kernel)) rfl
theorem zw_1119 : Cond.methodLink "RequestGateModel" (261 : Nat) ({ cls := "RequestGateModel", name := "ruleFits", desc := "(I)Z" } : MethodName) ∈ zz_ws := zz_in (List.mem_of_getElem? (i := 1119) (by decide +kernel)) rfl
theorem zw_1121 : Cond.instanceMethod ({ cls := "RequestGateModel", name := "ruleFits", desc := "(I)Z" } : MethodName) ∈ zz_ws := zz_in (List.mem_of_getElem? (i := 1121) (by decide +kernel)) rfl
theorem zw_1122 : Cond.code ({ cls := "RequestGateModel", name := "ruleFits", desc := "(I)Z" } : MethodName) prog_14_method_11_code (8 : Nat) (Option.some FieldType.boolean) ∈ zz_ws := zz_in (List.mem_of_getElem? (i := 1122) (by decide +kernel)) rfl
theorem zw_1123 : Cond.methodLink "RequestGateModel" (150 : Nat) ({ cls := "RequestGateModel", name := "pieceFits", desc := "(III)Z" } : MethodName) ∈ zz_ws := zz_in (List.mem_of_getElem? (i := 1123) (by decide +kernel)) rfl
theorem zw_1125 : Cond.instanceMethod ({ cls := "RequestGateModel", name := "pieceFits", desc := "(III)Z" } : MethodName) ∈ zz_ws := zz_in (List.mem_of_getElem? (i := 1125) (by decide +kernel)) rfl
theorem zw_1126 : Cond.code ({ cls := "RequestGateModel", name := "pieceFits", desc := "(III)Z" } : MethodName) prog_14_method_10_code (9 : Nat) (Option.some FieldType.boolean) ∈ zz_ws := zz_in (List.mem_of_getElem? (i := 1126) (by decide +kernel)) rfl
theorem zw_1127 : Cond.methodLink "RequestGateLaw" (76 : Nat) ({ cls := "RequestGateModel", name := "close", desc := "()Z" } : MethodName) ∈ zz_ws := zz_in (List.mem_of_getElem? (i := 1127) (by decide +kernel)) rfl
theorem zw_1128 : Cond.instanceMethod ({ cls := "RequestGateModel", name := "close", desc := "()Z" } : MethodName) ∈ zz_ws := zz_in (List.mem_of_getElem? (i := 1128) (by decide +kernel)) rfl
theorem zw_1129 : Cond.selects "RequestGateModel" ({ cls := "RequestGateModel", name := "close", desc := "()Z" } : MethodName) ({ cls := "RequestGateModel", name := "close", desc := "()Z" } : MethodName) ∈ zz_ws := zz_in (List.mem_of_getElem? (i := 1129) (by decide +kernel)) rfl
theorem zw_1130 : Cond.code ({ cls := "RequestGateModel", name := "close", desc := "()Z" } : MethodName) prog_14_method_40_code (2 : Nat) (Option.some FieldType.boolean) ∈ zz_ws := zz_in (List.mem_of_getElem? (i := 1130) (by decide +kernel)) rfl
theorem zw_1131 : Cond.methodLink "RequestGateLaw" (81 : Nat) ({ cls := "RequestGateModel", name := "who", desc := "()I" } : MethodName) ∈ zz_ws := zz_in (List.mem_of_getElem? (i := 1131) (by decide +kernel)) rfl
theorem zw_1132 : Cond.instanceMethod ({ cls := "RequestGateModel", name := "who", desc := "()I" } : MethodName) ∈ zz_ws := zz_in (List.mem_of_getElem? (i := 1132) (by decide +kernel)) rfl
theorem zw_1133 : Cond.selects "RequestGateModel" ({ cls := "RequestGateModel", name := "who", desc := "()I" } : MethodName) ({ cls := "RequestGateModel", name := "who", desc := "()I" } : MethodName) ∈ zz_ws := zz_in (List.mem_of_getElem? (i := 1133) (by decide +kernel)) rfl
theorem zw_1134 : Cond.code ({ cls := "RequestGateModel", name := "who", desc := "()I" } : MethodName) prog_14_method_41_code (1 : Nat) (Option.some FieldType.int) ∈ zz_ws := zz_in (List.mem_of_getElem? (i := 1134) (by decide +kernel)) rfl
theorem zw_1135 : Cond.methodLink "RequestGateLaw" (86 : Nat) ({ cls := "RequestGateModel", name := "fits", desc := "(I)I" } : MethodName) ∈ zz_ws := zz_in (List.mem_of_getElem? (i := 1135) (by decide +kernel)) rfl
theorem zw_1136 : Cond.instanceMethod ({ cls := "RequestGateModel", name := "fits", desc := "(I)I" } : MethodName) ∈ zz_ws := zz_in (List.mem_of_getElem? (i := 1136) (by decide +kernel)) rfl
theorem zw_1137 : Cond.selects "RequestGateModel" ({ cls := "RequestGateModel", name := "fits", desc := "(I)I" } : MethodName) ({ cls := "RequestGateModel", name := "fits", desc := "(I)I" } : MethodName) ∈ zz_ws := zz_in (List.mem_of_getElem? (i := 1137) (by decide +kernel)) rfl
theorem zw_1138 : Cond.code ({ cls := "RequestGateModel", name := "fits", desc := "(I)I" } : MethodName) prog_14_method_42_code (2 : Nat) (Option.some FieldType.int) ∈ zz_ws := zz_in (List.mem_of_getElem? (i := 1138) (by decide +kernel)) rfl
theorem zw_1139 : Cond.methodLink "RequestGateLaw" (90 : Nat) ({ cls := "RequestGateModel", name := "session", desc := "(III)I" } : MethodName) ∈ zz_ws := zz_in (List.mem_of_getElem? (i := 1139) (by decide +kernel)) rfl
theorem zw_1140 : Cond.instanceMethod ({ cls := "RequestGateModel", name := "session", desc := "(III)I" } : MethodName) ∈ zz_ws := zz_in (List.mem_of_getElem? (i := 1140) (by decide +kernel)) rfl
theorem zw_1141 : Cond.selects "RequestGateModel" ({ cls := "RequestGateModel", name := "session", desc := "(III)I" } : MethodName) ({ cls := "RequestGateModel", name := "session", desc := "(III)I" } : MethodName) ∈ zz_ws := zz_in (List.mem_of_getElem? (i := 1141) (by decide +kernel)) rfl
theorem zw_1142 : Cond.code ({ cls := "RequestGateModel", name := "session", desc := "(III)I" } : MethodName) prog_14_method_43_code (9 : Nat) (Option.some FieldType.int) ∈ zz_ws := zz_in (List.mem_of_getElem? (i := 1142) (by decide +kernel)) rfl
theorem zw_1143 : Cond.methodLink "RequestGateLaw" (94 : Nat) ({ cls := "RequestGateModel", name := "series", desc := "(III)I" } : MethodName) ∈ zz_ws := zz_in (List.mem_of_getElem? (i := 1143) (by decide +kernel)) rfl
theorem zw_1144 : Cond.instanceMethod ({ cls := "RequestGateModel", name := "series", desc := "(III)I" } : MethodName) ∈ zz_ws := zz_in (List.mem_of_getElem? (i := 1144) (by decide +kernel)) rfl
theorem zw_1145 : Cond.selects "RequestGateModel" ({ cls := "RequestGateModel", name := "series", desc := "(III)I" } : MethodName) ({ cls := "RequestGateModel", name := "series", desc := "(III)I" } : MethodName) ∈ zz_ws := zz_in (List.mem_of_getElem? (i := 1145) (by decide +kernel)) rfl
theorem zw_1146 : Cond.code ({ cls := "RequestGateModel", name := "series", desc := "(III)I" } : MethodName) prog_14_method_44_code (9 : Nat) (Option.some FieldType.int) ∈ zz_ws := zz_in (List.mem_of_getElem? (i := 1146) (by decide +kernel)) rfl
theorem zw_1147 : Cond.methodLink "RequestGateLaw" (98 : Nat) ({ cls := "RequestGateModel", name := "hash", desc := "(I)I" } : MethodName) ∈ zz_ws := zz_in (List.mem_of_getElem? (i := 1147) (by decide +kernel)) rfl
theorem zw_1148 : Cond.instanceMethod ({ cls := "RequestGateModel", name := "hash", desc := "(I)I" } : MethodName) ∈ zz_ws := zz_in (List.mem_of_getElem? (i := 1148) (by decide +kernel)) rfl
theorem zw_1149 : Cond.selects "RequestGateModel" ({ cls := "RequestGateModel", name := "hash", desc := "(I)I" } : MethodName) ({ cls := "RequestGateModel", name := "hash", desc := "(I)I" } : MethodName) ∈ zz_ws := zz_in (List.mem_of_getElem? (i := 1149) (by decide +kernel)) rfl
theorem zw_1150 : Cond.code ({ cls := "RequestGateModel", name := "hash", desc := "(I)I" } : MethodName) prog_14_method_45_code (2 : Nat) (Option.some FieldType.int) ∈ zz_ws := zz_in (List.mem_of_getElem? (i := 1150) (by decide +kernel)) rfl
theorem zw_1151 : Cond.methodLink "RequestGateLaw" (102 : Nat) ({ cls := "RequestGateModel", name := "count", desc := "(I)I" } : MethodName) ∈ zz_ws := zz_in (List.mem_of_getElem? (i := 1151) (by decide +kernel)) rfl
theorem zw_1152 : Cond.instanceMethod ({ cls := "RequestGateModel", name := "count", desc := "(I)I" } : MethodName) ∈ zz_ws := zz_in (List.mem_of_getElem? (i := 1152) (by decide +kernel)) rfl
theorem zw_1153 : Cond.selects "RequestGateModel" ({ cls := "RequestGateModel", name := "count", desc := "(I)I" } : MethodName) ({ cls := "RequestGateModel", name := "count", desc := "(I)I" } : MethodName) ∈ zz_ws := zz_in (List.mem_of_getElem? (i := 1153) (by decide +kernel)) rfl
theorem zw_1154 : Cond.code ({ cls := "RequestGateModel", name := "count", desc := "(I)I" } : MethodName) prog_14_method_46_code (2 : Nat) (Option.some FieldType.int) ∈ zz_ws := zz_in (List.mem_of_getElem? (i := 1154) (by decide +kernel)) rfl
theorem zw_1160 : Cond.selects "[Ljava/lang/Object;" ({ cls := "java/lang/Object", name := "getClass", desc := "()Ljava/lang/Class;" } : MethodName) ({ cls := "java/lang/Object", name := "getClass", desc := "()Ljava/lang/Class;" } : MethodName) ∈ zz_ws := zz_in (List.mem_of_getElem? (i := 1160) (by decide +kernel)) rfl
end
section
theorem zk_0_l : ∀ k, k < 19 → u_lay "RequestGate" fF_0 k ∈ zz_ws
  | 0, _ => zw_190
  | 1, _ => zw_192
  | 2, _ => zw_194
  | 3, _ => zw_196
  | 4, _ => zw_198
  | 5, _ => zw_200
  | 6, _ => zw_202
  | 7, _ => zw_204
  | 8, _ => zw_206
  | 9, _ => zw_208
  | 10, _ => zw_210
  | 11, _ => zw_212
  | 12, _ => zw_214
  | 13, _ => zw_216
  | 14, _ => zw_218
  | 15, _ => zw_220
  | 16, _ => zw_222
  | 17, _ => zw_224
  | 18, _ => zw_226
  | n + 19, h => absurd h (by omega)
theorem zk_0_t : ∀ k, k < 19 → parseFieldDescriptor (fF_0 k).2.2.1 = some (zz_fty 0 k) := by decide +kernel
theorem zk_0_n : ∀ a, a < 19 → ∀ b, b < 19 → a ≠ b → (fF_0 a).2.1 ≠ (fF_0 b).2.1 := by decide +kernel
theorem zk_1_l : ∀ k, k < 2 → u_lay "RequestGate$Text" fF_1 k ∈ zz_ws
  | 0, _ => zw_41
  | 1, _ => zw_43
  | n + 2, h => absurd h (by omega)
theorem zk_1_t : ∀ k, k < 2 → parseFieldDescriptor (fF_1 k).2.2.1 = some (zz_fty 1 k) := by decide +kernel
theorem zk_1_n : ∀ a, a < 2 → ∀ b, b < 2 → a ≠ b → (fF_1 a).2.1 ≠ (fF_1 b).2.1 := by decide +kernel
theorem zk_2_l : ∀ k, k < 6 → u_lay "RequestGate$Pieces" fF_2 k ∈ zz_ws
  | 0, _ => zw_68
  | 1, _ => zw_70
  | 2, _ => zw_72
  | 3, _ => zw_74
  | 4, _ => zw_76
  | 5, _ => zw_78
  | n + 6, h => absurd h (by omega)
theorem zk_2_t : ∀ k, k < 6 → parseFieldDescriptor (fF_2 k).2.2.1 = some (zz_fty 2 k) := by decide +kernel
theorem zk_2_n : ∀ a, a < 6 → ∀ b, b < 6 → a ≠ b → (fF_2 a).2.1 ≠ (fF_2 b).2.1 := by decide +kernel
theorem zk_3_l : ∀ k, k < 1 → u_lay "RequestGate$PlainPath" fF_3 k ∈ zz_ws
  | 0, _ => zw_84
  | n + 1, h => absurd h (by omega)
theorem zk_3_t : ∀ k, k < 1 → parseFieldDescriptor (fF_3 k).2.2.1 = some (zz_fty 3 k) := by decide +kernel
theorem zk_3_n : ∀ a, a < 1 → ∀ b, b < 1 → a ≠ b → (fF_3 a).2.1 ≠ (fF_3 b).2.1 := by decide +kernel
theorem zk_4_l : ∀ k, k < 2 → u_lay "RequestGate$Layer" fF_4 k ∈ zz_ws
  | 0, _ => zw_95
  | 1, _ => zw_97
  | n + 2, h => absurd h (by omega)
theorem zk_4_t : ∀ k, k < 2 → parseFieldDescriptor (fF_4 k).2.2.1 = some (zz_fty 4 k) := by decide +kernel
theorem zk_4_n : ∀ a, a < 2 → ∀ b, b < 2 → a ≠ b → (fF_4 a).2.1 ≠ (fF_4 b).2.1 := by decide +kernel
theorem zk_5_l : ∀ k, k < 3 → u_lay "RequestGate$Rule" fF_5 k ∈ zz_ws
  | 0, _ => zw_320
  | 1, _ => zw_322
  | 2, _ => zw_324
  | n + 3, h => absurd h (by omega)
theorem zk_5_t : ∀ k, k < 3 → parseFieldDescriptor (fF_5 k).2.2.1 = some (zz_fty 5 k) := by decide +kernel
theorem zk_5_n : ∀ a, a < 3 → ∀ b, b < 3 → a ≠ b → (fF_5 a).2.1 ≠ (fF_5 b).2.1 := by decide +kernel
theorem zk_6_l : ∀ k, k < 1 → u_lay "RequestGate$Roles" fF_6 k ∈ zz_ws
  | 0, _ => zw_130
  | n + 1, h => absurd h (by omega)
theorem zk_6_t : ∀ k, k < 1 → parseFieldDescriptor (fF_6 k).2.2.1 = some (zz_fty 6 k) := by decide +kernel
theorem zk_6_n : ∀ a, a < 1 → ∀ b, b < 1 → a ≠ b → (fF_6 a).2.1 ≠ (fF_6 b).2.1 := by decide +kernel
theorem zk_7_l : ∀ k, k < 5 → u_lay "RequestGate$Conditions" fF_7 k ∈ zz_ws
  | 0, _ => zw_112
  | 1, _ => zw_114
  | 2, _ => zw_116
  | 3, _ => zw_118
  | 4, _ => zw_120
  | n + 5, h => absurd h (by omega)
theorem zk_7_t : ∀ k, k < 5 → parseFieldDescriptor (fF_7 k).2.2.1 = some (zz_fty 7 k) := by decide +kernel
theorem zk_7_n : ∀ a, a < 5 → ∀ b, b < 5 → a ≠ b → (fF_7 a).2.1 ≠ (fF_7 b).2.1 := by decide +kernel
theorem zk_8_l : ∀ k, k < 6 → u_lay "RequestGate$User" fF_8 k ∈ zz_ws
  | 0, _ => zw_425
  | 1, _ => zw_427
  | 2, _ => zw_429
  | 3, _ => zw_431
  | 4, _ => zw_433
  | 5, _ => zw_435
  | n + 6, h => absurd h (by omega)
theorem zk_8_t : ∀ k, k < 6 → parseFieldDescriptor (fF_8 k).2.2.1 = some (zz_fty 8 k) := by decide +kernel
theorem zk_8_n : ∀ a, a < 6 → ∀ b, b < 6 → a ≠ b → (fF_8 a).2.1 ≠ (fF_8 b).2.1 := by decide +kernel
theorem zk_9_l : ∀ k, k < 6 → u_lay "RequestGate$Ticket" fF_9 k ∈ zz_ws
  | 0, _ => zw_589
  | 1, _ => zw_591
  | 2, _ => zw_593
  | 3, _ => zw_595
  | 4, _ => zw_597
  | 5, _ => zw_599
  | n + 6, h => absurd h (by omega)
theorem zk_9_t : ∀ k, k < 6 → parseFieldDescriptor (fF_9 k).2.2.1 = some (zz_fty 9 k) := by decide +kernel
theorem zk_9_n : ∀ a, a < 6 → ∀ b, b < 6 → a ≠ b → (fF_9 a).2.1 ≠ (fF_9 b).2.1 := by decide +kernel
theorem zk_10_l : ∀ k, k < 1 → u_lay "RequestGate$Tickets" fF_10 k ∈ zz_ws
  | 0, _ => zw_168
  | n + 1, h => absurd h (by omega)
theorem zk_10_t : ∀ k, k < 1 → parseFieldDescriptor (fF_10 k).2.2.1 = some (zz_fty 10 k) := by decide +kernel
theorem zk_10_n : ∀ a, a < 1 → ∀ b, b < 1 → a ≠ b → (fF_10 a).2.1 ≠ (fF_10 b).2.1 := by decide +kernel
theorem zk_11_l : ∀ k, k < 5 → u_lay "RequestGate$Service" fF_11 k ∈ zz_ws
  | 0, _ => zw_467
  | 1, _ => zw_469
  | 2, _ => zw_471
  | 3, _ => zw_473
  | 4, _ => zw_475
  | n + 5, h => absurd h (by omega)
theorem zk_11_t : ∀ k, k < 5 → parseFieldDescriptor (fF_11 k).2.2.1 = some (zz_fty 11 k) := by decide +kernel
theorem zk_11_n : ∀ a, a < 5 → ∀ b, b < 5 → a ≠ b → (fF_11 a).2.1 ≠ (fF_11 b).2.1 := by decide +kernel
theorem zk_12_l : ∀ k, k < 3 → u_lay "java/util/ArrayList" fF_12 k ∈ zz_ws
  | 0, _ => zw_152
  | 1, _ => zw_154
  | 2, _ => zw_156
  | n + 3, h => absurd h (by omega)
theorem zk_12_t : ∀ k, k < 3 → parseFieldDescriptor (fF_12 k).2.2.1 = some (zz_fty 12 k) := by decide +kernel
theorem zk_12_n : ∀ a, a < 3 → ∀ b, b < 3 → a ≠ b → (fF_12 a).2.1 ≠ (fF_12 b).2.1 := by decide +kernel
theorem zk_13_l : ∀ k, k < 56 → u_lay "RequestGateModel" fF_13 k ∈ zz_ws
  | 0, _ => zw_866
  | 1, _ => zw_868
  | 2, _ => zw_870
  | 3, _ => zw_872
  | 4, _ => zw_874
  | 5, _ => zw_876
  | 6, _ => zw_878
  | 7, _ => zw_880
  | 8, _ => zw_882
  | 9, _ => zw_884
  | 10, _ => zw_886
  | 11, _ => zw_888
  | 12, _ => zw_890
  | 13, _ => zw_892
  | 14, _ => zw_894
  | 15, _ => zw_896
  | 16, _ => zw_898
  | 17, _ => zw_900
  | 18, _ => zw_902
  | 19, _ => zw_904
  | 20, _ => zw_906
  | 21, _ => zw_908
  | 22, _ => zw_910
  | 23, _ => zw_912
  | 24, _ => zw_914
  | 25, _ => zw_916
  | 26, _ => zw_918
  | 27, _ => zw_920
  | 28, _ => zw_922
  | 29, _ => zw_924
  | 30, _ => zw_926
  | 31, _ => zw_928
  | 32, _ => zw_930
  | 33, _ => zw_932
  | 34, _ => zw_934
  | 35, _ => zw_936
  | 36, _ => zw_938
  | 37, _ => zw_940
  | 38, _ => zw_942
  | 39, _ => zw_944
  | 40, _ => zw_946
  | 41, _ => zw_948
  | 42, _ => zw_950
  | 43, _ => zw_952
  | 44, _ => zw_954
  | 45, _ => zw_956
  | 46, _ => zw_958
  | 47, _ => zw_960
  | 48, _ => zw_962
  | 49, _ => zw_964
  | 50, _ => zw_966
  | 51, _ => zw_968
  | 52, _ => zw_970
  | 53, _ => zw_972
  | 54, _ => zw_974
  | 55, _ => zw_976
  | n + 56, h => absurd h (by omega)
theorem zk_13_t : ∀ k, k < 56 → parseFieldDescriptor (fF_13 k).2.2.1 = some (zz_fty 13 k) := by decide +kernel
theorem zk_13_n : ∀ a, a < 56 → ∀ b, b < 56 → a ≠ b → (fF_13 a).2.1 ≠ (fF_13 b).2.1 := by decide +kernel
theorem zz_layin {C : String} {F : u_T} {N : Nat} (h : ∀ k, k < N → u_lay C F k ∈ zz_ws) : ∀ w ∈ u_ws C F N, w ∈ zz_ws := fun w hw => by
  obtain ⟨k, hk, rfl⟩ := List.mem_map.mp hw
  exact h k (List.mem_range.mp hk)
theorem zz_clok : ∀ {ci : Nat} {C : String} {F : u_T} {N : Nat}, zz_cl[ci]? = some (C, F, N) → (∀ w ∈ u_ws C F N, w ∈ zz_ws) ∧ (∀ k, k < N → parseFieldDescriptor (F k).2.2.1 = some (zz_fty ci k)) ∧ (∀ a, a < N → ∀ b, b < N → a ≠ b → (F a).2.1 ≠ (F b).2.1)
  | 0, _, _, _, h => by cases h; exact ⟨zz_layin zk_0_l, zk_0_t, zk_0_n⟩
  | 1, _, _, _, h => by cases h; exact ⟨zz_layin zk_1_l, zk_1_t, zk_1_n⟩
  | 2, _, _, _, h => by cases h; exact ⟨zz_layin zk_2_l, zk_2_t, zk_2_n⟩
  | 3, _, _, _, h => by cases h; exact ⟨zz_layin zk_3_l, zk_3_t, zk_3_n⟩
  | 4, _, _, _, h => by cases h; exact ⟨zz_layin zk_4_l, zk_4_t, zk_4_n⟩
  | 5, _, _, _, h => by cases h; exact ⟨zz_layin zk_5_l, zk_5_t, zk_5_n⟩
  | 6, _, _, _, h => by cases h; exact ⟨zz_layin zk_6_l, zk_6_t, zk_6_n⟩
  | 7, _, _, _, h => by cases h; exact ⟨zz_layin zk_7_l, zk_7_t, zk_7_n⟩
  | 8, _, _, _, h => by cases h; exact ⟨zz_layin zk_8_l, zk_8_t, zk_8_n⟩
  | 9, _, _, _, h => by cases h; exact ⟨zz_layin zk_9_l, zk_9_t, zk_9_n⟩
  | 10, _, _, _, h => by cases h; exact ⟨zz_layin zk_10_l, zk_10_t, zk_10_n⟩
  | 11, _, _, _, h => by cases h; exact ⟨zz_layin zk_11_l, zk_11_t, zk_11_n⟩
  | 12, _, _, _, h => by cases h; exact ⟨zz_layin zk_12_l, zk_12_t, zk_12_n⟩
  | 13, _, _, _, h => by cases h; exact ⟨zz_layin zk_13_l, zk_13_t, zk_13_n⟩
  | n + 14, _, _, _, h => by cases h
end
section
/-! My own judgement over the kit's W: the heap as a function from addresses to cells, locals and stack as lists. -/
def zz_set {α : Type} : List α → Nat → α → Option (List α)
  | [], _, _ => none
  | _ :: l, 0, v => some (v :: l)
  | a :: l, i + 1, v => (zz_set l i v).map (fun r => a :: r)
theorem zz_set_spec {α : Type} : ∀ {l l' : List α} {i : Nat} {v : α}, zz_set l i v = some l' → i < l.length ∧ l' = l.set i v
  | [], _, _, _, h => by cases h
  | _ :: l, l', 0, v, h => by cases h; exact ⟨Nat.succ_pos _, rfl⟩
  | a :: l, l', i + 1, v, h => by
    simp only [zz_set, Option.map_eq_some_iff] at h
    obtain ⟨r, h1, rfl⟩ := h
    obtain ⟨h2, rfl⟩ := zz_set_spec h1
    exact ⟨Nat.succ_lt_succ h2, rfl⟩
abbrev zz_H : Type := Nat → Option va_E
/-- launch, classes' numbers and slots, array classes by kind, base, the empty array, the class object of Object[] -/
abbrev zz_X : Type := Launch × va_G × (Nat → Nat) × Nat × Nat × Nat × Nat × Nat × (Nat → Int32)
abbrev zz_l (X : zz_X) : Launch := X.1
abbrev zz_D (X : zz_X) : va_G := X.2.1
abbrev zz_a (X : zz_X) : Nat → Nat := X.2.2.1
abbrev zz_b (X : zz_X) : Nat := X.2.2.2.1
abbrev zz_e (X : zz_X) : Nat := X.2.2.2.2.1
abbrev zz_mi (X : zz_X) : Nat := X.2.2.2.2.2.1
/-- the script: where it lies, its length, what it holds -/
abbrev zz_sb (X : zz_X) : Nat := X.2.2.2.2.2.2.1
abbrev zz_sl (X : zz_X) : Nat := X.2.2.2.2.2.2.2.1
abbrev zz_sx (X : zz_X) : Nat → Int32 := X.2.2.2.2.2.2.2.2
abbrev zz_A (X : zz_X) : Nat → Prop := fun q => zz_b X ≤ q
/-- a method: name, code, locals, what it returns -/
abbrev zz_M : Type := MethodName × ByteArray × Nat × Option FieldType
def zz_up (h : zz_H) (a : Nat) (e : va_E) : zz_H := fun q => if q = a then some e else h q
theorem zz_up_eq (h : zz_H) (a : Nat) (e : va_E) : zz_up h a e a = some e := if_pos rfl
theorem zz_up_ne {h : zz_H} {a q : Nat} {e : va_E} (hq : q ≠ a) : zz_up h a e q = h q := if_neg hq
theorem zz_up_up (h : zz_H) (a : Nat) (e f : va_E) : zz_up (zz_up h a e) a f = zz_up h a f := by
  funext q
  by_cases hq : q = a
  · subst hq; rw [zz_up_eq, zz_up_eq]
  · rw [zz_up_ne hq, zz_up_ne hq, zz_up_ne hq]
theorem zz_up_same {h : zz_H} {a : Nat} {e : va_E} (ha : h a = some e) : zz_up h a e = h := by
  funext q
  by_cases hq : q = a
  · subst hq; rw [zz_up_eq, ha]
  · rw [zz_up_ne hq]
def zz_ty (X : zz_X) : List (ClassId × FieldType) := [(zz_a X 0, .int), (zz_a X 1, .char), (zz_a X 2, .boolean), (zz_a X 3, .object "java/lang/Object"), (zz_a X 4, .object "java/lang/Object")]
def zz_c (X : zz_X) (e : va_E) : va_E := match e with
  | .inl x => .inl (zz_a X x.1, x.2)
  | .inr o => .inr o
/-- an array of kind 4 lay there before: of it its class and its length are known -/
def zz_em (X : zz_X) (a N : Nat) (H : Heap) : Prop := ∃ cell : Cell, H[a]? = some cell ∧ cell.cls = zz_a X 4 ∧ cell.slots.size = N ∧ ∀ k, cell.vm ≠ .statics k
def zz_at (X : zz_X) (a : Nat) (e : va_E) (H : Heap) : Prop := match e with
  | .inl x => (match Nat.beq x.1 4 with
    | true => zz_em X a x.2.1 H
    | false => va_at (zz_D X) zz_cl (a, .inl (zz_a X x.1, x.2)) H)
  | .inr o => va_at (zz_D X) zz_cl (a, .inr o) H
theorem zz_at.of {X : zz_X} {a : Nat} {e : va_E} {H : Heap} (h : va_at (zz_D X) zz_cl (a, zz_c X e) H) : zz_at X a e H := by
  rcases e with ⟨k, N, z⟩ | o
  · unfold zz_at
    dsimp only
    cases hk : Nat.beq k 4 with
    | false => exact h
    | true =>
      have hk4 : k = 4 := Nat.eq_of_beq_eq_true hk
      subst hk4
      have h : H[a]? = some (vp_cell (zz_a X 4) (N, z)) := h
      refine ⟨_, h, ?_, ?_, ?_⟩
      · rcases z with z | z | z | z | z <;> rfl
      · rcases z with z | z | z | z | z <;> exact arrV_size _ _ _
      · rcases z with z | z | z | z | z <;> (intro k hk; cases hk)
  · exact h
theorem zz_at.kept {X : zz_X} {a : Nat} {e : va_E} {H H1 : Heap} (h : zz_at X a e H) (hq : H1[a]? = H[a]?) : zz_at X a e H1 := by
  rcases e with ⟨k, x⟩ | o
  · unfold zz_at at h ⊢
    dsimp only at h ⊢
    cases hk : Nat.beq k 4 with
    | false =>
      rw [hk] at h
      exact va_at.kept h hq
    | true =>
      rw [hk] at h
      obtain ⟨cell, h1, h2⟩ := h
      exact ⟨cell, hq.trans h1, h2⟩
  · have h : va_at (zz_D X) zz_cl (a, .inr o) H := h
    exact va_at.kept h hq
theorem zz_at.lt {X : zz_X} {a : Nat} {e : va_E} {H : Heap} (h : zz_at X a e H) : a < H.size := by
  rcases e with ⟨k, x⟩ | o
  · unfold zz_at at h
    dsimp only at h
    cases hk : Nat.beq k 4 with
    | false =>
      rw [hk] at h
      exact va_at.lt h
    | true =>
      rw [hk] at h
      obtain ⟨cell, h1, h2⟩ := h
      exact (Array.getElem?_eq_some_iff.mp h1).1
  · have h : va_at (zz_D X) zz_cl (a, .inr o) H := h
    exact va_at.lt h
/-- the abstract heap and the machine's: every cell that h names lies there; those that may be written lie from the base on -/
def zz_T (X : zz_X) (n : Nat) (h : zz_H) (H : Heap) : Prop :=
  H.size = n ∧ zz_b X ≤ n ∧ ∀ (a : Nat) (e : va_E), h a = some e → zz_at X a e H ∧ ((∃ x, e = .inl (4, x)) ∨ zz_b X ≤ a)
theorem zz_T.lt {X : zz_X} {n : Nat} {h : zz_H} {H : Heap} (hT : zz_T X n h H) {a : Nat} {e : va_E} (ha : h a = some e) : a < n := by
  have := (hT.2.2 a e ha).1.lt
  rw [← hT.1]; exact this
theorem zz_T.put {X : zz_X} {n : Nat} {h : zz_H} {H H1 : Heap} {a : Nat} {e : va_E} (hT : zz_T X n h H) (hb : zz_b X ≤ a) (he : va_at (zz_D X) zz_cl (a, zz_c X e) H1) (z : H1.size = H.size) (oq : ∀ q : Nat, q ≠ a → H1[q]? = H[q]?) : zz_T X n (zz_up h a e) H1 := by
  refine ⟨z.trans hT.1, hT.2.1, fun q f hq => ?_⟩
  by_cases hqa : q = a
  · subst hqa
    rw [zz_up_eq] at hq
    cases hq
    exact ⟨zz_at.of he, Or.inr hb⟩
  · rw [zz_up_ne hqa] at hq
    obtain ⟨h1, h2⟩ := hT.2.2 q f hq
    exact ⟨h1.kept (oq q hqa), h2⟩
theorem zz_T.push {X : zz_X} {n : Nat} {h : zz_H} {H H1 : Heap} {e : va_E} (hT : zz_T X n h H) (he : va_at (zz_D X) zz_cl (n, zz_c X e) H1) (z : H1.size = n + 1) (oq : ∀ q : Nat, q < n → H1[q]? = H[q]?) : zz_T X (n + 1) (zz_up h n e) H1 := by
  refine ⟨z, Nat.le_succ_of_le hT.2.1, fun q f hq => ?_⟩
  by_cases hqa : q = n
  · subst hqa
    rw [zz_up_eq] at hq
    cases hq
    exact ⟨zz_at.of he, Or.inr hT.2.1⟩
  · rw [zz_up_ne hqa] at hq
    obtain ⟨h1, h2⟩ := hT.2.2 q f hq
    exact ⟨h1.kept (oq q (hT.lt hq)), h2⟩
/-- what rides along at every start: classes, array classes, links inside the nest, casts, the empty array's static, the class object -/
def zz_K (X : zz_X) (U : State) : Prop :=
  va_K (zz_D X) zz_cl (zz_ty X) U ∧ (∀ q ∈ zz_nl, va_Nw (.methodLinkNest q.1 q.2.1 q.2.2.1 q.2.2.2) U) ∧ (∀ q ∈ zz_ca, va_Nw (.castable q.1 q.2) U) ∧ va_AO "java/lang/Object" U ∧
  va_Z "java/util/ArrayList" "DEFAULTCAPACITY_EMPTY_ELEMENTDATA" "[Ljava/lang/Object;" (.ref (zz_e X)) (zz_A X) U U.heap ∧ va_Mi "[Ljava/lang/Object;" (zz_mi X) U ∧ va_Dc U
theorem zz_K.go {X : zz_X} {u U : State} (hW : u.WarmedH U.vm) (hq : ∀ a : Nat, a < u.heap.size → ¬ zz_A X a → U.heap[a]? = u.heap[a]?) (h : zz_K X u) : zz_K X U := by
  obtain ⟨h1, h2, h3, h4, h5, h6, h7⟩ := h
  exact ⟨h1.moved hW.alike, fun q hq => (h2 q hq).warmM hW, fun q hq => (h3 q hq).warmC hW, h4.moved hW.alike, (h5.kept hq).moved hW.alike, h6.moved hW.alike, h7.moved hW.alike⟩
theorem zz_K.calling {X : zz_X} {U : State} {g : JFrame} {mk : MethodId} {a : Array Value} (h : zz_K X U) : zz_K X (U.calling g mk a) := by
  obtain ⟨h1, h2, h3, h4, h5, h6, h7⟩ := h
  have r : U.vm.Alike (U.calling g mk a).vm := Vm.Alike.refl U.vm
  exact ⟨h1.moved r, fun q hq => (h2 q hq).same rfl rfl, fun q hq => (h3 q hq).same rfl rfl, h4.moved r, h5.moved r, h6.moved r, h7.moved r⟩
/-- locals, each of one slot -/
def zz_L (L : Nat) (ls : List (Option Value)) (A : Array Slot) : Prop := A.size = L ∧ lv_wf A ∧ ls.length ≤ L ∧ ∀ (i : Nat) (v : Value), ls[i]? = some (some v) → A[i]? = some (.val v) ∧ v.category = 1
def zz_pr : Nat → List (Option Value) → List (Nat × Value)
  | _, [] => []
  | i, none :: l => zz_pr (i + 1) l
  | i, some v :: l => (i, v) :: zz_pr (i + 1) l
theorem zz_pr_in : ∀ (ls : List (Option Value)) (i j : Nat) (v : Value), ls[j]? = some (some v) → (i + j, v) ∈ zz_pr i ls
  | [], _, _, _, h => by simp at h
  | x :: l, i, 0, v, h => by
    simp only [List.getElem?_cons_zero, Option.some.injEq] at h
    subst h
    exact List.mem_cons_self
  | x :: l, i, j + 1, v, h => by
    rw [List.getElem?_cons_succ] at h
    have h1 := zz_pr_in l (i + 1) j v h
    rw [show i + 1 + j = i + (j + 1) by omega] at h1
    cases x with
    | none => exact h1
    | some w => exact List.mem_cons_of_mem _ h1
theorem zz_pr_of : ∀ (ls : List (Option Value)) (i : Nat) (q : Nat × Value), q ∈ zz_pr i ls → ∃ j, q.1 = i + j ∧ ls[j]? = some (some q.2)
  | [], _, _, h => by cases h
  | none :: l, i, q, h => by
    obtain ⟨j, h1, h2⟩ := zz_pr_of l (i + 1) q h
    exact ⟨j + 1, by omega, by rw [List.getElem?_cons_succ]; exact h2⟩
  | some w :: l, i, q, h => by
    rcases List.mem_cons.mp h with h | h
    · subst h
      exact ⟨0, rfl, rfl⟩
    · obtain ⟨j, h1, h2⟩ := zz_pr_of l (i + 1) q h
      exact ⟨j + 1, by omega, by rw [List.getElem?_cons_succ]; exact h2⟩
theorem zz_L.has {L : Nat} {ls : List (Option Value)} {A : Array Slot} (h : zz_L L ls A) : lv_has A L (zz_pr 0 ls) := by
  refine ⟨h.1, h.2.1, fun q hq => ?_⟩
  obtain ⟨j, h1, h2⟩ := zz_pr_of ls 0 q hq
  rw [Nat.zero_add] at h1
  rw [h1]
  exact (h.2.2.2 j q.2 h2).1
theorem zz_L.store {L : Nat} {ls ls' : List (Option Value)} {A A' : Array Slot} {i : Nat} {v : Value} (h : zz_L L ls A) (hs : zz_set ls i (some v) = some ls') (hv : v.category = 1)
    (hA : lv_has A' L ((i, v) :: (zz_pr 0 ls).filter (fun q => !(q.1 == i) && !(q.1 + 1 == i && q.2.category == 2)))) : zz_L L ls' A' := by
  obtain ⟨hi, rfl⟩ := zz_set_spec hs
  refine ⟨hA.1, hA.2.1, by rw [List.length_set]; exact h.2.2.1, fun j w hj => ?_⟩
  by_cases hji : j = i
  · subst hji
    rw [List.getElem?_set_self hi] at hj
    cases hj
    exact ⟨hA.2.2 (j, v) List.mem_cons_self, hv⟩
  · rw [List.getElem?_set_ne (Ne.symm hji)] at hj
    have hw := (h.2.2.2 j w hj).2
    refine ⟨hA.2.2 (j, w) (List.mem_cons_of_mem _ (List.mem_filter.mpr ⟨?_, ?_⟩)), hw⟩
    · have := zz_pr_in ls 0 j w hj
      rwa [Nat.zero_add] at this
    · simp [hji, hw]
theorem zz_L.hi {L : Nat} {ls ls' : List (Option Value)} {A : Array Slot} {i : Nat} {v : Option Value} (h : zz_L L ls A) (hs : zz_set ls i v = some ls') : i < L :=
  Nat.lt_of_lt_of_le (zz_set_spec hs).1 h.2.2.1
/-- the locals at a method's entry -/
def zz_en : List Value → Nat → Option (List (Option Value))
  | [], L => some (List.replicate L none)
  | _ :: _, 0 => none
  | v :: vs, L + 1 => if v.category = 1 then (zz_en vs L).map (fun r => some v :: r) else none
theorem zz_en_spec : ∀ {vs : List Value} {L : Nat} {ls : List (Option Value)} (j : Nat), zz_en vs L = some ls →
    ls.length = L ∧ (lg_sl vs).length ≤ L ∧ ∀ (i : Nat) (v : Value), ls[i]? = some (some v) → (j + i, v) ∈ lv_args j vs ∧ v.category = 1
  | [], L, ls, j, h => by
    cases h
    refine ⟨List.length_replicate, Nat.zero_le _, fun i v hi => ?_⟩
    rw [List.getElem?_replicate] at hi
    split at hi <;> cases hi
  | _ :: _, 0, _, _, h => by cases h
  | w :: vs, L + 1, ls, j, h => by
    unfold zz_en at h
    by_cases hc : w.category = 1
    · rw [if_pos hc, Option.map_eq_some_iff] at h
      obtain ⟨r, h1, rfl⟩ := h
      obtain ⟨a1, a2, a3⟩ := zz_en_spec (j + 1) h1
      have hc2 : ¬ w.category = 2 := by omega
      refine ⟨by simp [a1], ?_, fun i v hi => ?_⟩
      · have : (lg_sl (w :: vs)).length = (lg_sl vs).length + 1 := by simp [lg_sl, hc2]
        omega
      · unfold lv_args
        rw [if_neg hc2]
        cases i with
        | zero =>
          simp only [List.getElem?_cons_zero, Option.some.injEq] at hi
          subst hi
          exact ⟨List.mem_cons_self, hc⟩
        | succ i =>
          rw [List.getElem?_cons_succ] at hi
          obtain ⟨b1, b2⟩ := a3 i v hi
          rw [show j + 1 + i = j + (i + 1) by omega] at b1
          exact ⟨List.mem_cons_of_mem _ b1, b2⟩
    · rw [if_neg hc] at h
      cases h
theorem zz_en_L {vs : List Value} {L : Nat} {ls : List (Option Value)} (h : zz_en vs L = some ls) : zz_L L ls ((lg_sl vs ++ List.replicate (L - (lg_sl vs).length) Slot.unset).toArray) := by
  obtain ⟨a1, a2, a3⟩ := zz_en_spec 0 h
  have hE := lv_entry vs a2
  refine ⟨hE.1, hE.2.1, Nat.le_of_eq a1, fun i v hi => ?_⟩
  obtain ⟨b1, b2⟩ := a3 i v hi
  rw [Nat.zero_add] at b1
  exact ⟨hE.2.2 (i, v) b1, b2⟩
/-- what a method's body knows of its frame -/
def zz_C (X : zz_X) (M : zz_M) (d : Nat) (R : Room) (p : Program) (s : State) (m : MethodId) (args : Array Value) (meth : Method) (c : Code) : Prop :=
  p.tables.exec = Jvm.exec ∧ c.code = M.2.1 ∧ c.maxLocals = M.2.2.1 ∧ meth.sig.returnType = M.2.2.2 ∧ meth.locks = false ∧ s.vm.findClass M.1.cls = some m.cls ∧ meth.name = M.1.name ∧ (∀ w ∈ zz_ws, w.before args s = true) ∧ zz_K X s ∧ zz_b X ≤ s.heap.size ∧ d ≤ R.frames ∧ 39 * d ≤ R.locals ∧ (M.1.cls = "RequestGateLaw" → va_X (zz_sb X) (zz_sl X) (zz_sx X) s s.heap ∧ zz_sb X < s.heap.size ∧ ¬ zz_A X (zz_sb X))
section ZC
variable {X : zz_X} {M : zz_M} {d : Nat} {R : Room} {p : Program} {s : State} {m : MethodId} {args : Array Value} {meth : Method} {c : Code}
theorem zz_C.x (C : zz_C X M d R p s m args meth c) : p.tables.exec = Jvm.exec := C.1
theorem zz_C.b (C : zz_C X M d R p s m args meth c) : c.code = M.2.1 := C.2.1
theorem zz_C.ml (C : zz_C X M d R p s m args meth c) : c.maxLocals = M.2.2.1 := C.2.2.1
theorem zz_C.r (C : zz_C X M d R p s m args meth c) : meth.sig.returnType = M.2.2.2 := C.2.2.2.1
theorem zz_C.lk (C : zz_C X M d R p s m args meth c) : meth.locks = false := C.2.2.2.2.1
theorem zz_C.ow (C : zz_C X M d R p s m args meth c) : s.vm.findClass M.1.cls = some m.cls := C.2.2.2.2.2.1
theorem zz_C.nm (C : zz_C X M d R p s m args meth c) : meth.name = M.1.name := C.2.2.2.2.2.2.1
theorem zz_C.ts (C : zz_C X M d R p s m args meth c) : ∀ w ∈ zz_ws, w.before args s = true := C.2.2.2.2.2.2.2.1
theorem zz_C.k (C : zz_C X M d R p s m args meth c) : zz_K X s := C.2.2.2.2.2.2.2.2.1
theorem zz_C.hb (C : zz_C X M d R p s m args meth c) : zz_b X ≤ s.heap.size := C.2.2.2.2.2.2.2.2.2.1
theorem zz_C.f (C : zz_C X M d R p s m args meth c) : d ≤ R.frames := C.2.2.2.2.2.2.2.2.2.2.1
theorem zz_C.w (C : zz_C X M d R p s m args meth c) : 39 * d ≤ R.locals := C.2.2.2.2.2.2.2.2.2.2.2.1
theorem zz_C.sc (C : zz_C X M d R p s m args meth c) (h : M.1.cls = "RequestGateLaw") : va_X (zz_sb X) (zz_sl X) (zz_sx X) s s.heap ∧ zz_sb X < s.heap.size ∧ ¬ zz_A X (zz_sb X) := C.2.2.2.2.2.2.2.2.2.2.2.2 h
end ZC
/-- a return instruction at pc that may return r -/
def zz_rt (M : zz_M) (pc : Nat) (r : Option Value) : Prop :=
  (∃ (v : Int32) (ty : FieldType), r = some (.int v) ∧ M.2.2.2 = some ty ∧ narrow ty (.int v) = .int v ∧ decode M.2.1 pc = .ok (.ireturn, 1)) ∨
  (r = none ∧ M.2.2.2 = none ∧ decode M.2.1 pc = .ok (.return_, 1)) ∨
  (∃ (v : Value) (rt : FieldType), r = some v ∧ M.2.2.2 = some rt ∧ ((∃ nm, rt = .object nm) ∨ ∃ t, rt = .array t) ∧ (v = .null ∨ ∃ a, v = .ref a) ∧ decode M.2.1 pc = .ok (.areturn, 1))
def zz_R (X : zz_X) (M : zz_M) (R : Room) (Q : Option Value → Nat → zz_H → Prop) (p : Program) (e : Env) (s : State) (m : MethodId) (args : Array Value) (below : List Frame) (meth : Method) (c : Code) (Qf : State → Prop) : Prop :=
  ∀ (r : Option Value) (n : Nat) (h : zz_H) (H : Heap) (locs : List Loc) (cells slots pc : Nat) (A : Array Slot), Q r n h → zz_T X n h H → va_S (zz_A X) s.heap H locs → cells ≤ R.cells → slots ≤ R.slots → zz_rt M pc r →
    W p (zz_l X) e R s m args below meth c H locs cells slots Qf (F0 m pc A r.toList)
/-- from pc, with these locals, this stack and this heap, the method comes to its end, and Q holds of answer, heap size and heap -/
def zz_Z (X : zz_X) (M : zz_M) (d : Nat) (Q : Option Value → Nat → zz_H → Prop) (kc ks pc : Nat) (ls : List (Option Value)) (st : List Value) (n : Nat) (h : zz_H) : Prop :=
  ∀ (p : Program) (e : Env) (R : Room) (s : State) (m : MethodId) (args : Array Value) (below : List Frame) (meth : Method) (c : Code) (Qf : State → Prop) (H : Heap) (locs : List Loc) (cells slots : Nat) (A : Array Slot),
    zz_C X M d R p s m args meth c → zz_R X M R Q p e s m args below meth c Qf → zz_T X n h H → va_S (zz_A X) s.heap H locs → zz_L M.2.2.1 ls A → cells + kc ≤ R.cells → slots + ks ≤ R.slots →
    W p (zz_l X) e R s m args below meth c H locs cells slots Qf (F0 m pc A st)
def zz_Pc (X : zz_X) (av : List Value) (n : Nat) (h : zz_H) : Array Value → State → Prop := fun v U => v = av.toArray ∧ zz_K X U ∧ zz_T X n h U.heap
def zz_Qc (X : zz_X) (Q : Option Value → Nat → zz_H → Prop) : Array Value → State → Outcome → State → Prop := fun _ st o t => (∃ (r : Option Value) (n : Nat) (h : zz_H), o = .returned r ∧ Q r n h ∧ zz_T X n h t.heap) ∧ va_F (zz_A X) st t
/-- a method's contract: called with av, at heap h of size n, it makes at most mc cells of ms slots, and Q holds behind it -/
def zz_Ct (X : zz_X) (M : zz_M) (d mc ms : Nat) (av : List Value) (n : Nat) (h : zz_H) (Q : Option Value → Nat → zz_H → Prop) : Prop :=
  Met (zz_l X) M.1 (Cond.code M.1 M.2.1 M.2.2.1 M.2.2.2 :: zz_ws) { frames := d, cells := mc, slots := ms, locals := 39 * d } (zz_Pc X av n h) (zz_Qc X Q) mc ms (zz_A X)
theorem zz_start {X : zz_X} {M : zz_M} {d mc ms n : Nat} {av : List Value} {h : zz_H} {Q : Option Value → Nat → zz_H → Prop} {ls : List (Option Value)} (hy : plainName M.1.cls = true) (hl : zz_en av M.2.2.1 = some ls)
    (K : zz_Z X M d Q mc ms 0 ls [] n h) (hlw : M.1.cls ≠ "RequestGateLaw" := by decide +kernel) : zz_Ct X M d mc ms av n h Q := by
  refine Met.ofW (cc := M.2.1) (maxL := M.2.2.1) (ret := M.2.2.2) hy rfl ?_
  intro p e s m args below meth c s₁ B hml hv
  obtain ⟨rfl, hK, hT⟩ := hv
  have hts := atoms_spec (ws := (Cond.code M.1 M.2.1 M.2.2.1 M.2.2.2 :: zz_ws)) B.pre
  have hlocks := B.notSynchronized
  rw [lg_entry_eq]
  refine K p e _ s m _ below meth c _ s.heap [] 0 0 _ ⟨B.exec, B.bytes, hml, B.returns, hlocks, findClass_of_methodNamed B.named, (name_of_methodNamed B.named B.method).1, fun w hw => hts w (List.mem_cons_of_mem _ hw), hK, by rw [hT.1]; exact hT.2.1, Nat.le_refl _, Nat.le_refl _, fun hh => absurd hh hlw⟩ ?_ hT va_S.rf (zz_en_L hl) (by rw [Nat.zero_add]; exact Nat.le_refl _) (by rw [Nat.zero_add]; exact Nat.le_refl _)
  intro r n' h' H locs cells slots pc A hQ hT' hS hc hs hr
  refine W.widen (k := mc) (n := ms) hc hs ?_
  have hq : ∀ t : State, t.heap = H → s.WarmedH t.vm → zz_Qc X Q av.toArray s (.returned r) t := fun t ht hW => ⟨⟨r, n', h', rfl, hQ, by rw [ht]; exact hT'⟩, hS.F ht⟩
  rcases hr with ⟨v, ty, rfl, h1, h2, h3⟩ | ⟨rfl, h1, h3⟩ | ⟨v, rt, rfl, h1, h2, h4, h3⟩
  · exact W.zret B.exec B.bytes (B.returns.trans h1) h2 hq hS.2.2 h3 hlocks
  · exact W.vret B.exec B.bytes (B.returns.trans h1) hq hS.2.2 h3 hlocks
  · exact W.aret B.exec B.bytes (B.returns.trans h1) h2 h4 hq hS.2.2 h3 hlocks
/-- the postcondition may be weakened, the room too -/
theorem zz_Z.post {X : zz_X} {M : zz_M} {d kc ks pc n : Nat} {Q Q' : Option Value → Nat → zz_H → Prop} {ls : List (Option Value)} {st : List Value} {h : zz_H} (hQ : ∀ r n' h', Q r n' h' → Q' r n' h') (K : zz_Z X M d Q kc ks pc ls st n h) : zz_Z X M d Q' kc ks pc ls st n h :=
  fun p e R s m args below meth c Qf H locs cells slots A C Re T S L hc hs => K p e R s m args below meth c Qf H locs cells slots A C (fun r n' h' H' l' c' s' pc' A' q => Re r n' h' H' l' c' s' pc' A' (hQ _ _ _ q)) T S L hc hs
theorem zz_Z.less {X : zz_X} {M : zz_M} {d kc ks kc' ks' pc n : Nat} {Q : Option Value → Nat → zz_H → Prop} {ls : List (Option Value)} {st : List Value} {h : zz_H} (h1 : kc' ≤ kc) (h2 : ks' ≤ ks) (K : zz_Z X M d Q kc' ks' pc ls st n h) : zz_Z X M d Q kc ks pc ls st n h :=
  fun p e R s m args below meth c Qf H locs cells slots A C Re T S L hc hs => K p e R s m args below meth c Qf H locs cells slots A C Re T S L (by omega) (by omega)
/-- every cell that h names lies below n -/
theorem zz_Z.lt {X : zz_X} {M : zz_M} {d kc ks pc n : Nat} {Q : Option Value → Nat → zz_H → Prop} {ls : List (Option Value)} {st : List Value} {h : zz_H} (K : (∀ a e, h a = some e → a < n) → zz_Z X M d Q kc ks pc ls st n h) : zz_Z X M d Q kc ks pc ls st n h :=
  fun p e R s m args below meth c Qf H locs cells slots A C Re T S L hc hs => K (fun _ _ ha => T.lt ha) p e R s m args below meth c Qf H locs cells slots A C Re T S L hc hs
/-- an instruction at pc, its length, the next pc -/
def zz_d (M : zz_M) (pc : Nat) (i : Instr) (len q : Nat) : Prop := decode M.2.1 pc = .ok (i, len) ∧ q = pc + len
def zz_ir : Value → Bool
  | .ref _ => true
  | .null => true
  | _ => false
section ZV
variable {X : zz_X} {M : zz_M} {d kc ks pc q n : Nat} {Q : Option Value → Nat → zz_H → Prop} {ls ls' : List (Option Value)} {st : List Value} {h : zz_H}
theorem zi_iconst {z : Int} (hd : zz_d M pc (.iconst z) 1 q)  (k : zz_Z X M d Q kc ks q ls (.int (Int32.ofInt z) :: st) n h) : zz_Z X M d Q kc ks pc ls st n h := by
  obtain ⟨hd, rfl⟩ := hd
  intro p e R s m args below meth c Qf H locs cells slots A C Re T S L hc hs
  exact lv_iconst C.x C.b hd rfl (k p e R s m args below meth c Qf H locs cells slots A C Re T S L hc hs)
theorem zi_bipush {z : Int} {v : Int32} (hd : zz_d M pc (.bipush z) 2 q) (hv : (Int8.ofInt z).toInt32 = v) (k : zz_Z X M d Q kc ks q ls (.int v :: st) n h) : zz_Z X M d Q kc ks pc ls st n h := by
  obtain ⟨hd, rfl⟩ := hd
  intro p e R s m args below meth c Qf H locs cells slots A C Re T S L hc hs
  exact lv_bipush C.x C.b hd hv (k p e R s m args below meth c Qf H locs cells slots A C Re T S L hc hs)
theorem zi_sipush {z : Int} {v : Int32} (hd : zz_d M pc (.sipush z) 3 q) (hv : (Int16.ofInt z).toInt32 = v) (k : zz_Z X M d Q kc ks q ls (.int v :: st) n h) : zz_Z X M d Q kc ks pc ls st n h := by
  obtain ⟨hd, rfl⟩ := hd
  intro p e R s m args below meth c Qf H locs cells slots A C Re T S L hc hs
  exact lv_sipush C.x C.b hd hv (k p e R s m args below meth c Qf H locs cells slots A C Re T S L hc hs)
theorem zi_null  (hd : zz_d M pc .aconst_null 1 q)  (k : zz_Z X M d Q kc ks q ls (.null :: st) n h) : zz_Z X M d Q kc ks pc ls st n h := by
  obtain ⟨hd, rfl⟩ := hd
  intro p e R s m args below meth c Qf H locs cells slots A C Re T S L hc hs
  exact lv_null C.x C.b hd  (k p e R s m args below meth c Qf H locs cells slots A C Re T S L hc hs)
theorem zi_iload_n {i : Fin 4} {x : Int32} (hd : zz_d M pc (.iload_n i) 1 q) (hl : ls[(i : Nat)]? = some (some (.int x))) (k : zz_Z X M d Q kc ks q ls (.int x :: st) n h) : zz_Z X M d Q kc ks pc ls st n h := by
  obtain ⟨hd, rfl⟩ := hd
  intro p e R s m args below meth c Qf H locs cells slots A C Re T S L hc hs
  exact lv_iload_n C.x C.b hd rfl (L.2.2.2 _ _ hl).1 (k p e R s m args below meth c Qf H locs cells slots A C Re T S L hc hs)
theorem zi_iload {i : Nat} {x : Int32} (hd : zz_d M pc (.iload i) 2 q) (hl : ls[i]? = some (some (.int x))) (k : zz_Z X M d Q kc ks q ls (.int x :: st) n h) : zz_Z X M d Q kc ks pc ls st n h := by
  obtain ⟨hd, rfl⟩ := hd
  intro p e R s m args below meth c Qf H locs cells slots A C Re T S L hc hs
  exact lv_iload C.x C.b hd (L.2.2.2 _ _ hl).1 (k p e R s m args below meth c Qf H locs cells slots A C Re T S L hc hs)
theorem zi_aload_nR {i : Fin 4} {x : Nat} (hd : zz_d M pc (.aload_n i) 1 q) (hl : ls[(i : Nat)]? = some (some (.ref x))) (k : zz_Z X M d Q kc ks q ls (.ref x :: st) n h) : zz_Z X M d Q kc ks pc ls st n h := by
  obtain ⟨hd, rfl⟩ := hd
  intro p e R s m args below meth c Qf H locs cells slots A C Re T S L hc hs
  exact lv_aload_n C.x C.b hd rfl (L.2.2.2 _ _ hl).1 (k p e R s m args below meth c Qf H locs cells slots A C Re T S L hc hs)
theorem zi_aloadR {i : Nat} {x : Nat} (hd : zz_d M pc (.aload i) 2 q) (hl : ls[i]? = some (some (.ref x))) (k : zz_Z X M d Q kc ks q ls (.ref x :: st) n h) : zz_Z X M d Q kc ks pc ls st n h := by
  obtain ⟨hd, rfl⟩ := hd
  intro p e R s m args below meth c Qf H locs cells slots A C Re T S L hc hs
  exact lv_aload C.x C.b hd (L.2.2.2 _ _ hl).1 (k p e R s m args below meth c Qf H locs cells slots A C Re T S L hc hs)
theorem zi_aload_nN {i : Fin 4} (hd : zz_d M pc (.aload_n i) 1 q) (hl : ls[(i : Nat)]? = some (some .null)) (k : zz_Z X M d Q kc ks q ls (.null :: st) n h) : zz_Z X M d Q kc ks pc ls st n h := by
  obtain ⟨hd, rfl⟩ := hd
  intro p e R s m args below meth c Qf H locs cells slots A C Re T S L hc hs
  exact lv_aload_nN C.x C.b hd rfl (L.2.2.2 _ _ hl).1 (k p e R s m args below meth c Qf H locs cells slots A C Re T S L hc hs)
theorem zi_aloadN {i : Nat} (hd : zz_d M pc (.aload i) 2 q) (hl : ls[i]? = some (some .null)) (k : zz_Z X M d Q kc ks q ls (.null :: st) n h) : zz_Z X M d Q kc ks pc ls st n h := by
  obtain ⟨hd, rfl⟩ := hd
  intro p e R s m args below meth c Qf H locs cells slots A C Re T S L hc hs
  exact lv_aloadN C.x C.b hd (L.2.2.2 _ _ hl).1 (k p e R s m args below meth c Qf H locs cells slots A C Re T S L hc hs)
theorem zi_aload_n {i : Fin 4} {v : Value} (hd : zz_d M pc (.aload_n i) 1 q) (hl : ls[(i : Nat)]? = some (some v)) (hv : zz_ir v = true) (k : zz_Z X M d Q kc ks q ls (v :: st) n h) : zz_Z X M d Q kc ks pc ls st n h := by
  cases v with
  | ref a => exact zi_aload_nR hd hl k
  | null => exact zi_aload_nN hd hl k
  | int _ => cases hv
  | long _ => cases hv
  | float _ => cases hv
  | double _ => cases hv
  | retAddr _ => cases hv
theorem zi_aload {i : Nat} {v : Value} (hd : zz_d M pc (.aload i) 2 q) (hl : ls[i]? = some (some v)) (hv : zz_ir v = true) (k : zz_Z X M d Q kc ks q ls (v :: st) n h) : zz_Z X M d Q kc ks pc ls st n h := by
  cases v with
  | ref a => exact zi_aloadR hd hl k
  | null => exact zi_aloadN hd hl k
  | int _ => cases hv
  | long _ => cases hv
  | float _ => cases hv
  | double _ => cases hv
  | retAddr _ => cases hv
theorem zi_istore_n {i : Fin 4} {x : Int32} (hd : zz_d M pc (.istore_n i) 1 q) (hl : zz_set ls (i : Nat) (some (.int x)) = some ls') (k : zz_Z X M d Q kc ks q ls' st n h) : zz_Z X M d Q kc ks pc ls ((.int x) :: st) n h := by
  obtain ⟨hd, rfl⟩ := hd
  intro p e R s m args below meth c Qf H locs cells slots A C Re T S L hc hs
  exact lv_istore_n C.x C.b hd rfl L.has (L.hi hl) rfl fun A' hA => k p e R s m args below meth c Qf H locs cells slots A' C Re T S (L.store hl rfl hA) hc hs
theorem zi_istore {i : Nat} {x : Int32} (hd : zz_d M pc (.istore i) 2 q) (hl : zz_set ls i (some (.int x)) = some ls') (k : zz_Z X M d Q kc ks q ls' st n h) : zz_Z X M d Q kc ks pc ls ((.int x) :: st) n h := by
  obtain ⟨hd, rfl⟩ := hd
  intro p e R s m args below meth c Qf H locs cells slots A C Re T S L hc hs
  exact lv_istore C.x C.b hd  L.has (L.hi hl) rfl fun A' hA => k p e R s m args below meth c Qf H locs cells slots A' C Re T S (L.store hl rfl hA) hc hs
theorem zi_astore_nR {i : Fin 4} {x : Nat} (hd : zz_d M pc (.astore_n i) 1 q) (hl : zz_set ls (i : Nat) (some (.ref x)) = some ls') (k : zz_Z X M d Q kc ks q ls' st n h) : zz_Z X M d Q kc ks pc ls ((.ref x) :: st) n h := by
  obtain ⟨hd, rfl⟩ := hd
  intro p e R s m args below meth c Qf H locs cells slots A C Re T S L hc hs
  exact lv_astore_n C.x C.b hd rfl L.has (L.hi hl) rfl fun A' hA => k p e R s m args below meth c Qf H locs cells slots A' C Re T S (L.store hl rfl hA) hc hs
theorem zi_astoreR {i : Nat} {x : Nat} (hd : zz_d M pc (.astore i) 2 q) (hl : zz_set ls i (some (.ref x)) = some ls') (k : zz_Z X M d Q kc ks q ls' st n h) : zz_Z X M d Q kc ks pc ls ((.ref x) :: st) n h := by
  obtain ⟨hd, rfl⟩ := hd
  intro p e R s m args below meth c Qf H locs cells slots A C Re T S L hc hs
  exact lv_astore C.x C.b hd  L.has (L.hi hl) rfl fun A' hA => k p e R s m args below meth c Qf H locs cells slots A' C Re T S (L.store hl rfl hA) hc hs
theorem zi_astore_nN {i : Fin 4} (hd : zz_d M pc (.astore_n i) 1 q) (hl : zz_set ls (i : Nat) (some .null) = some ls') (k : zz_Z X M d Q kc ks q ls' st n h) : zz_Z X M d Q kc ks pc ls (.null :: st) n h := by
  obtain ⟨hd, rfl⟩ := hd
  intro p e R s m args below meth c Qf H locs cells slots A C Re T S L hc hs
  exact lv_astore_nN C.x C.b hd rfl L.has (L.hi hl) rfl fun A' hA => k p e R s m args below meth c Qf H locs cells slots A' C Re T S (L.store hl rfl hA) hc hs
theorem zi_astoreN {i : Nat} (hd : zz_d M pc (.astore i) 2 q) (hl : zz_set ls i (some .null) = some ls') (k : zz_Z X M d Q kc ks q ls' st n h) : zz_Z X M d Q kc ks pc ls (.null :: st) n h := by
  obtain ⟨hd, rfl⟩ := hd
  intro p e R s m args below meth c Qf H locs cells slots A C Re T S L hc hs
  exact lv_astoreN C.x C.b hd  L.has (L.hi hl) rfl fun A' hA => k p e R s m args below meth c Qf H locs cells slots A' C Re T S (L.store hl rfl hA) hc hs
theorem zi_astore_n {i : Fin 4} {v : Value} (hd : zz_d M pc (.astore_n i) 1 q) (hv : zz_ir v = true) (hl : zz_set ls (i : Nat) (some v) = some ls') (k : zz_Z X M d Q kc ks q ls' st n h) : zz_Z X M d Q kc ks pc ls (v :: st) n h := by
  cases v with
  | ref a => exact zi_astore_nR hd hl k
  | null => exact zi_astore_nN hd hl k
  | int _ => cases hv
  | long _ => cases hv
  | float _ => cases hv
  | double _ => cases hv
  | retAddr _ => cases hv
theorem zi_astore {i : Nat} {v : Value} (hd : zz_d M pc (.astore i) 2 q) (hv : zz_ir v = true) (hl : zz_set ls i (some v) = some ls') (k : zz_Z X M d Q kc ks q ls' st n h) : zz_Z X M d Q kc ks pc ls (v :: st) n h := by
  cases v with
  | ref a => exact zi_astoreR hd hl k
  | null => exact zi_astoreN hd hl k
  | int _ => cases hv
  | long _ => cases hv
  | float _ => cases hv
  | double _ => cases hv
  | retAddr _ => cases hv
theorem zi_iinc {i : Nat} {z : Int} {x : Int32} (hd : zz_d M pc (.iinc i z) 3 q) (hx : ls[i]? = some (some (.int x))) (hl : zz_set ls i (some (.int (x + Int32.ofInt z))) = some ls') (k : zz_Z X M d Q kc ks q ls' st n h) : zz_Z X M d Q kc ks pc ls st n h := by
  obtain ⟨hd, rfl⟩ := hd
  intro p e R s m args below meth c Qf H locs cells slots A C Re T S L hc hs
  have h1 := zz_pr_in ls 0 i _ hx
  rw [Nat.zero_add] at h1
  obtain ⟨j, hj⟩ := List.getElem?_of_mem h1
  exact lv_iinc C.x C.b hd L.has hj rfl (L.hi hl) rfl fun A' hA => k p e R s m args below meth c Qf H locs cells slots A' C Re T S (L.store hl rfl hA) hc hs
theorem zi_iadd {x y : Int32} (hd : zz_d M pc .iadd 1 q)  (k : zz_Z X M d Q kc ks q ls (.int (x + y) :: st) n h) : zz_Z X M d Q kc ks pc ls (.int y :: .int x :: st) n h := by
  obtain ⟨hd, rfl⟩ := hd
  intro p e R s m args below meth c Qf H locs cells slots A C Re T S L hc hs
  exact lv_iadd C.x C.b hd  (k p e R s m args below meth c Qf H locs cells slots A C Re T S L hc hs)
theorem zi_isub {x y : Int32} (hd : zz_d M pc .isub 1 q)  (k : zz_Z X M d Q kc ks q ls (.int (x - y) :: st) n h) : zz_Z X M d Q kc ks pc ls (.int y :: .int x :: st) n h := by
  obtain ⟨hd, rfl⟩ := hd
  intro p e R s m args below meth c Qf H locs cells slots A C Re T S L hc hs
  exact lv_isub C.x C.b hd  (k p e R s m args below meth c Qf H locs cells slots A C Re T S L hc hs)
theorem zi_imul {x y : Int32} (hd : zz_d M pc .imul 1 q)  (k : zz_Z X M d Q kc ks q ls (.int (x * y) :: st) n h) : zz_Z X M d Q kc ks pc ls (.int y :: .int x :: st) n h := by
  obtain ⟨hd, rfl⟩ := hd
  intro p e R s m args below meth c Qf H locs cells slots A C Re T S L hc hs
  exact lv_imul C.x C.b hd  (k p e R s m args below meth c Qf H locs cells slots A C Re T S L hc hs)
theorem zi_iand {x y : Int32} (hd : zz_d M pc .iand 1 q)  (k : zz_Z X M d Q kc ks q ls (.int (x &&& y) :: st) n h) : zz_Z X M d Q kc ks pc ls (.int y :: .int x :: st) n h := by
  obtain ⟨hd, rfl⟩ := hd
  intro p e R s m args below meth c Qf H locs cells slots A C Re T S L hc hs
  exact lv_iand C.x C.b hd  (k p e R s m args below meth c Qf H locs cells slots A C Re T S L hc hs)
theorem zi_ior {x y : Int32} (hd : zz_d M pc .ior 1 q)  (k : zz_Z X M d Q kc ks q ls (.int (x ||| y) :: st) n h) : zz_Z X M d Q kc ks pc ls (.int y :: .int x :: st) n h := by
  obtain ⟨hd, rfl⟩ := hd
  intro p e R s m args below meth c Qf H locs cells slots A C Re T S L hc hs
  exact lv_ior C.x C.b hd  (k p e R s m args below meth c Qf H locs cells slots A C Re T S L hc hs)
theorem zi_ixor {x y : Int32} (hd : zz_d M pc .ixor 1 q)  (k : zz_Z X M d Q kc ks q ls (.int (x ^^^ y) :: st) n h) : zz_Z X M d Q kc ks pc ls (.int y :: .int x :: st) n h := by
  obtain ⟨hd, rfl⟩ := hd
  intro p e R s m args below meth c Qf H locs cells slots A C Re T S L hc hs
  exact lv_ixor C.x C.b hd  (k p e R s m args below meth c Qf H locs cells slots A C Re T S L hc hs)
theorem zi_ishl {x y : Int32} (hd : zz_d M pc .ishl 1 q)  (k : zz_Z X M d Q kc ks q ls (.int (x <<< (y &&& 31)) :: st) n h) : zz_Z X M d Q kc ks pc ls (.int y :: .int x :: st) n h := by
  obtain ⟨hd, rfl⟩ := hd
  intro p e R s m args below meth c Qf H locs cells slots A C Re T S L hc hs
  exact lv_ishl C.x C.b hd  (k p e R s m args below meth c Qf H locs cells slots A C Re T S L hc hs)
theorem zi_ishr {x y : Int32} (hd : zz_d M pc .ishr 1 q)  (k : zz_Z X M d Q kc ks q ls (.int (x >>> (y &&& 31)) :: st) n h) : zz_Z X M d Q kc ks pc ls (.int y :: .int x :: st) n h := by
  obtain ⟨hd, rfl⟩ := hd
  intro p e R s m args below meth c Qf H locs cells slots A C Re T S L hc hs
  exact lv_ishr C.x C.b hd  (k p e R s m args below meth c Qf H locs cells slots A C Re T S L hc hs)
theorem zi_idiv {x y : Int32} (hd : zz_d M pc .idiv 1 q) (hy : ¬ y = 0) (k : zz_Z X M d Q kc ks q ls (.int (x / y) :: st) n h) : zz_Z X M d Q kc ks pc ls (.int y :: .int x :: st) n h := by
  obtain ⟨hd, rfl⟩ := hd
  intro p e R s m args below meth c Qf H locs cells slots A C Re T S L hc hs
  exact lv_idiv C.x C.b hd hy (k p e R s m args below meth c Qf H locs cells slots A C Re T S L hc hs)
theorem zi_iushr {x y : Int32} (hd : zz_d M pc .iushr 1 q)  (k : zz_Z X M d Q kc ks q ls (.int ((x.toUInt32 >>> (y.toUInt32 &&& Int32.toUInt32 31)).toInt32) :: st) n h) : zz_Z X M d Q kc ks pc ls (.int y :: .int x :: st) n h := by
  obtain ⟨hd, rfl⟩ := hd
  intro p e R s m args below meth c Qf H locs cells slots A C Re T S L hc hs
  exact lv_iushr C.x C.b hd rfl (k p e R s m args below meth c Qf H locs cells slots A C Re T S L hc hs)
theorem zi_i2c {x : Int32} (hd : zz_d M pc .i2c 1 q)  (k : zz_Z X M d Q kc ks q ls (.int ((x.toUInt32 % 65536).toInt32) :: st) n h) : zz_Z X M d Q kc ks pc ls (.int x :: st) n h := by
  obtain ⟨hd, rfl⟩ := hd
  intro p e R s m args below meth c Qf H locs cells slots A C Re T S L hc hs
  exact lv_i2c C.x C.b hd rfl (k p e R s m args below meth c Qf H locs cells slots A C Re T S L hc hs)
theorem zi_dup {v : Value} (hd : zz_d M pc .dup 1 q) (hv : v.category = 1) (k : zz_Z X M d Q kc ks q ls (v :: v :: st) n h) : zz_Z X M d Q kc ks pc ls (v :: st) n h := by
  obtain ⟨hd, rfl⟩ := hd
  intro p e R s m args below meth c Qf H locs cells slots A C Re T S L hc hs
  exact lv_dup C.x C.b hd hv (k p e R s m args below meth c Qf H locs cells slots A C Re T S L hc hs)
theorem zi_pop {v : Value} (hd : zz_d M pc .pop 1 q) (hv : v.category = 1) (k : zz_Z X M d Q kc ks q ls st n h) : zz_Z X M d Q kc ks pc ls (v :: st) n h := by
  obtain ⟨hd, rfl⟩ := hd
  intro p e R s m args below meth c Qf H locs cells slots A C Re T S L hc hs
  exact lv_pop C.x C.b hd hv (k p e R s m args below meth c Qf H locs cells slots A C Re T S L hc hs)
theorem zi_dup_x1 {v w : Value} (hd : zz_d M pc .dup_x1 1 q) (hv : v.category = 1) (hw : w.category = 1) (k : zz_Z X M d Q kc ks q ls (v :: w :: v :: st) n h) : zz_Z X M d Q kc ks pc ls (v :: w :: st) n h := by
  obtain ⟨hd, rfl⟩ := hd
  intro p e R s m args below meth c Qf H locs cells slots A C Re T S L hc hs
  exact lv_dup_x1 C.x C.b hd hv hw (k p e R s m args below meth c Qf H locs cells slots A C Re T S L hc hs)
theorem zi_dup_x2 {v w u : Value} (hd : zz_d M pc .dup_x2 1 q) (hv : v.category = 1) (hw : w.category = 1) (hu : u.category = 1) (k : zz_Z X M d Q kc ks q ls (v :: w :: u :: v :: st) n h) : zz_Z X M d Q kc ks pc ls (v :: w :: u :: st) n h := by
  obtain ⟨hd, rfl⟩ := hd
  intro p e R s m args below meth c Qf H locs cells slots A C Re T S L hc hs
  exact lv_dup_x2 C.x C.b hd hv hw hu (k p e R s m args below meth c Qf H locs cells slots A C Re T S L hc hs)
theorem zi_dup2 {v w : Value} (hd : zz_d M pc .dup2 1 q) (hv : v.category = 1) (hw : w.category = 1) (k : zz_Z X M d Q kc ks q ls (v :: w :: v :: w :: st) n h) : zz_Z X M d Q kc ks pc ls (v :: w :: st) n h := by
  obtain ⟨hd, rfl⟩ := hd
  intro p e R s m args below meth c Qf H locs cells slots A C Re T S L hc hs
  exact lv_dup2_11 C.x C.b hd hv hw (k p e R s m args below meth c Qf H locs cells slots A C Re T S L hc hs)
theorem zi_goto {off : Int} {t : Nat} (hd : zz_d M pc (.goto off) 3 q) (ht : (pc : Int) + off = (t : Int)) (k : zz_Z X M d Q kc ks t ls st n h) : zz_Z X M d Q kc ks pc ls st n h := by
  obtain ⟨hd, rfl⟩ := hd
  intro p e R s m args below meth c Qf H locs cells slots A C Re T S L hc hs
  exact lv_goto C.x C.b hd ht (k p e R s m args below meth c Qf H locs cells slots A C Re T S L hc hs)
theorem zi_if_eq {x : Int32} {off : Int} {t : Nat} (hd : zz_d M pc (.ifCond .eq off) 3 q) (ht : (pc : Int) + off = (t : Int)) (kt : x = 0 → zz_Z X M d Q kc ks t ls st n h) (kf : ¬ x = 0 → zz_Z X M d Q kc ks q ls st n h) : zz_Z X M d Q kc ks pc ls (.int x :: st) n h := by
  obtain ⟨hd, rfl⟩ := hd
  intro p e R s m args below meth c Qf H locs cells slots A C Re T S L hc hs
  exact lv_if_eq C.x C.b hd ht (fun hx => kt hx p e R s m args below meth c Qf H locs cells slots A C Re T S L hc hs) (fun hx => kf hx p e R s m args below meth c Qf H locs cells slots A C Re T S L hc hs)
theorem zi_if_ne {x : Int32} {off : Int} {t : Nat} (hd : zz_d M pc (.ifCond .ne off) 3 q) (ht : (pc : Int) + off = (t : Int)) (kt : ¬ x = 0 → zz_Z X M d Q kc ks t ls st n h) (kf : x = 0 → zz_Z X M d Q kc ks q ls st n h) : zz_Z X M d Q kc ks pc ls (.int x :: st) n h := by
  obtain ⟨hd, rfl⟩ := hd
  intro p e R s m args below meth c Qf H locs cells slots A C Re T S L hc hs
  exact lv_if_ne C.x C.b hd ht (fun hx => kt hx p e R s m args below meth c Qf H locs cells slots A C Re T S L hc hs) (fun hx => kf hx p e R s m args below meth c Qf H locs cells slots A C Re T S L hc hs)
theorem zi_if_lt {x : Int32} {off : Int} {t : Nat} (hd : zz_d M pc (.ifCond .lt off) 3 q) (ht : (pc : Int) + off = (t : Int)) (kt : x < 0 → zz_Z X M d Q kc ks t ls st n h) (kf : ¬ x < 0 → zz_Z X M d Q kc ks q ls st n h) : zz_Z X M d Q kc ks pc ls (.int x :: st) n h := by
  obtain ⟨hd, rfl⟩ := hd
  intro p e R s m args below meth c Qf H locs cells slots A C Re T S L hc hs
  exact lv_if_lt C.x C.b hd ht (fun hx => kt hx p e R s m args below meth c Qf H locs cells slots A C Re T S L hc hs) (fun hx => kf hx p e R s m args below meth c Qf H locs cells slots A C Re T S L hc hs)
theorem zi_if_ge {x : Int32} {off : Int} {t : Nat} (hd : zz_d M pc (.ifCond .ge off) 3 q) (ht : (pc : Int) + off = (t : Int)) (kt : 0 ≤ x → zz_Z X M d Q kc ks t ls st n h) (kf : ¬ 0 ≤ x → zz_Z X M d Q kc ks q ls st n h) : zz_Z X M d Q kc ks pc ls (.int x :: st) n h := by
  obtain ⟨hd, rfl⟩ := hd
  intro p e R s m args below meth c Qf H locs cells slots A C Re T S L hc hs
  exact lv_if_ge C.x C.b hd ht (fun hx => kt hx p e R s m args below meth c Qf H locs cells slots A C Re T S L hc hs) (fun hx => kf hx p e R s m args below meth c Qf H locs cells slots A C Re T S L hc hs)
theorem zi_if_gt {x : Int32} {off : Int} {t : Nat} (hd : zz_d M pc (.ifCond .gt off) 3 q) (ht : (pc : Int) + off = (t : Int)) (kt : 0 < x → zz_Z X M d Q kc ks t ls st n h) (kf : ¬ 0 < x → zz_Z X M d Q kc ks q ls st n h) : zz_Z X M d Q kc ks pc ls (.int x :: st) n h := by
  obtain ⟨hd, rfl⟩ := hd
  intro p e R s m args below meth c Qf H locs cells slots A C Re T S L hc hs
  exact lv_if_gt C.x C.b hd ht (fun hx => kt hx p e R s m args below meth c Qf H locs cells slots A C Re T S L hc hs) (fun hx => kf hx p e R s m args below meth c Qf H locs cells slots A C Re T S L hc hs)
theorem zi_if_le {x : Int32} {off : Int} {t : Nat} (hd : zz_d M pc (.ifCond .le off) 3 q) (ht : (pc : Int) + off = (t : Int)) (kt : x ≤ 0 → zz_Z X M d Q kc ks t ls st n h) (kf : ¬ x ≤ 0 → zz_Z X M d Q kc ks q ls st n h) : zz_Z X M d Q kc ks pc ls (.int x :: st) n h := by
  obtain ⟨hd, rfl⟩ := hd
  intro p e R s m args below meth c Qf H locs cells slots A C Re T S L hc hs
  exact lv_if_le C.x C.b hd ht (fun hx => kt hx p e R s m args below meth c Qf H locs cells slots A C Re T S L hc hs) (fun hx => kf hx p e R s m args below meth c Qf H locs cells slots A C Re T S L hc hs)
theorem zi_icmp_eq {x y : Int32} {off : Int} {t : Nat} (hd : zz_d M pc (.if_icmp .eq off) 3 q) (ht : (pc : Int) + off = (t : Int)) (kt : x = y → zz_Z X M d Q kc ks t ls st n h) (kf : ¬ x = y → zz_Z X M d Q kc ks q ls st n h) : zz_Z X M d Q kc ks pc ls (.int y :: .int x :: st) n h := by
  obtain ⟨hd, rfl⟩ := hd
  intro p e R s m args below meth c Qf H locs cells slots A C Re T S L hc hs
  exact lv_icmp_eq C.x C.b hd ht (fun hx => kt hx p e R s m args below meth c Qf H locs cells slots A C Re T S L hc hs) (fun hx => kf hx p e R s m args below meth c Qf H locs cells slots A C Re T S L hc hs)
theorem zi_icmp_ne {x y : Int32} {off : Int} {t : Nat} (hd : zz_d M pc (.if_icmp .ne off) 3 q) (ht : (pc : Int) + off = (t : Int)) (kt : ¬ x = y → zz_Z X M d Q kc ks t ls st n h) (kf : x = y → zz_Z X M d Q kc ks q ls st n h) : zz_Z X M d Q kc ks pc ls (.int y :: .int x :: st) n h := by
  obtain ⟨hd, rfl⟩ := hd
  intro p e R s m args below meth c Qf H locs cells slots A C Re T S L hc hs
  exact lv_icmp_ne C.x C.b hd ht (fun hx => kt hx p e R s m args below meth c Qf H locs cells slots A C Re T S L hc hs) (fun hx => kf hx p e R s m args below meth c Qf H locs cells slots A C Re T S L hc hs)
theorem zi_icmp_lt {x y : Int32} {off : Int} {t : Nat} (hd : zz_d M pc (.if_icmp .lt off) 3 q) (ht : (pc : Int) + off = (t : Int)) (kt : x < y → zz_Z X M d Q kc ks t ls st n h) (kf : ¬ x < y → zz_Z X M d Q kc ks q ls st n h) : zz_Z X M d Q kc ks pc ls (.int y :: .int x :: st) n h := by
  obtain ⟨hd, rfl⟩ := hd
  intro p e R s m args below meth c Qf H locs cells slots A C Re T S L hc hs
  exact lv_icmp_lt C.x C.b hd ht (fun hx => kt hx p e R s m args below meth c Qf H locs cells slots A C Re T S L hc hs) (fun hx => kf hx p e R s m args below meth c Qf H locs cells slots A C Re T S L hc hs)
theorem zi_icmp_ge {x y : Int32} {off : Int} {t : Nat} (hd : zz_d M pc (.if_icmp .ge off) 3 q) (ht : (pc : Int) + off = (t : Int)) (kt : y ≤ x → zz_Z X M d Q kc ks t ls st n h) (kf : ¬ y ≤ x → zz_Z X M d Q kc ks q ls st n h) : zz_Z X M d Q kc ks pc ls (.int y :: .int x :: st) n h := by
  obtain ⟨hd, rfl⟩ := hd
  intro p e R s m args below meth c Qf H locs cells slots A C Re T S L hc hs
  exact lv_icmp_ge C.x C.b hd ht (fun hx => kt hx p e R s m args below meth c Qf H locs cells slots A C Re T S L hc hs) (fun hx => kf hx p e R s m args below meth c Qf H locs cells slots A C Re T S L hc hs)
theorem zi_icmp_gt {x y : Int32} {off : Int} {t : Nat} (hd : zz_d M pc (.if_icmp .gt off) 3 q) (ht : (pc : Int) + off = (t : Int)) (kt : y < x → zz_Z X M d Q kc ks t ls st n h) (kf : ¬ y < x → zz_Z X M d Q kc ks q ls st n h) : zz_Z X M d Q kc ks pc ls (.int y :: .int x :: st) n h := by
  obtain ⟨hd, rfl⟩ := hd
  intro p e R s m args below meth c Qf H locs cells slots A C Re T S L hc hs
  exact lv_icmp_gt C.x C.b hd ht (fun hx => kt hx p e R s m args below meth c Qf H locs cells slots A C Re T S L hc hs) (fun hx => kf hx p e R s m args below meth c Qf H locs cells slots A C Re T S L hc hs)
theorem zi_icmp_le {x y : Int32} {off : Int} {t : Nat} (hd : zz_d M pc (.if_icmp .le off) 3 q) (ht : (pc : Int) + off = (t : Int)) (kt : x ≤ y → zz_Z X M d Q kc ks t ls st n h) (kf : ¬ x ≤ y → zz_Z X M d Q kc ks q ls st n h) : zz_Z X M d Q kc ks pc ls (.int y :: .int x :: st) n h := by
  obtain ⟨hd, rfl⟩ := hd
  intro p e R s m args below meth c Qf H locs cells slots A C Re T S L hc hs
  exact lv_icmp_le C.x C.b hd ht (fun hx => kt hx p e R s m args below meth c Qf H locs cells slots A C Re T S L hc hs) (fun hx => kf hx p e R s m args below meth c Qf H locs cells slots A C Re T S L hc hs)
theorem zi_acmp_eq {rx ry : Option Nat} {off : Int} {t : Nat} (hd : zz_d M pc (.if_acmp .eq off) 3 q) (ht : (pc : Int) + off = (t : Int)) (kt : rx = ry → zz_Z X M d Q kc ks t ls st n h) (kf : ¬ rx = ry → zz_Z X M d Q kc ks q ls st n h) : zz_Z X M d Q kc ks pc ls (va_rf ry :: va_rf rx :: st) n h := by
  obtain ⟨hd, rfl⟩ := hd
  intro p e R s m args below meth c Qf H locs cells slots A C Re T S L hc hs
  exact lv_acmp_eq C.x C.b hd ht (fun hx => kt hx p e R s m args below meth c Qf H locs cells slots A C Re T S L hc hs) (fun hx => kf hx p e R s m args below meth c Qf H locs cells slots A C Re T S L hc hs)
theorem zi_acmp_ne {rx ry : Option Nat} {off : Int} {t : Nat} (hd : zz_d M pc (.if_acmp .ne off) 3 q) (ht : (pc : Int) + off = (t : Int)) (kt : ¬ rx = ry → zz_Z X M d Q kc ks t ls st n h) (kf : rx = ry → zz_Z X M d Q kc ks q ls st n h) : zz_Z X M d Q kc ks pc ls (va_rf ry :: va_rf rx :: st) n h := by
  obtain ⟨hd, rfl⟩ := hd
  intro p e R s m args below meth c Qf H locs cells slots A C Re T S L hc hs
  exact lv_acmp_ne C.x C.b hd ht (fun hx => kt hx p e R s m args below meth c Qf H locs cells slots A C Re T S L hc hs) (fun hx => kf hx p e R s m args below meth c Qf H locs cells slots A C Re T S L hc hs)
theorem zi_ifnonnullR {a : Nat} {off : Int} {t : Nat} (hd : zz_d M pc (.ifnonnull off) 3 q) (ht : (pc : Int) + off = (t : Int)) (k : zz_Z X M d Q kc ks t ls st n h) : zz_Z X M d Q kc ks pc ls (.ref a :: st) n h := by
  obtain ⟨hd, rfl⟩ := hd
  intro p e R s m args below meth c Qf H locs cells slots A C Re T S L hc hs
  exact lv_ifnonnull C.x C.b hd ht (k p e R s m args below meth c Qf H locs cells slots A C Re T S L hc hs)
theorem zi_ifnullR {a : Nat} {off : Int} {t : Nat} (hd : zz_d M pc (.ifnull off) 3 q) (ht : (pc : Int) + off = (t : Int)) (k : zz_Z X M d Q kc ks q ls st n h) : zz_Z X M d Q kc ks pc ls (.ref a :: st) n h := by
  obtain ⟨hd, rfl⟩ := hd
  intro p e R s m args below meth c Qf H locs cells slots A C Re T S L hc hs
  exact lv_ifnull C.x C.b hd  (k p e R s m args below meth c Qf H locs cells slots A C Re T S L hc hs)
theorem zi_ifnullN {off : Int} {t : Nat} (hd : zz_d M pc (.ifnull off) 3 q) (ht : (pc : Int) + off = (t : Int)) (k : zz_Z X M d Q kc ks t ls st n h) : zz_Z X M d Q kc ks pc ls (.null :: st) n h := by
  obtain ⟨hd, rfl⟩ := hd
  intro p e R s m args below meth c Qf H locs cells slots A C Re T S L hc hs
  exact lv_ifnullN C.x C.b hd ht (k p e R s m args below meth c Qf H locs cells slots A C Re T S L hc hs)
theorem zi_ifnonnullN {off : Int} {t : Nat} (hd : zz_d M pc (.ifnonnull off) 3 q) (ht : (pc : Int) + off = (t : Int)) (k : zz_Z X M d Q kc ks q ls st n h) : zz_Z X M d Q kc ks pc ls (.null :: st) n h := by
  obtain ⟨hd, rfl⟩ := hd
  intro p e R s m args below meth c Qf H locs cells slots A C Re T S L hc hs
  exact lv_ifnonnullN C.x C.b hd  (k p e R s m args below meth c Qf H locs cells slots A C Re T S L hc hs)
theorem zz_one {D : va_G} {cl : List vw_C} {x : Nat × va_E} {H : Heap} (hx : va_at D cl x H) : va_P D cl [x] H := by
  intro k y hy
  have hk : k < 1 := (List.getElem?_eq_some_iff.mp hy).1
  obtain rfl : k = 0 := by omega
  cases hy
  exact hx
/-- the field at pool place ix: of the class with number ci, its k-th -/
def zz_fl (own : String) (ix ci k : Nat) : Prop := ∃ (Cn : String) (F : u_T) (N : Nat) (ref : String), zz_cl[ci]? = some (Cn, F, N) ∧ k < N ∧ Cond.fieldLink own ix ref (F k).2.1 (F k).2.2.1 ∈ zz_ws ∧ (ref = (F k).1 ∨ Cond.sameField ref (F k).1 (F k).2.1 (F k).2.2.1 ∈ zz_ws)
theorem zz_same {s : State} {args : Array Value} (hts : ∀ w ∈ zz_ws, w.before args s = true) {ref O nm ds : String} (hr : ref = O ∨ Cond.sameField ref O nm ds ∈ zz_ws) (x : ClassId × Class × Nat × Field) (hx : s.fieldFound? O nm ds = some x) : s.fieldFound? ref nm ds = some x := by
  rcases hr with rfl | hr
  · exact hx
  · exact u_same (hts _ hr) x hx
theorem zi_getf {ix ci k a : Nat} {fs : List Value} {v : Value} (hd : zz_d M pc (.getfield ix) 3 q) (hf : zz_fl M.1.cls ix ci k) (ha : h a = some (.inr (ci, fs))) (hv : fs[k]? = some v) (kk : zz_Z X M d Q kc ks q ls (v :: st) n h) : zz_Z X M d Q kc ks pc ls (.ref a :: st) n h := by
  obtain ⟨hd, rfl⟩ := hd
  obtain ⟨Cn, F, N, ref, hcl, hk, hl, hsm⟩ := hf
  intro p e R s m args below meth c Qf H locs cells slots A C Re T S L hc hs
  have hP : va_P (zz_D X) zz_cl [(a, .inr (ci, fs))] H := zz_one (T.2.2 a _ ha).1
  exact va_get C.x C.b C.ts (zz_clok hcl).1 C.ow C.k.1 hP 0 rfl hcl k hk (C.ts _ hl) (fun x hx => zz_same C.ts hsm x hx) hv hd (kk p e R s m args below meth c Qf H locs cells slots A C Re T S L hc hs)
/-- a field that may be written there -/
def zz_fp (M : zz_M) (ix ci k : Nat) (ty : FieldType) : Prop := ∃ (Cn : String) (F : u_T) (N : Nat) (ref : String), zz_cl[ci]? = some (Cn, F, N) ∧ k < N ∧ Cond.fieldLink M.1.cls ix ref (F k).2.1 (F k).2.2.1 ∈ zz_ws ∧ (ref = (F k).1 ∨ Cond.sameField ref (F k).1 (F k).2.1 (F k).2.2.1 ∈ zz_ws) ∧
  parseFieldDescriptor (F k).2.2.1 = some ty ∧ ((F k).2.2.2 = false ∨ ((F k).2.2.2 = true ∧ M.1.name = "<init>" ∧ (F k).1 = M.1.cls))
theorem zz_wr {e : va_E} {a : Nat} (hx : (∃ x, e = .inl (4, x)) ∨ zz_b X ≤ a) (hne : ∀ x, e ≠ .inl (4, x)) : zz_b X ≤ a := by
  rcases hx with ⟨x, hx⟩ | hx
  · exact absurd hx (hne x)
  · exact hx
theorem zi_putf {ix ci k a : Nat} {ty : FieldType} {fs fs' : List Value} {v : Value} (hd : zz_d M pc (.putfield ix) 3 q) (hf : zz_fp M ix ci k ty) (ha : h a = some (.inr (ci, fs))) (hn : narrow ty v = v) (hfit : fits ty v = true) (hset : zz_set fs k v = some fs')
    (kk : zz_Z X M d Q kc ks q ls st n (zz_up h a (.inr (ci, fs')))) : zz_Z X M d Q kc ks pc ls (v :: .ref a :: st) n h := by
  obtain ⟨hd, rfl⟩ := hd
  obtain ⟨Cn, F, N, ref, hcl, hk, hl, hsm, hty, hfin⟩ := hf
  obtain ⟨hlen, rfl⟩ := zz_set_spec hset
  intro p e R s m args below meth c Qf H locs cells slots A C Re T S L hc hs
  obtain ⟨hin, hty0, hnm⟩ := zz_clok hcl
  have hap := va_apart (own := M.1.cls) C.ts hin (zz_fty ci) hty0 hnm C.k.1 hcl
  obtain ⟨hat, hbase⟩ := T.2.2 a _ ha
  have hb : zz_b X ≤ a := zz_wr hbase (fun x hx => by cases hx)
  obtain ⟨r, h1, cell, q1, q2, q3, q4⟩ := hat
  have hr : r = (Cn, F, N) := Option.some.inj (h1.symm.trans hcl)
  subst hr
  obtain ⟨hSl, hfc, kC, hkC, hkind⟩ := C.k.1.1 ci _ hcl
  obtain ⟨cf, kf, fi, f, hi, hsl⟩ := hSl k hk
  have hlay := C.ts _ (hin _ (u_in_lay hk))
  have hst := (u_facts hfc hkC (u_lays C.ts hin hk) hi).1
  have go : ∀ H' : Heap, H'[a]? = some (cell.setSlot f.slot v) → H'.size = H.size → (∀ x, x ≠ a → H'[x]? = H[x]?) → W p (zz_l X) e R s m args below meth c H' (locs ++ [⟨a, f.slot⟩]) cells slots Qf (F0 m (pc + 3) A st) := by
    intro H' e1 e2 e3
    rw [hsl] at e1
    refine kk p e R s m args below meth c Qf H' _ cells slots A C Re (T.put hb ?_ e2 e3) (S.put e2 e3 hb) L hc hs
    exact ⟨_, hcl, t_OB.to (V := updV (vp_V fs) k v) ⟨_, e1, q2, q3, t_set q4 hap hk v⟩ (fun j _ => vp_updV_set hlen v j)⟩
  unfold u_lay at hlay
  rcases hfin with hfin | ⟨hfin, hini, hdecl⟩
  · rw [if_neg (by rw [hfin]; decide)] at hlay
    have h6 := u_store hfc hkC hkind hlay hi hty hn hfit
    exact W.putK C.x C.b (f := f) ⟨C.ow, C.ts _ hl, ⟨_, _, _, zz_same C.ts hsm _ hi⟩, hst⟩ (by rw [q2]; exact h6) q1 q3 (by rw [hsl]; exact k2_hasslot (q4 k hk)) rfl rfl hd go
  · rw [if_pos hfin] at hlay
    have hcf : m.cls = cf := by
      obtain ⟨_, _, c', _, _, _, -, -, hf', -, -, -, hown2, -⟩ := Cond.laysFinal_spec hlay
      have e1 : c' = cf := by have := hi.symm.trans hf'; simp at this; exact this.1.symm
      rw [hdecl] at hown2
      rw [← e1]; exact Option.some.inj (C.ow.symm.trans hown2)
    have h6 := u_fits hfc hkC hkind (Or.inr hlay) hi hty hn hfit
    exact W.putFinK C.x C.b C.ow (C.ts _ hl) (zz_same C.ts hsm _ hi) hst hcf (C.nm.trans hini) (by rw [q2]; exact h6) q1 q3 (by rw [hsl]; exact k2_hasslot (q4 k hk)) rfl rfl hd go
theorem zi_iald {a N : Nat} {f : Nat → Int32} {i : Int32} (hd : zz_d M pc .iaload 1 q) (ha : h a = some (.inl (0, N, .inl f))) (hi : vp_in i N) (kk : zz_Z X M d Q kc ks q ls (.int (f i.toNatClampNeg) :: st) n h) : zz_Z X M d Q kc ks pc ls (.int i :: .ref a :: st) n h := by
  obtain ⟨hd, rfl⟩ := hd
  intro p e R s m args below meth c Qf H locs cells slots A C Re T S L hc hs
  have hP : va_P (zz_D X) zz_cl [(a, .inl (zz_a X 0, N, .inl f))] H := zz_one (T.2.2 a _ ha).1
  exact va_iald C.x C.b C.k.1 hP 0 0 rfl rfl hi hd (kk p e R s m args below meth c Qf H locs cells slots A C Re T S L hc hs)
theorem zi_cald {a N : Nat} {f : Nat → Int32} {i : Int32} (hd : zz_d M pc .caload 1 q) (ha : h a = some (.inl (1, N, .inl f))) (hi : vp_in i N) (kk : zz_Z X M d Q kc ks q ls (.int (f i.toNatClampNeg) :: st) n h) : zz_Z X M d Q kc ks pc ls (.int i :: .ref a :: st) n h := by
  obtain ⟨hd, rfl⟩ := hd
  intro p e R s m args below meth c Qf H locs cells slots A C Re T S L hc hs
  have hP : va_P (zz_D X) zz_cl [(a, .inl (zz_a X 1, N, .inl f))] H := zz_one (T.2.2 a _ ha).1
  exact va_cald C.x C.b C.k.1 hP 0 1 rfl rfl hi hd (kk p e R s m args below meth c Qf H locs cells slots A C Re T S L hc hs)
theorem zi_zald {a N : Nat} {f : Nat → Int32} {i : Int32} (hd : zz_d M pc .baload 1 q) (ha : h a = some (.inl (2, N, .inl f))) (hi : vp_in i N) (kk : zz_Z X M d Q kc ks q ls (.int (f i.toNatClampNeg) :: st) n h) : zz_Z X M d Q kc ks pc ls (.int i :: .ref a :: st) n h := by
  obtain ⟨hd, rfl⟩ := hd
  intro p e R s m args below meth c Qf H locs cells slots A C Re T S L hc hs
  have hP : va_P (zz_D X) zz_cl [(a, .inl (zz_a X 2, N, .inl f))] H := zz_one (T.2.2 a _ ha).1
  exact va_zald C.x C.b C.k.1 hP 0 2 rfl rfl hi hd (kk p e R s m args below meth c Qf H locs cells slots A C Re T S L hc hs)
theorem zi_alen {a kd : Nat} {x : vp_A} {ty : FieldType} (hd : zz_d M pc .arraylength 1 q) (ha : h a = some (.inl (kd, x))) (ht : (zz_ty X)[kd]? = some (zz_a X kd, ty)) (kk : zz_Z X M d Q kc ks q ls (.int (nI x.1) :: st) n h) : zz_Z X M d Q kc ks pc ls (.ref a :: st) n h := by
  obtain ⟨hd, rfl⟩ := hd
  intro p e R s m args below meth c Qf H locs cells slots A C Re T S L hc hs
  have hA := (T.2.2 a _ ha).1
  unfold zz_at at hA
  dsimp only at hA
  cases hk : Nat.beq kd 4 with
  | false =>
    rw [hk] at hA
    have hP : va_P (zz_D X) zz_cl [(a, .inl (zz_a X kd, x))] H := zz_one hA
    exact va_alen C.x C.b C.k.1 hP 0 kd rfl ht rfl hd (kk p e R s m args below meth c Qf H locs cells slots A C Re T S L hc hs)
  | true =>
    rw [hk] at hA
    have hk4 : kd = 4 := Nat.eq_of_beq_eq_true hk
    subst hk4
    obtain ⟨cell, h1, h2, h3, h4⟩ := hA
    obtain ⟨-, kA, k1, comp, k2⟩ := (C.k.1.2 4 _ ht).1 0 (fun _ => .null)
    have hio : s.isArrayOf cell ty := ⟨h4, kA, by rw [h2]; exact k1, comp, k2⟩
    exact W.alen (n := Int32.ofNat x.1) C.x C.b h1 hio (by rw [h3] <;> rfl) rfl rfl hd (kk p e R s m args below meth c Qf H locs cells slots A C Re T S L hc hs)
theorem zi_aald {a N : Nat} {f : Nat → Option Nat} {i : Int32} {v : Value} (hd : zz_d M pc .aaload 1 q) (ha : h a = some (.inl (3, N, .inr (.inr (.inr (.inr f)))))) (hi : vp_in i N) (hv : va_rf (f i.toNatClampNeg) = v) (kk : zz_Z X M d Q kc ks q ls (v :: st) n h) : zz_Z X M d Q kc ks pc ls (.int i :: .ref a :: st) n h := by
  obtain ⟨hd, rfl⟩ := hd
  subst hv
  intro p e R s m args below meth c Qf H locs cells slots A C Re T S L hc hs
  have hP : va_P (zz_D X) zz_cl [(a, .inl (zz_a X 3, N, .inr (.inr (.inr (.inr f)))))] H := zz_one (T.2.2 a _ ha).1
  exact va_aldq C.x C.b C.k.1 hP 0 3 rfl rfl hi hd (kk p e R s m args below meth c Qf H locs cells slots A C Re T S L hc hs)
theorem zz_updV {f : Nat → Int32} {k : Nat} {x : Int32} : updV (fun j => Value.int (f j)) k (.int x) = fun j => Value.int (upd f k x j) := by
  funext j
  by_cases hj : j = k
  · subst hj; simp [updV, upd]
  · simp [updV, upd, hj]
theorem zi_iast {a N : Nat} {f : Nat → Int32} {i x : Int32} (hd : zz_d M pc .iastore 1 q) (ha : h a = some (.inl (0, N, .inl f))) (hi : vp_in i N) (kk : zz_Z X M d Q kc ks q ls st n (zz_up h a (.inl (0, N, .inl (upd f i.toNatClampNeg x))))) : zz_Z X M d Q kc ks pc ls (.int x :: .int i :: .ref a :: st) n h := by
  obtain ⟨hd, rfl⟩ := hd
  intro p e R s m args below meth c Qf H locs cells slots A C Re T S L hc hs
  obtain ⟨hat, hbase⟩ := T.2.2 a _ ha
  have hb : zz_b X ≤ a := zz_wr hbase (fun x hx => by cases hx)
  have hcell : H[a]? = some (vp_cell (zz_a X 0) (N, .inl f)) := hat
  refine W.iast C.x C.b hcell ((C.k.1.2 0 (zz_a X 0, .int) rfl).1 N (fun j => .int (f j))) (fun x => by cases x) (by show ¬ (i < 0 ∨ (arrV _ _ _).slots.size ≤ _); rw [arrV_size]; exact hi) rfl rfl hd fun H1 e1 z oq => ?_
  refine kk p e R s m args below meth c Qf H1 _ cells slots A C Re (T.put hb ?_ z oq) (S.put z oq hb) L hc hs
  show H1[a]? = some (vp_cell _ _)
  rw [e1, vp_cell_i, vp_cell_i, arrV_store, zz_updV]
theorem zi_cast {a N : Nat} {f : Nat → Int32} {i x : Int32} (hd : zz_d M pc .castore 1 q) (ha : h a = some (.inl (1, N, .inl f))) (hi : vp_in i N) (hx : narrow .char (.int x) = .int x) (kk : zz_Z X M d Q kc ks q ls st n (zz_up h a (.inl (1, N, .inl (upd f i.toNatClampNeg x))))) : zz_Z X M d Q kc ks pc ls (.int x :: .int i :: .ref a :: st) n h := by
  obtain ⟨hd, rfl⟩ := hd
  intro p e R s m args below meth c Qf H locs cells slots A C Re T S L hc hs
  obtain ⟨hat, hbase⟩ := T.2.2 a _ ha
  have hb : zz_b X ≤ a := zz_wr hbase (fun x hx => by cases hx)
  have hcell : H[a]? = some (vp_cell (zz_a X 1) (N, .inl f)) := hat
  refine W.cast C.x C.b hcell ((C.k.1.2 1 (zz_a X 1, .char) rfl).1 N (fun j => .int (f j))) (fun x => by cases x) (by show ¬ (i < 0 ∨ (arrV _ _ _).slots.size ≤ _); rw [arrV_size]; exact hi) rfl rfl hd fun H1 e1 z oq => ?_
  refine kk p e R s m args below meth c Qf H1 _ cells slots A C Re (T.put hb ?_ z oq) (S.put z oq hb) L hc hs
  show H1[a]? = some (vp_cell _ _)
  rw [e1, hx, vp_cell_i, vp_cell_i, arrV_store, zz_updV]
theorem zi_zast {a N : Nat} {f : Nat → Int32} {i x : Int32} (hd : zz_d M pc .bastore 1 q) (ha : h a = some (.inl (2, N, .inl f))) (hi : vp_in i N) (hx : narrow .boolean (.int x) = .int x) (kk : zz_Z X M d Q kc ks q ls st n (zz_up h a (.inl (2, N, .inl (upd f i.toNatClampNeg x))))) : zz_Z X M d Q kc ks pc ls (.int x :: .int i :: .ref a :: st) n h := by
  obtain ⟨hd, rfl⟩ := hd
  intro p e R s m args below meth c Qf H locs cells slots A C Re T S L hc hs
  obtain ⟨hat, hbase⟩ := T.2.2 a _ ha
  have hb : zz_b X ≤ a := zz_wr hbase (fun x hx => by cases hx)
  have hcell : H[a]? = some (vp_cell (zz_a X 2) (N, .inl f)) := hat
  refine W.zast C.x C.b hcell ((C.k.1.2 2 (zz_a X 2, .boolean) rfl).1 N (fun j => .int (f j))) (fun x => by cases x) (by show ¬ (i < 0 ∨ (arrV _ _ _).slots.size ≤ _); rw [arrV_size]; exact hi) rfl rfl hd fun H1 e1 z oq => ?_
  refine kk p e R s m args below meth c Qf H1 _ cells slots A C Re (T.put hb ?_ z oq) (S.put z oq hb) L hc hs
  show H1[a]? = some (vp_cell _ _)
  rw [e1, hx, vp_cell_i, vp_cell_i, arrV_store, zz_updV]
theorem zz_updQ {f : Nat → Option Nat} {k : Nat} {x : Option Nat} : updV (fun j => va_rf (f j)) k (va_rf x) = fun j => va_rf (va_up f k x j) := by
  funext j
  by_cases hj : j = k
  · subst hj; simp [updV, va_up]
  · simp [updV, va_up, hj]
/-- objects of this class may lie in an Object[] -/
def zz_el (h : zz_H) (v : Nat) : Prop := ∃ (ci : Nat) (vs : List Value) (r : vw_C), h v = some (.inr (ci, vs)) ∧ zz_cl[ci]? = some r ∧ (r.1, "java/lang/Object") ∈ zz_ca
theorem zz_el.any {n : Nat} {H : Heap} {s : State} {v : Nat} (hK : zz_K X s) (T : zz_T X n h H) (hv : zz_el h v) : va_Any "java/lang/Object" s H v := by
  obtain ⟨ci, vs, r, h1, h2, h3⟩ := hv
  have hP : va_P (zz_D X) zz_cl [(v, .inr (ci, vs))] H := zz_one (T.2.2 v _ h1).1
  exact va_rAny hK.1 hP (q0 := 0) rfl h2 (fun comp c0 g1 g2 => vb_asgC (hK.2.2.1 _ h3) comp c0 g1 g2)
theorem zi_aast {a v N : Nat} {f : Nat → Option Nat} {i : Int32} (hd : zz_d M pc .aastore 1 q) (ha : h a = some (.inl (3, N, .inr (.inr (.inr (.inr f)))))) (hv : zz_el h v) (hi : vp_in i N) (kk : zz_Z X M d Q kc ks q ls st n (zz_up h a (.inl (3, N, .inr (.inr (.inr (.inr (va_up f i.toNatClampNeg (some v))))))))) : zz_Z X M d Q kc ks pc ls (.ref v :: .int i :: .ref a :: st) n h := by
  obtain ⟨hd, rfl⟩ := hd
  intro p e R s m args below meth c Qf H locs cells slots A C Re T S L hc hs
  obtain ⟨hat, hbase⟩ := T.2.2 a _ ha
  have hb : zz_b X ≤ a := zz_wr hbase (fun x hx => by cases hx)
  have hcell : H[a]? = some (vp_cell (zz_a X 3) (N, .inr (.inr (.inr (.inr f))))) := hat
  have hlt : i.toNatClampNeg < N := Nat.not_le.mp fun x => hi (Or.inr x)
  have h0 : ¬ i < 0 := fun x => hi (Or.inl x)
  obtain ⟨cellV, g1, g3, ⟨kC, hkC⟩, hasg⟩ := hv.any C.k T
  obtain ⟨kA, comp, k1, k2, k3, -⟩ := (C.k.1.2 3 (zz_a X 3, .object "java/lang/Object") rfl).2
  obtain ⟨kE, hkE, -⟩ := Vm.findClass_spec k3
  refine W.aast C.x C.b hcell (fun x hx => by cases hx) (fun hx => by cases hx) k1 k2 rfl hkE ⟨h0, by show _ < (arrV _ _ _).slots.size; rw [arrV_size]; exact hlt⟩ g1 (fun x hx => by rw [hx] at g3; cases g3) hkC (hasg _ k3) rfl rfl hd fun H1 e1 z oq => ?_
  refine kk p e R s m args below meth c Qf H1 _ cells slots A C Re (T.put hb ?_ z oq) (S.put z oq hb) L hc hs
  show H1[a]? = some (vp_cell _ _)
  rw [e1, vp_cell_q, vp_cell_q, arrV_store]
  congr 2
  exact zz_updQ (x := some v)
theorem zi_aastN {a N : Nat} {f : Nat → Option Nat} {i : Int32} (hd : zz_d M pc .aastore 1 q) (ha : h a = some (.inl (3, N, .inr (.inr (.inr (.inr f)))))) (hi : vp_in i N) (kk : zz_Z X M d Q kc ks q ls st n (zz_up h a (.inl (3, N, .inr (.inr (.inr (.inr (va_up f i.toNatClampNeg none)))))))) : zz_Z X M d Q kc ks pc ls (.null :: .int i :: .ref a :: st) n h := by
  obtain ⟨hd, rfl⟩ := hd
  intro p e R s m args below meth c Qf H locs cells slots A C Re T S L hc hs
  obtain ⟨hat, hbase⟩ := T.2.2 a _ ha
  have hb : zz_b X ≤ a := zz_wr hbase (fun x hx => by cases hx)
  have hcell : H[a]? = some (vp_cell (zz_a X 3) (N, .inr (.inr (.inr (.inr f))))) := hat
  refine va_WaastN (C := "java/lang/Object") C.x C.b hcell ((C.k.1.2 3 (zz_a X 3, .object "java/lang/Object") rfl).1 N (fun j => va_rf (f j))) (fun hx => by cases hx) (by show ¬ (i < 0 ∨ (arrV _ _ _).slots.size ≤ _); rw [arrV_size]; exact hi) rfl rfl hd fun H1 e1 z oq => ?_
  refine kk p e R s m args below meth c Qf H1 _ cells slots A C Re (T.put hb ?_ z oq) (S.put z oq hb) L hc hs
  show H1[a]? = some (vp_cell _ _)
  rw [e1, vp_cell_q, vp_cell_q, arrV_store]
  congr 2
  exact zz_updQ (x := none)
theorem zi_newi {x : Int32} {N kc' ks' : Nat} (hd : zz_d M pc (.newarray .int) 2 q) (hw : Cond.arrayClass .int ∈ zz_ws) (h0 : ¬ x < 0) (hN : x.toNatClampNeg = N) (hb : N ≤ 100000) (hkc : kc = kc' + 1) (hks : ks = ks' + N)
    (kk : zz_Z X M d Q kc' ks' q ls (.ref n :: st) (n + 1) (zz_up h n (.inl (0, N, .inl (fun _ => 0))))) : zz_Z X M d Q kc ks pc ls (.int x :: st) n h := by
  obtain ⟨hd, rfl⟩ := hd
  subst hkc hks
  intro p e R s m args below meth c Qf H locs cells slots A C Re T S L hc hs
  refine va_newaK (atype := .int) C.x C.b (C.ts _ hw) rfl hd rfl h0 hN (by show N * 4 ≤ _; omega) (by omega) (by omega) T.1 fun H1 cA e1 z1 o1 hAr hNm => ?_
  have hca : cA = zz_a X 0 := Option.some.inj (hNm.symm.trans (C.k.1.2 0 (zz_a X 0, .int) rfl).2)
  subst hca
  have hz : s.heap.size ≤ n := by have := S.1; rw [T.1] at this; exact this
  refine kk p e R s m args below meth c Qf H1 _ (cells + 1) (slots + N) A C Re (T.push e1 z1 o1) ⟨by omega, fun y g1 g2 => (o1 y (Nat.lt_of_lt_of_le g1 hz)).trans (S.2.1 y g1 g2), S.2.2⟩ L (by omega) (by omega)
theorem zi_newc {x : Int32} {N kc' ks' : Nat} (hd : zz_d M pc (.newarray .char) 2 q) (hw : Cond.arrayClass .char ∈ zz_ws) (h0 : ¬ x < 0) (hN : x.toNatClampNeg = N) (hb : N ≤ 100000) (hkc : kc = kc' + 1) (hks : ks = ks' + N)
    (kk : zz_Z X M d Q kc' ks' q ls (.ref n :: st) (n + 1) (zz_up h n (.inl (1, N, .inl (fun _ => 0))))) : zz_Z X M d Q kc ks pc ls (.int x :: st) n h := by
  obtain ⟨hd, rfl⟩ := hd
  subst hkc hks
  intro p e R s m args below meth c Qf H locs cells slots A C Re T S L hc hs
  refine va_newaK (atype := .char) C.x C.b (C.ts _ hw) rfl hd rfl h0 hN (by show N * 2 ≤ _; omega) (by omega) (by omega) T.1 fun H1 cA e1 z1 o1 hAr hNm => ?_
  have hca : cA = zz_a X 1 := Option.some.inj (hNm.symm.trans (C.k.1.2 1 (zz_a X 1, .char) rfl).2)
  subst hca
  have hz : s.heap.size ≤ n := by have := S.1; rw [T.1] at this; exact this
  refine kk p e R s m args below meth c Qf H1 _ (cells + 1) (slots + N) A C Re (T.push e1 z1 o1) ⟨by omega, fun y g1 g2 => (o1 y (Nat.lt_of_lt_of_le g1 hz)).trans (S.2.1 y g1 g2), S.2.2⟩ L (by omega) (by omega)
theorem zi_newz {x : Int32} {N kc' ks' : Nat} (hd : zz_d M pc (.newarray .boolean) 2 q) (hw : Cond.arrayClass .boolean ∈ zz_ws) (h0 : ¬ x < 0) (hN : x.toNatClampNeg = N) (hb : N ≤ 100000) (hkc : kc = kc' + 1) (hks : ks = ks' + N)
    (kk : zz_Z X M d Q kc' ks' q ls (.ref n :: st) (n + 1) (zz_up h n (.inl (2, N, .inl (fun _ => 0))))) : zz_Z X M d Q kc ks pc ls (.int x :: st) n h := by
  obtain ⟨hd, rfl⟩ := hd
  subst hkc hks
  intro p e R s m args below meth c Qf H locs cells slots A C Re T S L hc hs
  refine va_newaK (atype := .boolean) C.x C.b (C.ts _ hw) rfl hd rfl h0 hN (by show N * 1 ≤ _; omega) (by omega) (by omega) T.1 fun H1 cA e1 z1 o1 hAr hNm => ?_
  have hca : cA = zz_a X 2 := Option.some.inj (hNm.symm.trans (C.k.1.2 2 (zz_a X 2, .boolean) rfl).2)
  subst hca
  have hz : s.heap.size ≤ n := by have := S.1; rw [T.1] at this; exact this
  refine kk p e R s m args below meth c Qf H1 _ (cells + 1) (slots + N) A C Re (T.push e1 z1 o1) ⟨by omega, fun y g1 g2 => (o1 y (Nat.lt_of_lt_of_le g1 hz)).trans (S.2.1 y g1 g2), S.2.2⟩ L (by omega) (by omega)
theorem zi_newq {x : Int32} {ix N kc' ks' : Nat} (hd : zz_d M pc (.anewarray ix) 3 q) (hw : Cond.classLink M.1.cls ix "java/lang/Object" ∈ zz_ws) (h0 : ¬ x < 0) (hN : x.toNatClampNeg = N) (hb : N ≤ 100000) (hkc : kc = kc' + 1) (hks : ks = ks' + N)
    (kk : zz_Z X M d Q kc' ks' q ls (.ref n :: st) (n + 1) (zz_up h n (.inl (3, N, .inr (.inr (.inr (.inr (fun _ => none)))))))) : zz_Z X M d Q kc ks pc ls (.int x :: st) n h := by
  obtain ⟨hd, rfl⟩ := hd
  subst hkc hks
  subst hN
  intro p e R s m args below meth c Qf H locs cells slots A C Re T S L hc hs
  refine W.anew C.x C.b C.ow (C.ts _ hw) (va_AO.use C.k.2.2.2.1) rfl hd rfl h0 (by omega) (by omega) (by omega) fun cA kA comp f1 f2 f3 f4 => ?_
  obtain ⟨-, -, -, -, -, f5⟩ := (C.k.1.2 3 (zz_a X 3, .object "java/lang/Object") rfl).2
  have hca : cA = zz_a X 3 := Option.some.inj (f1.symm.trans f5)
  subst hca
  have hT1 := T.1
  generalize hH1 : H.push ({ cls := zz_a X 3, slots := Array.replicate x.toNatClampNeg .null, vm := .none } : Cell) = H1
  have z1 : H1.size = n + 1 := by rw [← hH1, Array.size_push, T.1]
  have e1 : H1[n]? = some (arrV (zz_a X 3) x.toNatClampNeg (fun _ => .null)) := by rw [← hH1, ← T.1, Array.getElem?_push_size, ← arrV_new]
  have o1 : ∀ y : Nat, y < n → H1[y]? = H[y]? := fun y hy => by rw [← hH1, Array.getElem?_push, if_neg (by rw [T.1]; exact Nat.ne_of_lt hy)]
  have hz : s.heap.size ≤ n := by have := S.1; rw [T.1] at this; exact this
  have hg : W p (zz_l X) e R s m args below meth c H1 locs (cells + 1) (slots + x.toNatClampNeg) Qf (F0 m (pc + 3) A (.ref n :: st)) :=
    kk p e R s m args below meth c Qf H1 _ (cells + 1) (slots + x.toNatClampNeg) A C Re (T.push e1 z1 o1) ⟨by omega, fun y g1 g2 => (o1 y (Nat.lt_of_lt_of_le g1 hz)).trans (S.2.1 y g1 g2), S.2.2⟩ L (by omega) (by omega)
  rw [← hT1] at hg
  exact hg
def zz_nw (own : String) (ix ci N : Nat) (fs : List Value) : Prop := ∃ (Cn : String) (F : u_T), zz_cl[ci]? = some (Cn, F, N) ∧ Cond.classLink own ix Cn ∈ zz_ws ∧ Cond.instantiable Cn N ∈ zz_ws ∧ Cond.initialized Cn ∈ zz_ws ∧ ∀ j, j < N → defaultValue (zz_fty ci j) = vp_V fs j
theorem zi_new {ix ci N kc' ks' : Nat} {fs : List Value} (hd : zz_d M pc (.new ix) 3 q) (hw : zz_nw M.1.cls ix ci N fs) (hkc : kc = kc' + 1) (hks : ks = ks' + N)
    (kk : zz_Z X M d Q kc' ks' q ls (.ref n :: st) (n + 1) (zz_up h n (.inr (ci, fs)))) : zz_Z X M d Q kc ks pc ls st n h := by
  obtain ⟨hd, rfl⟩ := hd
  subst hkc hks
  obtain ⟨Cn, F, hcl, w1, w2, w3, hfs⟩ := hw
  intro p e R s m args below meth c Qf H locs cells slots A C Re T S L hc hs
  obtain ⟨hin, hty0, hnm⟩ := zz_clok hcl
  have hKn := C.k.1.1 ci _ hcl
  refine W.newcK C.x C.b C.ow (C.ts _ w1) (C.ts _ w2) (C.ts _ w3) rfl hd (by omega) (by omega) hKn.2.1 T.1 fun H1 kC hkC e1 z1 o1 => ?_
  have hz : s.heap.size ≤ n := by have := S.1; rw [T.1] at this; exact this
  exact kk p e R s m args below meth c Qf H1 _ (cells + 1) (slots + N) A C Re (T.push ⟨_, hcl, (u_born (zz_fty ci) C.ts hin hKn hkC e1 hty0).to hfs⟩ z1 o1) ⟨by omega, fun y g1 g2 => (o1 y (Nat.lt_of_lt_of_le g1 hz)).trans (S.2.1 y g1 g2), S.2.2⟩ L (by omega) (by omega)
theorem zi_gets {ix : Nat} (hd : zz_d M pc (.getstatic ix) 3 q) (hl : Cond.fieldLink M.1.cls ix "java/util/ArrayList" "DEFAULTCAPACITY_EMPTY_ELEMENTDATA" "[Ljava/lang/Object;" ∈ zz_ws) (kk : zz_Z X M d Q kc ks q ls (.ref (zz_e X) :: st) n h) : zz_Z X M d Q kc ks pc ls st n h := by
  obtain ⟨hd, rfl⟩ := hd
  intro p e R s m args below meth c Qf H locs cells slots A C Re T S L hc hs
  exact va_gets C.x C.b C.k.2.2.2.2.1 S C.ow (C.ts _ hl) (fun x hx => hx) hd (kk p e R s m args below meth c Qf H locs cells slots A C Re T S L hc hs)
theorem zz_recv {n : Nat} {H : Heap} {s : State} {a ci : Nat} {fs : List Value} {r : vw_C} (hK : zz_K X s) (T : zz_T X n h H) (ha : h a = some (.inr (ci, fs))) (hcl : zz_cl[ci]? = some r) : ∃ cell : Cell, H[a]? = some cell ∧ cell.vm.isStatics = false ∧ s.vm.findClass r.1 = some cell.cls := by
  have hP : va_P (zz_D X) zz_cl [(a, .inr (ci, fs))] H := zz_one (T.2.2 a _ ha).1
  exact va_recv hK.1 hP hcl (q0 := 0) rfl
theorem zi_castS {ix a ci N : Nat} {nm : String} {F : u_T} {fs : List Value} (hd : zz_d M pc (.checkcast ix) 3 q) (hl : Cond.classLink M.1.cls ix nm ∈ zz_ws) (ha : h a = some (.inr (ci, fs))) (hcl : zz_cl[ci]? = some (nm, F, N)) (kk : zz_Z X M d Q kc ks q ls (.ref a :: st) n h) : zz_Z X M d Q kc ks pc ls (.ref a :: st) n h := by
  obtain ⟨hd, rfl⟩ := hd
  intro p e R s m args below meth c Qf H locs cells slots A C Re T S L hc hs
  exact va_castS C.x C.b C.ow (C.ts _ hl) (C.k.1.1 ci _ hcl).2 (zz_recv C.k T ha hcl) hd (kk p e R s m args below meth c Qf H locs cells slots A C Re T S L hc hs)
theorem zi_castN {ix : Nat} (hd : zz_d M pc (.checkcast ix) 3 q) (kk : zz_Z X M d Q kc ks q ls (.null :: st) n h) : zz_Z X M d Q kc ks pc ls (.null :: st) n h := by
  obtain ⟨hd, rfl⟩ := hd
  intro p e R s m args below meth c Qf H locs cells slots A C Re T S L hc hs
  exact lv_castN C.x C.b hd (kk p e R s m args below meth c Qf H locs cells slots A C Re T S L hc hs)
theorem zi_castA {ix a : Nat} {x : vp_A} (hd : zz_d M pc (.checkcast ix) 3 q) (hl : Cond.classLink M.1.cls ix "[Ljava/lang/Object;" ∈ zz_ws) (ha : h a = some (.inl (3, x))) (kk : zz_Z X M d Q kc ks q ls (.ref a :: st) n h) : zz_Z X M d Q kc ks pc ls (.ref a :: st) n h := by
  obtain ⟨hd, rfl⟩ := hd
  intro p e R s m args below meth c Qf H locs cells slots A C Re T S L hc hs
  have hP : va_P (zz_D X) zz_cl [(a, .inl (zz_a X 3, x))] H := zz_one (T.2.2 a _ ha).1
  exact va_castA C.x C.b C.ow (C.ts _ hl) hP 0 rfl (va_nmO (C.k.1.2 3 (zz_a X 3, .object "java/lang/Object") rfl).2 rfl) hd (kk p e R s m args below meth c Qf H locs cells slots A C Re T S L hc hs)
/-! calls -/
theorem zz_blind {av : List Value} {n : Nat} {h : zz_H} : FrameBlind (zz_Pc X av n h) := fun _ _ _ _ x => ⟨x.1, x.2.1.calling, x.2.2⟩
theorem zz_G {M' : zz_M} (hc : Cond.code M'.1 M'.2.1 M'.2.2.1 M'.2.2.2 ∈ zz_ws) : GoodIn zz_ws (Cond.code M'.1 M'.2.1 M'.2.2.1 M'.2.2.2 :: zz_ws) := fun w hw => by
  rcases List.mem_cons.mp hw with rfl | hw
  · exact zz_wsG _ hc
  · exact zz_wsG _ hw
theorem zz_after {p : Program} {e : Env} {R : Room} {s : State} {m : MethodId} {args av : Array Value} {below : List Frame} {meth : Method} {c : Code} {Qf : State → Prop} {H : Heap} {locs : List Loc} {cells slots mc ms : Nat} {A : Array Slot} {st0 : List Value} {Q' : Option Value → Nat → zz_H → Prop}
    (hr : va_Run p (zz_l X) e R s m args below meth c H locs cells slots mc ms (F0 m pc A st0) st (zz_Qc X Q' av) (zz_A X)) (S : va_S (zz_A X) s.heap H locs)
    (kk : ∀ (r : Option Value) (n' : Nat) (h' : zz_H) (H1 : Heap) (locs1 : List Loc), Q' r n' h' → zz_T X n' h' H1 → va_S (zz_A X) s.heap H1 locs1 → W p (zz_l X) e R s m args below meth c H1 locs1 (cells + mc) (slots + ms) Qf (F0 m (pc + 3) A (r.toList ++ st))) :
    W p (zz_l X) e R s m args below meth c H locs cells slots Qf (F0 m pc A st0) := by
  intro T0 hT0 X0
  obtain ⟨v, st₀, t, T', L, h0, X', hL, e1, e2, ⟨⟨r, n', h', hv, hq, hT'⟩, hz, hk⟩, stp⟩ := hr T0 hT0 X0
  cases hv
  rw [h0] at hz hk
  obtain ⟨t2, a1, b1⟩ := kk v n' h' T'.heap (locs ++ L) hq (by rw [e1]; exact hT') ⟨Nat.le_trans S.1 (by rw [e1]; exact hz), fun y g1 g2 => by rw [e1, hk y (Nat.lt_of_lt_of_le g1 S.1) g2]; exact S.2.1 y g1 g2, fun y hy => by
      rcases List.mem_append.mp hy with g | g
      · exact S.2.2 y g
      · exact hL y g⟩ T' rfl X'
  exact ⟨t2, stp t2 a1, b1⟩
abbrev zz_ok (M' : zz_M) (nA : Nat) : Prop := Cond.code M'.1 M'.2.1 M'.2.2.1 M'.2.2.2 ∈ zz_ws ∧ Cond.initialized M'.1.cls ∈ zz_ws ∧ (M'.1.cls ≠ "java/lang/invoke/MethodHandle" ∧ M'.1.cls ≠ "java/lang/invoke/VarHandle" ∧ (parseMethodDescriptor M'.1.desc).map (fun d => d.parameters.length) = some nA) ∧ M'.2.2.1 ≤ 20
/-- an instance method, by its own name -/
def zz_iv (M' : zz_M) (nA : Nat) : Prop := zz_ok M' nA ∧ Cond.instanceMethod M'.1 ∈ zz_ws ∧ Cond.selects M'.1.cls M'.1 M'.1 ∈ zz_ws
def zz_is (M' : zz_M) (nA : Nat) : Prop := zz_ok M' nA ∧ Cond.static M'.1 ∈ zz_ws
def zz_ii (M' : zz_M) (nA : Nat) : Prop := zz_ok M' nA ∧ Cond.instanceMethod M'.1 ∈ zz_ws ∧ M'.1.name = "<init>" ∧ M'.2.2.2 = none
/-- a link from own's pool place ix to y: plain, or inside the nest -/
def zz_ml (own : String) (ix : Nat) (y : MethodName) : Prop := Cond.methodLink own ix y ∈ zz_ws ∨ ∃ host, (own, ix, y, host) ∈ zz_nl
theorem zi_invV {M' : zz_M} {ix d' mc ms kc' ks' a ci N nA : Nat} {F : u_T} {fs As st0 : List Value} {Q' : Option Value → Nat → zz_H → Prop} (hd : zz_d M pc (.invokevirtual ix) 3 q) (hl : zz_ml M.1.cls ix M'.1) (hv : zz_iv M' nA)
    (hM : zz_Ct X M' d' mc ms (.ref a :: As) n h Q') (ha : h a = some (.inr (ci, fs))) (hcl : zz_cl[ci]? = some (M'.1.cls, F, N)) (hst : st0 = As.reverse ++ .ref a :: st) (hn : As.length = nA) (hw : (st.map fun v => v.category).sum ≤ 8) (hdd : d' + 1 ≤ d) (hkc : kc = kc' + mc) (hks : ks = ks' + ms)
    (k : ∀ (r : Option Value) (n' : Nat) (h' : zz_H), Q' r n' h' → zz_Z X M d Q kc' ks' q ls (r.toList ++ st) n' h') : zz_Z X M d Q kc ks pc ls st0 n h := by
  obtain ⟨hd, rfl⟩ := hd
  obtain ⟨⟨c1, c2, c3, c4⟩, c5, c6⟩ := hv
  subst hkc hks hst
  intro p e R s m args below meth c Qf H locs cells slots A C Re T S L hc hs
  have hR : d' + 1 ≤ R.frames ∧ 8 + (M'.2.2.1 + 11) + 39 * d' ≤ R.locals := ⟨Nat.le_trans hdd C.f, by have := C.w; omega⟩
  have hPc : PreV s H M'.1.cls a (zz_Pc X (.ref a :: As) n h) As := ⟨zz_blind, zz_recv C.k T ha hcl, fun U hU hW => ⟨rfl, C.k.go hW (fun y g1 g2 => by rw [hU]; exact S.2.1 y g1 g2), by rw [hU]; exact T⟩⟩
  have hf : cells + mc ≤ R.cells ∧ slots + ms ≤ R.slots := ⟨by omega, by omega⟩
  have go := fun (hr : va_Run p (zz_l X) e R s m args below meth c H locs cells slots mc ms (F0 m pc A (As.reverse ++ .ref a :: st)) st (zz_Qc X Q' (Value.ref a :: As).toArray) (zz_A X)) => zz_after (Qf := Qf) hr S fun r n' h' H1 locs1 hq hT' hS' => k r n' h' hq p e R s m args below meth c Qf H1 locs1 (cells + mc) (slots + ms) A C Re hT' hS' L (by omega) (by omega)
  rcases hl with hl | ⟨host, hl⟩
  · exact go (va_runV ⟨C.x, C.b, C.ml, C.ow, C.ts⟩ hM ⟨callB_of nA C.ts (zz_G c1) rfl rfl rfl (C.ts _ c2) (C.ts _ hl) c3 hR, C.ts _ c5, C.ts _ c6⟩ hPc rfl hn L.1 rfl (lv_room hw) hd hf)
  · exact go (va_runVN ⟨C.x, C.b, C.ml, C.ow, C.ts⟩ hM ⟨va_cnB nA C.ts (zz_G c1) rfl rfl rfl (C.k.2.1 _ hl) (C.ts _ c2) c3 hR, C.ts _ c5, C.ts _ c6⟩ hPc rfl hn L.1 rfl (lv_room hw) hd hf)
theorem zi_invS {M' : zz_M} {ix d' mc ms kc' ks' nA : Nat} {As st0 : List Value} {Q' : Option Value → Nat → zz_H → Prop} (hd : zz_d M pc (.invokestatic ix) 3 q) (hl : zz_ml M.1.cls ix M'.1) (hv : zz_is M' nA)
    (hM : zz_Ct X M' d' mc ms As n h Q') (hst : st0 = As.reverse ++ st) (hn : As.length = nA) (hw : (st.map fun v => v.category).sum ≤ 8) (hdd : d' + 1 ≤ d) (hkc : kc = kc' + mc) (hks : ks = ks' + ms)
    (k : ∀ (r : Option Value) (n' : Nat) (h' : zz_H), Q' r n' h' → zz_Z X M d Q kc' ks' q ls (r.toList ++ st) n' h') : zz_Z X M d Q kc ks pc ls st0 n h := by
  obtain ⟨hd, rfl⟩ := hd
  obtain ⟨⟨c1, c2, c3, c4⟩, c5⟩ := hv
  subst hkc hks hst
  intro p e R s m args below meth c Qf H locs cells slots A C Re T S L hc hs
  have hR : d' + 1 ≤ R.frames ∧ 8 + (M'.2.2.1 + 11) + 39 * d' ≤ R.locals := ⟨Nat.le_trans hdd C.f, by have := C.w; omega⟩
  have hPc : PreS s H (zz_Pc X As n h) As := ⟨zz_blind, fun U hU hW => ⟨rfl, C.k.go hW (fun y g1 g2 => by rw [hU]; exact S.2.1 y g1 g2), by rw [hU]; exact T⟩⟩
  have hf : cells + mc ≤ R.cells ∧ slots + ms ≤ R.slots := ⟨by omega, by omega⟩
  have go := fun (hr : va_Run p (zz_l X) e R s m args below meth c H locs cells slots mc ms (F0 m pc A (As.reverse ++ st)) st (zz_Qc X Q' As.toArray) (zz_A X)) => zz_after (Qf := Qf) hr S fun r n' h' H1 locs1 hq hT' hS' => k r n' h' hq p e R s m args below meth c Qf H1 locs1 (cells + mc) (slots + ms) A C Re hT' hS' L (by omega) (by omega)
  rcases hl with hl | ⟨host, hl⟩
  · exact go (va_runS ⟨C.x, C.b, C.ml, C.ow, C.ts⟩ hM ⟨callB_of nA C.ts (zz_G c1) rfl rfl rfl (C.ts _ c2) (C.ts _ hl) c3 hR, C.ts _ c5⟩ hPc rfl hn L.1 rfl (lv_room hw) hd hf)
  · exact go (va_runSN ⟨C.x, C.b, C.ml, C.ow, C.ts⟩ hM ⟨va_cnB nA C.ts (zz_G c1) rfl rfl rfl (C.k.2.1 _ hl) (C.ts _ c2) c3 hR, C.ts _ c5, trivial⟩ hPc rfl hn L.1 rfl (lv_room hw) hd hf)
theorem zi_invI {M' : zz_M} {ix d' mc ms kc' ks' a nA : Nat} {As st0 : List Value} {Q' : Option Value → Nat → zz_H → Prop} (hd : zz_d M pc (.invokespecial ix) 3 q) (hl : zz_ml M.1.cls ix M'.1) (hv : zz_ii M' nA)
    (hM : zz_Ct X M' d' mc ms (.ref a :: As) n h Q') (hst : st0 = As.reverse ++ .ref a :: st) (hn : As.length = nA) (hw : (st.map fun v => v.category).sum ≤ 8) (hdd : d' + 1 ≤ d) (hkc : kc = kc' + mc) (hks : ks = ks' + ms)
    (k : ∀ (r : Option Value) (n' : Nat) (h' : zz_H), Q' r n' h' → zz_Z X M d Q kc' ks' q ls (r.toList ++ st) n' h') : zz_Z X M d Q kc ks pc ls st0 n h := by
  obtain ⟨hd, rfl⟩ := hd
  obtain ⟨y', cc', mL', ret'⟩ := M'
  obtain ⟨⟨c1, c2, c3, c4⟩, c5, c6, c7⟩ := hv
  dsimp only at c7
  subst c7
  subst hkc hks hst
  intro p e R s m args below meth c Qf H locs cells slots A C Re T S L hc hs
  have hR : d' + 1 ≤ R.frames ∧ 8 + (mL' + 11) + 39 * d' ≤ R.locals := ⟨Nat.le_trans hdd C.f, by have := C.w; dsimp only at c4; omega⟩
  have hPc : PreS s H (zz_Pc X (.ref a :: As) n h) (.ref a :: As) := ⟨zz_blind, fun U hU hW => ⟨rfl, C.k.go hW (fun y g1 g2 => by rw [hU]; exact S.2.1 y g1 g2), by rw [hU]; exact T⟩⟩
  have hf : cells + mc ≤ R.cells ∧ slots + ms ≤ R.slots := ⟨by omega, by omega⟩
  have go := fun (hr : va_Run p (zz_l X) e R s m args below meth c H locs cells slots mc ms (F0 m pc A (As.reverse ++ .ref a :: st)) st (zz_Qc X Q' (Value.ref a :: As).toArray) (zz_A X)) => zz_after (Qf := Qf) hr S fun r n' h' H1 locs1 hq hT' hS' => k r n' h' hq p e R s m args below meth c Qf H1 locs1 (cells + mc) (slots + ms) A C Re hT' hS' L (by omega) (by omega)
  rcases hl with hl | ⟨host, hl⟩
  · exact go (va_runI ⟨C.x, C.b, C.ml, C.ow, C.ts⟩ hM ⟨callB_of nA C.ts (zz_G c1) rfl rfl rfl (C.ts _ c2) (C.ts _ hl) c3 hR, c6, C.ts _ c5⟩ hPc rfl hn L.1 rfl (lv_room hw) hd hf)
  · exact go (va_runIN ⟨C.x, C.b, C.ml, C.ow, C.ts⟩ hM ⟨va_cnB nA C.ts (zz_G c1) rfl rfl rfl (C.k.2.1 _ hl) (C.ts _ c2) c3 hR, c6, C.ts _ c5⟩ hPc rfl hn L.1 rfl (lv_room hw) hd hf)
theorem zi_objI {ix a : Nat} (hd : zz_d M pc (.invokespecial ix) 3 q) (hl : Cond.methodLink M.1.cls ix Lib.objectInit ∈ zz_ws) (h1 : Cond.instanceMethod Lib.objectInit ∈ zz_ws) (h2 : Cond.code Lib.objectInit ⟨#[0xb1]⟩ 1 none ∈ zz_ws) (hw : (st.map fun v => v.category).sum ≤ 8) (hdd : 1 ≤ d) (k : zz_Z X M d Q kc ks q ls st n h) : zz_Z X M d Q kc ks pc ls (.ref a :: st) n h := by
  obtain ⟨hd, rfl⟩ := hd
  intro p e R s m args below meth c Qf H locs cells slots A C Re T S L hc hs
  exact W.objInit C.x C.b C.ow (C.ts _ hl) (C.ts _ h1) (C.ts _ h2) rfl (by rw [C.ml]; exact L.1) rfl hd (Nat.le_trans hdd C.f) (by have := lv_room (m := m) (pc := pc) (ls := A) (rest := .ref a :: st) hw; have := C.w; show 2 * (F0 m pc A (.ref a :: st)).monitorRoom + _ + 12 ≤ _; omega) (k p e R s m args below meth c Qf H locs cells slots A C Re T S L hc hs)
/-! ends -/
theorem zi_ireturn {v : Int32} {ty : FieldType} (hd : zz_d M pc .ireturn 1 q) (hr : M.2.2.2 = some ty) (hn : narrow ty (.int v) = .int v) (hQ : Q (some (.int v)) n h) : zz_Z X M d Q kc ks pc ls [.int v] n h := by
  intro p e R s m args below meth c Qf H locs cells slots A C Re T S L hc hs
  exact Re (some (.int v)) n h H locs cells slots pc A hQ T S (by omega) (by omega) (Or.inl ⟨v, ty, rfl, hr, hn, hd.1⟩)
theorem zi_return (hd : zz_d M pc .return_ 1 q) (hr : M.2.2.2 = none) (hQ : Q none n h) : zz_Z X M d Q kc ks pc ls [] n h := by
  intro p e R s m args below meth c Qf H locs cells slots A C Re T S L hc hs
  exact Re none n h H locs cells slots pc A hQ T S (by omega) (by omega) (Or.inr (Or.inl ⟨rfl, hr, hd.1⟩))
theorem zi_areturn {v : Value} {rt : FieldType} (hd : zz_d M pc .areturn 1 q) (hr : M.2.2.2 = some rt) (hrt : (∃ nm, rt = .object nm) ∨ ∃ t, rt = .array t) (hv : zz_ir v = true) (hQ : Q (some v) n h) : zz_Z X M d Q kc ks pc ls [v] n h := by
  intro p e R s m args below meth c Qf H locs cells slots A C Re T S L hc hs
  refine Re (some v) n h H locs cells slots pc A hQ T S (by omega) (by omega) (Or.inr (Or.inr ⟨v, rt, rfl, hr, hrt, ?_, hd.1⟩))
  cases v with
  | ref a => exact Or.inr ⟨a, rfl⟩
  | null => exact Or.inl rfl
  | int _ => cases hv
  | long _ => cases hv
  | float _ => cases hv
  | double _ => cases hv
  | retAddr _ => cases hv
/-! switches -/
theorem zi_tabIn {dflt lo hi : Int} {offs : Array Int} {len t : Nat} {x : Int32} {off : Int} (hd : zz_d M pc (.tableswitch dflt lo hi offs) len q) (h1 : ¬ x.toInt < lo) (h2 : ¬ hi < x.toInt) (ho : offs[(x.toInt - lo).toNat]? = some off) (ht : (pc : Int) + off = (t : Int)) (k : zz_Z X M d Q kc ks t ls st n h) : zz_Z X M d Q kc ks pc ls (.int x :: st) n h := by
  obtain ⟨hd, rfl⟩ := hd
  intro p e R s m args below meth c Qf H locs cells slots A C Re T S L hc hs
  exact lv_tableIn C.x C.b hd h1 h2 ho ht (k p e R s m args below meth c Qf H locs cells slots A C Re T S L hc hs)
theorem zi_tabOut {dflt lo hi : Int} {offs : Array Int} {len t : Nat} {x : Int32} (hd : zz_d M pc (.tableswitch dflt lo hi offs) len q) (hx : x.toInt < lo ∨ hi < x.toInt) (ht : (pc : Int) + dflt = (t : Int)) (k : zz_Z X M d Q kc ks t ls st n h) : zz_Z X M d Q kc ks pc ls (.int x :: st) n h := by
  obtain ⟨hd, rfl⟩ := hd
  intro p e R s m args below meth c Qf H locs cells slots A C Re T S L hc hs
  exact lv_tableOut C.x C.b hd hx ht (k p e R s m args below meth c Qf H locs cells slots A C Re T S L hc hs)
theorem zi_lookup {dflt : Int} {ps : Array (Int × Int)} {len t : Nat} {x : Int32} {off : Int} (hd : zz_d M pc (.lookupswitch dflt ps) len q) (hp : (ps.toList.zip (ps.toList.drop 1)).all (fun (a, next) => a.1 < next.1) = true) (ho : Op.lookupswitch.offset ps.toList dflt x.toInt = off) (ht : (pc : Int) + off = (t : Int)) (k : zz_Z X M d Q kc ks t ls st n h) : zz_Z X M d Q kc ks pc ls (.int x :: st) n h := by
  obtain ⟨hd, rfl⟩ := hd
  intro p e R s m args below meth c Qf H locs cells slots A C Re T S L hc hs
  exact lv_lookup C.x C.b hd hp ho ht (k p e R s m args below meth c Qf H locs cells slots A C Re T S L hc hs)
end ZV
end
section
/-! The same rules with every int as an Int: zv z is the JVM int of z. -/
def zv (z : Int) : Value := .int (Int32.ofInt z)
theorem zn_to {a : Int} (ha : -2147483648 ≤ a ∧ a < 2147483648) : (Int32.ofInt a).toInt = a := Int32.toInt_ofInt_of_le (by omega) (by omega)
theorem zn_eq {a b : Int} (ha : -2147483648 ≤ a ∧ a < 2147483648) (hb : -2147483648 ≤ b ∧ b < 2147483648) : Int32.ofInt a = Int32.ofInt b ↔ a = b := by
  rw [← Int32.toInt_inj, zn_to ha, zn_to hb]
theorem zn_lt {a b : Int} (ha : -2147483648 ≤ a ∧ a < 2147483648) (hb : -2147483648 ≤ b ∧ b < 2147483648) : Int32.ofInt a < Int32.ofInt b ↔ a < b := by
  rw [Int32.lt_iff_toInt_lt, zn_to ha, zn_to hb]
theorem zn_le {a b : Int} (ha : -2147483648 ≤ a ∧ a < 2147483648) (hb : -2147483648 ≤ b ∧ b < 2147483648) : Int32.ofInt a ≤ Int32.ofInt b ↔ a ≤ b := by
  rw [Int32.le_iff_toInt_le, zn_to ha, zn_to hb]
theorem zn_rg (x : Int32) : -2147483648 ≤ x.toInt ∧ x.toInt < 2147483648 := ⟨by have := x.le_toInt; omega, by have := x.toInt_lt; omega⟩
theorem zn_z : (0 : Int32) = Int32.ofInt 0 := rfl
theorem zn_of (x : Int32) : Value.int x = zv x.toInt := by unfold zv; rw [Int32.ofInt_toInt]
theorem zn_cl {i : Int} (hi : 0 ≤ i ∧ i < 2147483648) : (Int32.ofInt i).toNatClampNeg = i.toNat := by
  show (Int32.ofInt i).toInt.toNat = _
  rw [zn_to (by omega)]
theorem zn_in {i : Int} {N : Nat} (hi : 0 ≤ i ∧ i < (N : Int)) (hN : N < 2147483648) : vp_in (Int32.ofInt i) N := by
  intro hx
  rcases hx with hx | hx
  · rw [zn_z, zn_lt (by omega) (by omega)] at hx
    omega
  · rw [zn_cl (by omega)] at hx
    omega
theorem zn_nI (N : Nat) : Value.int (nI N) = zv (N : Int) := by
  show Value.int (Int32.ofNat N) = Value.int (Int32.ofInt (N : Int))
  rw [Int32.ofInt_eq_ofNat]
theorem zn_zb {a : Int} (ha : a = 0 ∨ a = 1) : narrow .boolean (zv a) = zv a := by
  rcases ha with rfl | rfl <;> rfl
theorem zn_ch {a : Int} (ha : 0 ≤ a ∧ a < 65536) : (Int32.ofInt a).toUInt32 % 65536 = (Int32.ofInt a).toUInt32 := by
  obtain ⟨k, rfl⟩ : ∃ k : Nat, a = (k : Int) := ⟨a.toNat, by omega⟩
  rw [Int32.ofInt_eq_ofNat]
  apply UInt32.toNat_inj.mp
  have h2 : k < 65536 := by omega
  have h1 : (Int32.ofNat k).toUInt32.toNat = k := by
    show (BitVec.ofNat 32 k).toNat = k
    rw [BitVec.toNat_ofNat]; omega
  rw [UInt32.toNat_mod, h1]
  show k % 65536 = k
  omega
theorem zn_nc {a : Int} (ha : 0 ≤ a ∧ a < 65536) : narrow .char (zv a) = zv a := by
  have h1 := zn_ch ha
  show Value.int (((Int32.ofInt a).toUInt32 % 65536).toInt32) = _
  rw [h1]
  rfl
/-! what the bits of ints do, on Ints -/
def zb_and (a b : Int) : Int := (Int32.ofInt a &&& Int32.ofInt b).toInt
def zb_or (a b : Int) : Int := (Int32.ofInt a ||| Int32.ofInt b).toInt
def zb_xor (a b : Int) : Int := (Int32.ofInt a ^^^ Int32.ofInt b).toInt
def zb_shl (a b : Int) : Int := (Int32.ofInt a <<< (Int32.ofInt b &&& 31)).toInt
def zb_shr (a b : Int) : Int := (Int32.ofInt a >>> (Int32.ofInt b &&& 31)).toInt
def zb_ushr (a b : Int) : Int := (((Int32.ofInt a).toUInt32 >>> ((Int32.ofInt b).toUInt32 &&& Int32.toUInt32 31)).toInt32).toInt
def zb_div (a b : Int) : Int := (Int32.ofInt a / Int32.ofInt b).toInt
/-- an array of ints, chars or booleans by a function on Ints -/
def zA (kd N : Nat) (g : Int → Int) : va_E := .inl (kd, N, .inl (fun j => Int32.ofInt (g (j : Int))))
def zU (g : Int → Int) (i x : Int) : Int → Int := fun j => if j = i then x else g j
theorem zU_eq (g : Int → Int) (i x : Int) : zU g i x i = x := if_pos rfl
theorem zU_ne {g : Int → Int} {i j x : Int} (hj : j ≠ i) : zU g i x j = g j := if_neg hj
theorem zA_set {kd N : Nat} {g : Int → Int} {i x : Int} (hi : 0 ≤ i ∧ i < 2147483648) : (Sum.inl (kd, N, Sum.inl (upd (fun j => Int32.ofInt (g (j : Int))) (Int32.ofInt i).toNatClampNeg (Int32.ofInt x))) : va_E) = zA kd N (zU g i x) := by
  unfold zA
  congr 4
  funext j
  rw [zn_cl hi]
  unfold upd zU
  by_cases hj : j = i.toNat
  · rw [if_pos hj, if_pos (by omega)]
  · rw [if_neg hj, if_neg (by omega)]
/-- an array of references -/
def zQ (kd N : Nat) (f : Nat → Option Nat) : va_E := .inl (kd, N, .inr (.inr (.inr (.inr f))))
section ZJ
variable {X : zz_X} {M : zz_M} {d kc ks pc q n : Nat} {Q : Option Value → Nat → zz_H → Prop} {ls ls' : List (Option Value)} {st : List Value} {h : zz_H}
theorem zj_iconst {z : Int} (hd : zz_d M pc (.iconst z) 1 q) (k : zz_Z X M d Q kc ks q ls (zv z :: st) n h) : zz_Z X M d Q kc ks pc ls st n h := zi_iconst hd k
theorem zj_bipush {z : Int} (hd : zz_d M pc (.bipush z) 2 q) (hz : -128 ≤ z ∧ z < 128) (k : zz_Z X M d Q kc ks q ls (zv z :: st) n h) : zz_Z X M d Q kc ks pc ls st n h := zi_bipush hd (by apply Int32.toInt_inj.mp; rw [Int8.toInt_toInt32, Int8.toInt_ofInt_of_le (by omega) (by omega), zn_to (by omega)]) k
theorem zj_sipush {z : Int} (hd : zz_d M pc (.sipush z) 3 q) (hz : -32768 ≤ z ∧ z < 32768) (k : zz_Z X M d Q kc ks q ls (zv z :: st) n h) : zz_Z X M d Q kc ks pc ls st n h := zi_sipush hd (by apply Int32.toInt_inj.mp; rw [Int16.toInt_toInt32, Int16.toInt_ofInt_of_le (by omega) (by omega), zn_to (by omega)]) k
theorem zj_iload_n {i : Fin 4} {a : Int} (hd : zz_d M pc (.iload_n i) 1 q) (hl : ls[(i : Nat)]? = some (some (zv a))) (k : zz_Z X M d Q kc ks q ls (zv a :: st) n h) : zz_Z X M d Q kc ks pc ls st n h := zi_iload_n hd hl k
theorem zj_iload {i : Nat} {a : Int} (hd : zz_d M pc (.iload i) 2 q) (hl : ls[i]? = some (some (zv a))) (k : zz_Z X M d Q kc ks q ls (zv a :: st) n h) : zz_Z X M d Q kc ks pc ls st n h := zi_iload hd hl k
theorem zj_istore_n {i : Fin 4} {a : Int} (hd : zz_d M pc (.istore_n i) 1 q) (hl : zz_set ls (i : Nat) (some (zv a)) = some ls') (k : zz_Z X M d Q kc ks q ls' st n h) : zz_Z X M d Q kc ks pc ls (zv a :: st) n h := zi_istore_n hd hl k
theorem zj_istore {i : Nat} {a : Int} (hd : zz_d M pc (.istore i) 2 q) (hl : zz_set ls i (some (zv a)) = some ls') (k : zz_Z X M d Q kc ks q ls' st n h) : zz_Z X M d Q kc ks pc ls (zv a :: st) n h := zi_istore hd hl k
theorem zj_iinc {i : Nat} {z a : Int} (hd : zz_d M pc (.iinc i z) 3 q) (hx : ls[i]? = some (some (zv a))) (hl : zz_set ls i (some (zv (a + z))) = some ls') (k : zz_Z X M d Q kc ks q ls' st n h) : zz_Z X M d Q kc ks pc ls st n h := zi_iinc hd hx (by rw [← Int32.ofInt_add]; exact hl) k
theorem zj_iadd {a b : Int} (hd : zz_d M pc .iadd 1 q) (k : zz_Z X M d Q kc ks q ls (zv (a + b) :: st) n h) : zz_Z X M d Q kc ks pc ls (zv b :: zv a :: st) n h := zi_iadd hd (by rw [← Int32.ofInt_add]; exact k)
theorem zj_isub {a b : Int} (hd : zz_d M pc .isub 1 q) (k : zz_Z X M d Q kc ks q ls (zv (a - b) :: st) n h) : zz_Z X M d Q kc ks pc ls (zv b :: zv a :: st) n h := zi_isub hd (by rw [← Int32.ofInt_sub]; exact k)
theorem zj_imul {a b : Int} (hd : zz_d M pc .imul 1 q) (k : zz_Z X M d Q kc ks q ls (zv (a * b) :: st) n h) : zz_Z X M d Q kc ks pc ls (zv b :: zv a :: st) n h := zi_imul hd (by rw [← Int32.ofInt_mul]; exact k)
theorem zj_iand {a b : Int} (hd : zz_d M pc .iand 1 q) (k : zz_Z X M d Q kc ks q ls (zv (zb_and a b) :: st) n h) : zz_Z X M d Q kc ks pc ls (zv b :: zv a :: st) n h := zi_iand hd (by rw [zn_of]; exact k)
theorem zj_ior {a b : Int} (hd : zz_d M pc .ior 1 q) (k : zz_Z X M d Q kc ks q ls (zv (zb_or a b) :: st) n h) : zz_Z X M d Q kc ks pc ls (zv b :: zv a :: st) n h := zi_ior hd (by rw [zn_of]; exact k)
theorem zj_ixor {a b : Int} (hd : zz_d M pc .ixor 1 q) (k : zz_Z X M d Q kc ks q ls (zv (zb_xor a b) :: st) n h) : zz_Z X M d Q kc ks pc ls (zv b :: zv a :: st) n h := zi_ixor hd (by rw [zn_of]; exact k)
theorem zj_ishl {a b : Int} (hd : zz_d M pc .ishl 1 q) (k : zz_Z X M d Q kc ks q ls (zv (zb_shl a b) :: st) n h) : zz_Z X M d Q kc ks pc ls (zv b :: zv a :: st) n h := zi_ishl hd (by rw [zn_of]; exact k)
theorem zj_ishr {a b : Int} (hd : zz_d M pc .ishr 1 q) (k : zz_Z X M d Q kc ks q ls (zv (zb_shr a b) :: st) n h) : zz_Z X M d Q kc ks pc ls (zv b :: zv a :: st) n h := zi_ishr hd (by rw [zn_of]; exact k)
theorem zj_iushr {a b : Int} (hd : zz_d M pc .iushr 1 q) (k : zz_Z X M d Q kc ks q ls (zv (zb_ushr a b) :: st) n h) : zz_Z X M d Q kc ks pc ls (zv b :: zv a :: st) n h := zi_iushr hd (by rw [zn_of]; exact k)
theorem zj_idiv {a b : Int} (hd : zz_d M pc .idiv 1 q) (hb : (-2147483648 ≤ b ∧ b < 2147483648) ∧ b ≠ 0) (k : zz_Z X M d Q kc ks q ls (zv (zb_div a b) :: st) n h) : zz_Z X M d Q kc ks pc ls (zv b :: zv a :: st) n h := zi_idiv hd (by rw [zn_z, zn_eq hb.1 (by omega)]; exact hb.2) (by rw [zn_of]; exact k)
theorem zj_i2c {a : Int} (hd : zz_d M pc .i2c 1 q) (ha : 0 ≤ a ∧ a < 65536) (k : zz_Z X M d Q kc ks q ls (zv a :: st) n h) : zz_Z X M d Q kc ks pc ls (zv a :: st) n h := zi_i2c hd (by rw [zn_ch ha]; exact k)
theorem zj_if_eq {a off : Int} {t : Nat} (hd : zz_d M pc (.ifCond .eq off) 3 q) (ht : (pc : Int) + off = (t : Int)) (ha : -2147483648 ≤ a ∧ a < 2147483648) (kt : a = 0 → zz_Z X M d Q kc ks t ls st n h) (kf : ¬ a = 0 → zz_Z X M d Q kc ks q ls st n h) : zz_Z X M d Q kc ks pc ls (zv a :: st) n h :=
  zi_if_eq hd ht (fun hx => kt (by rw [zn_z, zn_eq ha (by omega)] at hx; exact hx)) (fun hx => kf (by rw [zn_z, zn_eq ha (by omega)] at hx; exact hx))
theorem zj_if_ne {a off : Int} {t : Nat} (hd : zz_d M pc (.ifCond .ne off) 3 q) (ht : (pc : Int) + off = (t : Int)) (ha : -2147483648 ≤ a ∧ a < 2147483648) (kt : ¬ a = 0 → zz_Z X M d Q kc ks t ls st n h) (kf : a = 0 → zz_Z X M d Q kc ks q ls st n h) : zz_Z X M d Q kc ks pc ls (zv a :: st) n h :=
  zi_if_ne hd ht (fun hx => kt (by rw [zn_z, zn_eq ha (by omega)] at hx; exact hx)) (fun hx => kf (by rw [zn_z, zn_eq ha (by omega)] at hx; exact hx))
theorem zj_if_lt {a off : Int} {t : Nat} (hd : zz_d M pc (.ifCond .lt off) 3 q) (ht : (pc : Int) + off = (t : Int)) (ha : -2147483648 ≤ a ∧ a < 2147483648) (kt : a < 0 → zz_Z X M d Q kc ks t ls st n h) (kf : ¬ a < 0 → zz_Z X M d Q kc ks q ls st n h) : zz_Z X M d Q kc ks pc ls (zv a :: st) n h :=
  zi_if_lt hd ht (fun hx => kt (by rw [zn_z, zn_lt ha (by omega)] at hx; exact hx)) (fun hx => kf (by rw [zn_z, zn_lt ha (by omega)] at hx; exact hx))
theorem zj_if_ge {a off : Int} {t : Nat} (hd : zz_d M pc (.ifCond .ge off) 3 q) (ht : (pc : Int) + off = (t : Int)) (ha : -2147483648 ≤ a ∧ a < 2147483648) (kt : 0 ≤ a → zz_Z X M d Q kc ks t ls st n h) (kf : ¬ 0 ≤ a → zz_Z X M d Q kc ks q ls st n h) : zz_Z X M d Q kc ks pc ls (zv a :: st) n h :=
  zi_if_ge hd ht (fun hx => kt (by rw [zn_z, zn_le (by omega) ha] at hx; exact hx)) (fun hx => kf (by rw [zn_z, zn_le (by omega) ha] at hx; exact hx))
theorem zj_if_gt {a off : Int} {t : Nat} (hd : zz_d M pc (.ifCond .gt off) 3 q) (ht : (pc : Int) + off = (t : Int)) (ha : -2147483648 ≤ a ∧ a < 2147483648) (kt : 0 < a → zz_Z X M d Q kc ks t ls st n h) (kf : ¬ 0 < a → zz_Z X M d Q kc ks q ls st n h) : zz_Z X M d Q kc ks pc ls (zv a :: st) n h :=
  zi_if_gt hd ht (fun hx => kt (by rw [zn_z, zn_lt (by omega) ha] at hx; exact hx)) (fun hx => kf (by rw [zn_z, zn_lt (by omega) ha] at hx; exact hx))
theorem zj_if_le {a off : Int} {t : Nat} (hd : zz_d M pc (.ifCond .le off) 3 q) (ht : (pc : Int) + off = (t : Int)) (ha : -2147483648 ≤ a ∧ a < 2147483648) (kt : a ≤ 0 → zz_Z X M d Q kc ks t ls st n h) (kf : ¬ a ≤ 0 → zz_Z X M d Q kc ks q ls st n h) : zz_Z X M d Q kc ks pc ls (zv a :: st) n h :=
  zi_if_le hd ht (fun hx => kt (by rw [zn_z, zn_le ha (by omega)] at hx; exact hx)) (fun hx => kf (by rw [zn_z, zn_le ha (by omega)] at hx; exact hx))
theorem zj_icmp_eq {a b off : Int} {t : Nat} (hd : zz_d M pc (.if_icmp .eq off) 3 q) (ht : (pc : Int) + off = (t : Int)) (ha : (-2147483648 ≤ a ∧ a < 2147483648) ∧ -2147483648 ≤ b ∧ b < 2147483648) (kt : a = b → zz_Z X M d Q kc ks t ls st n h) (kf : ¬ a = b → zz_Z X M d Q kc ks q ls st n h) : zz_Z X M d Q kc ks pc ls (zv b :: zv a :: st) n h :=
  zi_icmp_eq hd ht (fun hx => kt (by rw [zn_eq ha.1 ha.2] at hx; exact hx)) (fun hx => kf (by rw [zn_eq ha.1 ha.2] at hx; exact hx))
theorem zj_icmp_ne {a b off : Int} {t : Nat} (hd : zz_d M pc (.if_icmp .ne off) 3 q) (ht : (pc : Int) + off = (t : Int)) (ha : (-2147483648 ≤ a ∧ a < 2147483648) ∧ -2147483648 ≤ b ∧ b < 2147483648) (kt : ¬ a = b → zz_Z X M d Q kc ks t ls st n h) (kf : a = b → zz_Z X M d Q kc ks q ls st n h) : zz_Z X M d Q kc ks pc ls (zv b :: zv a :: st) n h :=
  zi_icmp_ne hd ht (fun hx => kt (by rw [zn_eq ha.1 ha.2] at hx; exact hx)) (fun hx => kf (by rw [zn_eq ha.1 ha.2] at hx; exact hx))
theorem zj_icmp_lt {a b off : Int} {t : Nat} (hd : zz_d M pc (.if_icmp .lt off) 3 q) (ht : (pc : Int) + off = (t : Int)) (ha : (-2147483648 ≤ a ∧ a < 2147483648) ∧ -2147483648 ≤ b ∧ b < 2147483648) (kt : a < b → zz_Z X M d Q kc ks t ls st n h) (kf : ¬ a < b → zz_Z X M d Q kc ks q ls st n h) : zz_Z X M d Q kc ks pc ls (zv b :: zv a :: st) n h :=
  zi_icmp_lt hd ht (fun hx => kt (by rw [zn_lt ha.1 ha.2] at hx; exact hx)) (fun hx => kf (by rw [zn_lt ha.1 ha.2] at hx; exact hx))
theorem zj_icmp_ge {a b off : Int} {t : Nat} (hd : zz_d M pc (.if_icmp .ge off) 3 q) (ht : (pc : Int) + off = (t : Int)) (ha : (-2147483648 ≤ a ∧ a < 2147483648) ∧ -2147483648 ≤ b ∧ b < 2147483648) (kt : b ≤ a → zz_Z X M d Q kc ks t ls st n h) (kf : ¬ b ≤ a → zz_Z X M d Q kc ks q ls st n h) : zz_Z X M d Q kc ks pc ls (zv b :: zv a :: st) n h :=
  zi_icmp_ge hd ht (fun hx => kt (by rw [zn_le ha.2 ha.1] at hx; exact hx)) (fun hx => kf (by rw [zn_le ha.2 ha.1] at hx; exact hx))
theorem zj_icmp_gt {a b off : Int} {t : Nat} (hd : zz_d M pc (.if_icmp .gt off) 3 q) (ht : (pc : Int) + off = (t : Int)) (ha : (-2147483648 ≤ a ∧ a < 2147483648) ∧ -2147483648 ≤ b ∧ b < 2147483648) (kt : b < a → zz_Z X M d Q kc ks t ls st n h) (kf : ¬ b < a → zz_Z X M d Q kc ks q ls st n h) : zz_Z X M d Q kc ks pc ls (zv b :: zv a :: st) n h :=
  zi_icmp_gt hd ht (fun hx => kt (by rw [zn_lt ha.2 ha.1] at hx; exact hx)) (fun hx => kf (by rw [zn_lt ha.2 ha.1] at hx; exact hx))
theorem zj_icmp_le {a b off : Int} {t : Nat} (hd : zz_d M pc (.if_icmp .le off) 3 q) (ht : (pc : Int) + off = (t : Int)) (ha : (-2147483648 ≤ a ∧ a < 2147483648) ∧ -2147483648 ≤ b ∧ b < 2147483648) (kt : a ≤ b → zz_Z X M d Q kc ks t ls st n h) (kf : ¬ a ≤ b → zz_Z X M d Q kc ks q ls st n h) : zz_Z X M d Q kc ks pc ls (zv b :: zv a :: st) n h :=
  zi_icmp_le hd ht (fun hx => kt (by rw [zn_le ha.1 ha.2] at hx; exact hx)) (fun hx => kf (by rw [zn_le ha.1 ha.2] at hx; exact hx))
theorem zj_iald {a N : Nat} {g : Int → Int} {i : Int} (hd : zz_d M pc .iaload 1 q) (ha : h a = some (zA 0 N g)) (hi : (0 ≤ i ∧ i < (N : Int)) ∧ N < 2147483648) (k : zz_Z X M d Q kc ks q ls (zv (g i) :: st) n h) : zz_Z X M d Q kc ks pc ls (zv i :: .ref a :: st) n h :=
  zi_iald hd ha (zn_in hi.1 hi.2) (by rw [zn_cl (by omega)]; show zz_Z X M d Q kc ks q ls (zv (g ((i.toNat : Nat) : Int)) :: st) n h; rw [Int.toNat_of_nonneg hi.1.1]; exact k)
theorem zj_cald {a N : Nat} {g : Int → Int} {i : Int} (hd : zz_d M pc .caload 1 q) (ha : h a = some (zA 1 N g)) (hi : (0 ≤ i ∧ i < (N : Int)) ∧ N < 2147483648) (k : zz_Z X M d Q kc ks q ls (zv (g i) :: st) n h) : zz_Z X M d Q kc ks pc ls (zv i :: .ref a :: st) n h :=
  zi_cald hd ha (zn_in hi.1 hi.2) (by rw [zn_cl (by omega)]; show zz_Z X M d Q kc ks q ls (zv (g ((i.toNat : Nat) : Int)) :: st) n h; rw [Int.toNat_of_nonneg hi.1.1]; exact k)
theorem zj_zald {a N : Nat} {g : Int → Int} {i : Int} (hd : zz_d M pc .baload 1 q) (ha : h a = some (zA 2 N g)) (hi : (0 ≤ i ∧ i < (N : Int)) ∧ N < 2147483648) (k : zz_Z X M d Q kc ks q ls (zv (g i) :: st) n h) : zz_Z X M d Q kc ks pc ls (zv i :: .ref a :: st) n h :=
  zi_zald hd ha (zn_in hi.1 hi.2) (by rw [zn_cl (by omega)]; show zz_Z X M d Q kc ks q ls (zv (g ((i.toNat : Nat) : Int)) :: st) n h; rw [Int.toNat_of_nonneg hi.1.1]; exact k)
theorem zj_iast {a N : Nat} {g : Int → Int} {i x : Int} (hd : zz_d M pc .iastore 1 q) (ha : h a = some (zA 0 N g)) (hi : (0 ≤ i ∧ i < (N : Int)) ∧ N < 2147483648) (k : zz_Z X M d Q kc ks q ls st n (zz_up h a (zA 0 N (zU g i x)))) : zz_Z X M d Q kc ks pc ls (zv x :: zv i :: .ref a :: st) n h :=
  zi_iast hd ha (zn_in hi.1 hi.2)  (by rw [zA_set (by omega)]; exact k)
theorem zj_cast {a N : Nat} {g : Int → Int} {i x : Int} (hd : zz_d M pc .castore 1 q) (ha : h a = some (zA 1 N g)) (hi : (0 ≤ i ∧ i < (N : Int)) ∧ N < 2147483648) (hx : 0 ≤ x ∧ x < 65536) (k : zz_Z X M d Q kc ks q ls st n (zz_up h a (zA 1 N (zU g i x)))) : zz_Z X M d Q kc ks pc ls (zv x :: zv i :: .ref a :: st) n h :=
  zi_cast hd ha (zn_in hi.1 hi.2) (zn_nc hx) (by rw [zA_set (by omega)]; exact k)
theorem zj_zast {a N : Nat} {g : Int → Int} {i x : Int} (hd : zz_d M pc .bastore 1 q) (ha : h a = some (zA 2 N g)) (hi : (0 ≤ i ∧ i < (N : Int)) ∧ N < 2147483648) (hx : x = 0 ∨ x = 1) (k : zz_Z X M d Q kc ks q ls st n (zz_up h a (zA 2 N (zU g i x)))) : zz_Z X M d Q kc ks pc ls (zv x :: zv i :: .ref a :: st) n h :=
  zi_zast hd ha (zn_in hi.1 hi.2) (zn_zb hx) (by rw [zA_set (by omega)]; exact k)
theorem zj_alen {a kd N : Nat} {g : Int → Int} {ty : FieldType} (hd : zz_d M pc .arraylength 1 q) (ha : h a = some (zA kd N g)) (ht : (zz_ty X)[kd]? = some (zz_a X kd, ty)) (k : zz_Z X M d Q kc ks q ls (zv (N : Int) :: st) n h) : zz_Z X M d Q kc ks pc ls (.ref a :: st) n h := zi_alen hd ha ht (by show zz_Z X M d Q kc ks q ls (Value.int (nI N) :: st) n h; rw [zn_nI]; exact k)
theorem zj_qlen {a kd N : Nat} {f : Nat → Option Nat} {ty : FieldType} (hd : zz_d M pc .arraylength 1 q) (ha : h a = some (zQ kd N f)) (ht : (zz_ty X)[kd]? = some (zz_a X kd, ty)) (k : zz_Z X M d Q kc ks q ls (zv (N : Int) :: st) n h) : zz_Z X M d Q kc ks pc ls (.ref a :: st) n h := zi_alen hd ha ht (by show zz_Z X M d Q kc ks q ls (Value.int (nI N) :: st) n h; rw [zn_nI]; exact k)
theorem zj_aald {a N : Nat} {f : Nat → Option Nat} {i : Int} {v : Value} (hd : zz_d M pc .aaload 1 q) (ha : h a = some (zQ 3 N f)) (hi : (0 ≤ i ∧ i < (N : Int)) ∧ N < 2147483648) (hv : va_rf (f i.toNat) = v) (k : zz_Z X M d Q kc ks q ls (v :: st) n h) : zz_Z X M d Q kc ks pc ls (zv i :: .ref a :: st) n h :=
  zi_aald hd ha (zn_in hi.1 hi.2) (by rw [zn_cl (by omega)]; exact hv) k
theorem zj_aast {a N v : Nat} {f : Nat → Option Nat} {i : Int} (hd : zz_d M pc .aastore 1 q) (ha : h a = some (zQ 3 N f)) (hv : zz_el h v) (hi : (0 ≤ i ∧ i < (N : Int)) ∧ N < 2147483648) (k : zz_Z X M d Q kc ks q ls st n (zz_up h a (zQ 3 N (va_up f i.toNat (some v))))) : zz_Z X M d Q kc ks pc ls (.ref v :: zv i :: .ref a :: st) n h :=
  zi_aast hd ha hv (zn_in hi.1 hi.2) (by rw [zn_cl (by omega)]; exact k)
theorem zj_aastN {a N : Nat} {f : Nat → Option Nat} {i : Int} (hd : zz_d M pc .aastore 1 q) (ha : h a = some (zQ 3 N f)) (hi : (0 ≤ i ∧ i < (N : Int)) ∧ N < 2147483648) (k : zz_Z X M d Q kc ks q ls st n (zz_up h a (zQ 3 N (va_up f i.toNat none)))) : zz_Z X M d Q kc ks pc ls (.null :: zv i :: .ref a :: st) n h :=
  zi_aastN hd ha (zn_in hi.1 hi.2) (by rw [zn_cl (by omega)]; exact k)
theorem zj_newi {z : Int} {N kc' ks' : Nat} (hd : zz_d M pc (.newarray .int) 2 q) (hw : Cond.arrayClass .int ∈ zz_ws) (hz : z = (N : Int)) (hb : N ≤ 100000) (hkc : kc = kc' + 1) (hks : ks = ks' + N) (k : zz_Z X M d Q kc' ks' q ls (.ref n :: st) (n + 1) (zz_up h n (zA 0 N (fun _ => 0)))) : zz_Z X M d Q kc ks pc ls (zv z :: st) n h := by
  subst hz
  exact zi_newi hd hw (by rw [zn_z, zn_lt (by omega) (by omega)]; omega) (by rw [zn_cl (by omega)]; rfl) hb hkc hks k
theorem zj_newc {z : Int} {N kc' ks' : Nat} (hd : zz_d M pc (.newarray .char) 2 q) (hw : Cond.arrayClass .char ∈ zz_ws) (hz : z = (N : Int)) (hb : N ≤ 100000) (hkc : kc = kc' + 1) (hks : ks = ks' + N) (k : zz_Z X M d Q kc' ks' q ls (.ref n :: st) (n + 1) (zz_up h n (zA 1 N (fun _ => 0)))) : zz_Z X M d Q kc ks pc ls (zv z :: st) n h := by
  subst hz
  exact zi_newc hd hw (by rw [zn_z, zn_lt (by omega) (by omega)]; omega) (by rw [zn_cl (by omega)]; rfl) hb hkc hks k
theorem zj_newz {z : Int} {N kc' ks' : Nat} (hd : zz_d M pc (.newarray .boolean) 2 q) (hw : Cond.arrayClass .boolean ∈ zz_ws) (hz : z = (N : Int)) (hb : N ≤ 100000) (hkc : kc = kc' + 1) (hks : ks = ks' + N) (k : zz_Z X M d Q kc' ks' q ls (.ref n :: st) (n + 1) (zz_up h n (zA 2 N (fun _ => 0)))) : zz_Z X M d Q kc ks pc ls (zv z :: st) n h := by
  subst hz
  exact zi_newz hd hw (by rw [zn_z, zn_lt (by omega) (by omega)]; omega) (by rw [zn_cl (by omega)]; rfl) hb hkc hks k
theorem zj_newq {z : Int} {ix N kc' ks' : Nat} (hd : zz_d M pc (.anewarray ix) 3 q) (hw : Cond.classLink M.1.cls ix "java/lang/Object" ∈ zz_ws) (hz : z = (N : Int)) (hb : N ≤ 100000) (hkc : kc = kc' + 1) (hks : ks = ks' + N) (k : zz_Z X M d Q kc' ks' q ls (.ref n :: st) (n + 1) (zz_up h n (zQ 3 N (fun _ => none)))) : zz_Z X M d Q kc ks pc ls (zv z :: st) n h := by
  subst hz
  exact zi_newq hd hw (by rw [zn_z, zn_lt (by omega) (by omega)]; omega) (by rw [zn_cl (by omega)]; rfl) hb hkc hks k
theorem zj_putI {ix ci k a : Nat} {fs fs' : List Value} {x : Int} (hd : zz_d M pc (.putfield ix) 3 q) (hf : zz_fp M ix ci k .int) (ha : h a = some (.inr (ci, fs))) (hset : zz_set fs k (zv x) = some fs') (kk : zz_Z X M d Q kc ks q ls st n (zz_up h a (.inr (ci, fs')))) : zz_Z X M d Q kc ks pc ls (zv x :: .ref a :: st) n h := zi_putf hd hf ha rfl rfl hset kk
theorem zj_putZ {ix ci k a : Nat} {fs fs' : List Value} {x : Int} (hd : zz_d M pc (.putfield ix) 3 q) (hf : zz_fp M ix ci k .boolean) (ha : h a = some (.inr (ci, fs))) (hx : x = 0 ∨ x = 1) (hset : zz_set fs k (zv x) = some fs') (kk : zz_Z X M d Q kc ks q ls st n (zz_up h a (.inr (ci, fs')))) : zz_Z X M d Q kc ks pc ls (zv x :: .ref a :: st) n h := zi_putf hd hf ha (zn_zb hx) (by rcases hx with rfl | rfl <;> rfl) hset kk
theorem zj_putA {ix ci k a x : Nat} {C : String} {fs fs' : List Value} (hd : zz_d M pc (.putfield ix) 3 q) (hf : zz_fp M ix ci k (.object C)) (ha : h a = some (.inr (ci, fs))) (hset : zz_set fs k (.ref x) = some fs') (kk : zz_Z X M d Q kc ks q ls st n (zz_up h a (.inr (ci, fs')))) : zz_Z X M d Q kc ks pc ls (.ref x :: .ref a :: st) n h := zi_putf hd hf ha rfl rfl hset kk
theorem zj_putR {ix ci k a x : Nat} {ty : FieldType} {fs fs' : List Value} (hd : zz_d M pc (.putfield ix) 3 q) (hf : zz_fp M ix ci k (.array ty)) (ha : h a = some (.inr (ci, fs))) (hset : zz_set fs k (.ref x) = some fs') (kk : zz_Z X M d Q kc ks q ls st n (zz_up h a (.inr (ci, fs')))) : zz_Z X M d Q kc ks pc ls (.ref x :: .ref a :: st) n h := zi_putf hd hf ha rfl rfl hset kk
theorem zj_ireturn {a : Int} (hd : zz_d M pc .ireturn 1 q) (hr : M.2.2.2 = some .int) (hQ : Q (some (zv a)) n h) : zz_Z X M d Q kc ks pc ls [zv a] n h := zi_ireturn hd hr rfl hQ
theorem zj_zreturn {a : Int} (hd : zz_d M pc .ireturn 1 q) (hr : M.2.2.2 = some .boolean) (ha : a = 0 ∨ a = 1) (hQ : Q (some (zv a)) n h) : zz_Z X M d Q kc ks pc ls [zv a] n h := zi_ireturn hd hr (zn_zb ha) hQ
theorem zj_creturn {a : Int} (hd : zz_d M pc .ireturn 1 q) (hr : M.2.2.2 = some .char) (ha : 0 ≤ a ∧ a < 65536) (hQ : Q (some (zv a)) n h) : zz_Z X M d Q kc ks pc ls [zv a] n h := zi_ireturn hd hr (zn_nc ha) hQ
theorem zj_tabIn {dflt lo hi off a : Int} {offs : Array Int} {len t : Nat} (hd : zz_d M pc (.tableswitch dflt lo hi offs) len q) (ha : (-2147483648 ≤ a ∧ a < 2147483648) ∧ lo ≤ a ∧ a ≤ hi) (ho : offs[(a - lo).toNat]? = some off) (ht : (pc : Int) + off = (t : Int)) (k : zz_Z X M d Q kc ks t ls st n h) : zz_Z X M d Q kc ks pc ls (zv a :: st) n h :=
  zi_tabIn hd (by rw [zn_to ha.1]; omega) (by rw [zn_to ha.1]; omega) (by rw [zn_to ha.1]; exact ho) ht k
theorem zj_tabOut {dflt lo hi a : Int} {offs : Array Int} {len t : Nat} (hd : zz_d M pc (.tableswitch dflt lo hi offs) len q) (ha : (-2147483648 ≤ a ∧ a < 2147483648) ∧ (a < lo ∨ hi < a)) (ht : (pc : Int) + dflt = (t : Int)) (k : zz_Z X M d Q kc ks t ls st n h) : zz_Z X M d Q kc ks pc ls (zv a :: st) n h :=
  zi_tabOut hd (by rw [zn_to ha.1]; exact ha.2) ht k
theorem zj_lookup {dflt off a : Int} {ps : Array (Int × Int)} {len t : Nat} (hd : zz_d M pc (.lookupswitch dflt ps) len q) (hp : (ps.toList.zip (ps.toList.drop 1)).all (fun (a, next) => a.1 < next.1) = true) (ha : -2147483648 ≤ a ∧ a < 2147483648) (ho : Op.lookupswitch.offset ps.toList dflt a = off) (ht : (pc : Int) + off = (t : Int)) (k : zz_Z X M d Q kc ks t ls st n h) : zz_Z X M d Q kc ks pc ls (zv a :: st) n h :=
  zi_lookup hd hp (by rw [zn_to ha]; exact ho) ht k
end ZJ
end
section
abbrev mm_0 : zz_M := (⟨"RequestGate", "<init>", "()V"⟩, prog_1_method_1_code, 1, none)
abbrev mm_1 : zz_M := (⟨"java/lang/Object", "<init>", "()V"⟩, object_method_1_code, 1, none)
abbrev mm_2 : zz_M := (⟨"RequestGate$Text", "<init>", "()V"⟩, prog_9_method_1_code, 1, none)
abbrev mm_3 : zz_M := (⟨"RequestGate$PlainPath", "<init>", "()V"⟩, prog_5_method_1_code, 1, none)
abbrev mm_4 : zz_M := (⟨"RequestGate$Pieces", "<init>", "()V"⟩, prog_4_method_1_code, 1, none)
abbrev mm_5 : zz_M := (⟨"RequestGate$Layer", "<init>", "()V"⟩, prog_3_method_1_code, 1, none)
abbrev mm_6 : zz_M := (⟨"RequestGate$Conditions", "<init>", "()V"⟩, prog_2_method_1_code, 1, none)
abbrev mm_7 : zz_M := (⟨"RequestGate$Roles", "<init>", "()V"⟩, prog_6_method_1_code, 2, none)
abbrev mm_8 : zz_M := (⟨"java/util/ArrayList", "<init>", "()V"⟩, prog_22_method_2_code, 1, none)
abbrev mm_9 : zz_M := (⟨"java/util/AbstractList", "<init>", "()V"⟩, prog_21_method_1_code, 1, none)
abbrev mm_10 : zz_M := (⟨"java/util/AbstractCollection", "<init>", "()V"⟩, prog_20_method_1_code, 1, none)
abbrev mm_11 : zz_M := (⟨"RequestGate$Tickets", "<init>", "()V"⟩, prog_11_method_1_code, 1, none)
abbrev mm_12 : zz_M := (⟨"RequestGate", "type", "(I)Z"⟩, prog_1_method_2_code, 2, (some .boolean))
abbrev mm_13 : zz_M := (⟨"RequestGate$Text", "append", "(I)Z"⟩, prog_9_method_3_code, 2, (some .boolean))
abbrev mm_14 : zz_M := (⟨"RequestGate$Text", "isCode", "(I)Z"⟩, prog_9_method_2_code, 1, (some .boolean))
abbrev mm_15 : zz_M := (⟨"RequestGate", "clear", "()V"⟩, prog_1_method_3_code, 1, none)
abbrev mm_16 : zz_M := (⟨"RequestGate$Text", "empty", "()V"⟩, prog_9_method_4_code, 1, none)
abbrev mm_17 : zz_M := (⟨"RequestGate", "expression", "(III)I"⟩, prog_1_method_4_code, 4, (some .int))
abbrev mm_18 : zz_M := (⟨"RequestGate$Conditions", "add", "(III)I"⟩, prog_2_method_3_code, 4, (some .int))
abbrev mm_19 : zz_M := (⟨"RequestGate$Conditions", "canTake", "(III)Z"⟩, prog_2_method_4_code, 4, (some .boolean))
abbrev mm_20 : zz_M := (⟨"RequestGate$Roles", "isRole", "(I)Z"⟩, prog_6_method_2_code, 1, (some .boolean))
abbrev mm_21 : zz_M := (⟨"RequestGate$Conditions", "has", "(I)Z"⟩, prog_2_method_2_code, 2, (some .boolean))
abbrev mm_22 : zz_M := (⟨"RequestGate", "rule", "(II)I"⟩, prog_1_method_5_code, 3, (some .int))
abbrev mm_23 : zz_M := (⟨"java/util/ArrayList", "size", "()I"⟩, prog_22_method_8_code, 1, (some .int))
abbrev mm_24 : zz_M := (⟨"RequestGate$Rule", "isPattern", "(LRequestGate$Text;)Z"⟩, prog_7_method_3_code, 3, (some .boolean))
abbrev mm_25 : zz_M := (⟨"RequestGate$Text", "at", "(I)C"⟩, prog_9_method_5_code, 2, (some .char))
abbrev mm_26 : zz_M := (⟨"RequestGate$Text", "holds", "(C)Z"⟩, prog_9_method_7_code, 2, (some .boolean))
abbrev mm_27 : zz_M := (⟨"RequestGate$Text", "find", "(CII)I"⟩, prog_9_method_6_code, 5, (some .int))
abbrev mm_28 : zz_M := (⟨"RequestGate$Text", "endsPieceAt", "(I)Z"⟩, prog_9_method_8_code, 2, (some .boolean))
abbrev mm_29 : zz_M := (⟨"RequestGate$Rule", "isPiece", "(LRequestGate$Text;II)Z"⟩, prog_7_method_4_code, 4, (some .boolean))
abbrev mm_30 : zz_M := (⟨"RequestGate$Rule", "<init>", "(LRequestGate$Text;II)V"⟩, prog_7_method_1_code, 5, none)
abbrev mm_31 : zz_M := (⟨"RequestGate$Pieces", "write", "(I)V"⟩, prog_4_method_3_code, 2, none)
abbrev mm_32 : zz_M := (⟨"RequestGate$Pieces", "keepWritten", "()V"⟩, prog_4_method_6_code, 1, none)
abbrev mm_33 : zz_M := (⟨"java/util/ArrayList", "add", "(Ljava/lang/Object;)Z"⟩, prog_22_method_25_code, 2, (some .boolean))
abbrev mm_34 : zz_M := (⟨"java/util/ArrayList", "add", "(Ljava/lang/Object;[Ljava/lang/Object;I)V"⟩, prog_22_method_24_code, 4, none)
abbrev mm_35 : zz_M := (⟨"java/util/ArrayList", "grow", "()[Ljava/lang/Object;"⟩, prog_22_method_7_code, 1, (some (.array (.object "java/lang/Object"))))
abbrev mm_36 : zz_M := (⟨"java/util/ArrayList", "grow", "(I)[Ljava/lang/Object;"⟩, prog_22_method_6_code, 4, (some (.array (.object "java/lang/Object"))))
abbrev mm_37 : zz_M := (⟨"jdk/internal/util/ArraysSupport", "newLength", "(III)I"⟩, prog_29_method_27_code, 4, (some .int))
abbrev mm_38 : zz_M := (⟨"java/lang/Math", "max", "(II)I"⟩, prog_18_method_65_code, 2, (some .int))
abbrev mm_39 : zz_M := (⟨"jdk/internal/util/ArraysSupport", "hugeLength", "(II)I"⟩, prog_29_method_28_code, 3, (some .int))
abbrev mm_40 : zz_M := (⟨"java/util/Arrays", "copyOf", "([Ljava/lang/Object;I)[Ljava/lang/Object;"⟩, prog_23_method_119_code, 2, (some (.array (.object "java/lang/Object"))))
abbrev mm_41 : zz_M := (⟨"java/util/Arrays", "copyOf", "([Ljava/lang/Object;ILjava/lang/Class;)[Ljava/lang/Object;"⟩, prog_23_method_120_code, 4, (some (.array (.object "java/lang/Object"))))
abbrev mm_42 : zz_M := (⟨"java/lang/Math", "min", "(II)I"⟩, prog_18_method_69_code, 2, (some .int))
abbrev mm_43 : zz_M := (⟨"RequestGate", "role", "(II)Z"⟩, prog_1_method_6_code, 3, (some .boolean))
abbrev mm_44 : zz_M := (⟨"RequestGate$Roles", "add", "(II)Z"⟩, prog_6_method_4_code, 4, (some .boolean))
abbrev mm_45 : zz_M := (⟨"RequestGate$Roles", "contains", "(II)Z"⟩, prog_6_method_3_code, 2, (some .boolean))
abbrev mm_46 : zz_M := (⟨"RequestGate", "user", "(III)I"⟩, prog_1_method_7_code, 4, (some .int))
abbrev mm_47 : zz_M := (⟨"RequestGate", "draw", "()I"⟩, prog_1_method_27_code, 1, (some .int))
abbrev mm_48 : zz_M := (⟨"RequestGate$User", "<init>", "(IIII)V"⟩, prog_12_method_1_code, 5, none)
abbrev mm_49 : zz_M := (⟨"RequestGate$User", "hashOf", "(III)I"⟩, prog_12_method_2_code, 6, (some .int))
abbrev mm_50 : zz_M := (⟨"RequestGate", "service", "(III)I"⟩, prog_1_method_8_code, 4, (some .int))
abbrev mm_51 : zz_M := (⟨"RequestGate", "isConditionOrNone", "(I)Z"⟩, prog_1_method_25_code, 2, (some .boolean))
abbrev mm_52 : zz_M := (⟨"RequestGate", "isTypeOrNone", "(I)Z"⟩, prog_1_method_24_code, 2, (some .boolean))
abbrev mm_53 : zz_M := (⟨"RequestGate", "isType", "(I)Z"⟩, prog_1_method_23_code, 2, (some .boolean))
abbrev mm_54 : zz_M := (⟨"RequestGate$Service", "<init>", "(III)V"⟩, prog_8_method_1_code, 4, none)
abbrev mm_55 : zz_M := (⟨"RequestGate", "declare", "(III)Z"⟩, prog_1_method_9_code, 4, (some .boolean))
abbrev mm_56 : zz_M := (⟨"RequestGate", "isOperation", "(I)Z"⟩, prog_1_method_26_code, 1, (some .boolean))
abbrev mm_57 : zz_M := (⟨"java/util/ArrayList", "get", "(I)Ljava/lang/Object;"⟩, prog_22_method_20_code, 2, (some (.object "java/lang/Object")))
abbrev mm_58 : zz_M := (⟨"java/util/Objects", "checkIndex", "(II)I"⟩, prog_26_method_17_code, 2, (some .int))
abbrev mm_59 : zz_M := (⟨"jdk/internal/util/Preconditions", "checkIndex", "(IILjava/util/function/BiFunction;)I"⟩, prog_30_method_11_code, 3, (some .int))
abbrev mm_60 : zz_M := (⟨"java/util/ArrayList", "elementData", "(I)Ljava/lang/Object;"⟩, prog_22_method_18_code, 2, (some (.object "java/lang/Object")))
abbrev mm_61 : zz_M := (⟨"RequestGate$Service", "add", "(II)Z"⟩, prog_8_method_3_code, 3, (some .boolean))
abbrev mm_62 : zz_M := (⟨"RequestGate", "tick", "(I)Z"⟩, prog_1_method_10_code, 2, (some .boolean))
abbrev mm_63 : zz_M := (⟨"RequestGate$Tickets", "dropDead", "(I)V"⟩, prog_11_method_7_code, 3, none)
abbrev mm_64 : zz_M := (⟨"RequestGate$Ticket", "isDead", "(I)Z"⟩, prog_10_method_2_code, 2, (some .boolean))
abbrev mm_65 : zz_M := (⟨"java/util/ArrayList", "remove", "(I)Ljava/lang/Object;"⟩, prog_22_method_29_code, 4, (some (.object "java/lang/Object")))
abbrev mm_66 : zz_M := (⟨"java/util/ArrayList", "fastRemove", "([Ljava/lang/Object;I)V"⟩, prog_22_method_39_code, 4, none)
abbrev mm_67 : zz_M := (⟨"RequestGate", "login", "(IIIZ)I"⟩, prog_1_method_11_code, 7, (some .int))
abbrev mm_68 : zz_M := (⟨"RequestGate", "isUser", "(I)Z"⟩, prog_1_method_22_code, 2, (some .boolean))
abbrev mm_69 : zz_M := (⟨"RequestGate$User", "isLocked", "(I)Z"⟩, prog_12_method_6_code, 2, (some .boolean))
abbrev mm_70 : zz_M := (⟨"RequestGate$User", "hasPassword", "(I)Z"⟩, prog_12_method_3_code, 2, (some .boolean))
abbrev mm_71 : zz_M := (⟨"RequestGate$User", "lockAfterTooManyTries", "(I)Z"⟩, prog_12_method_8_code, 2, (some .boolean))
abbrev mm_72 : zz_M := (⟨"RequestGate$User", "forgetWrongTries", "()V"⟩, prog_12_method_7_code, 1, none)
abbrev mm_73 : zz_M := (⟨"RequestGate$User", "isOfOldScheme", "()Z"⟩, prog_12_method_4_code, 1, (some .boolean))
abbrev mm_74 : zz_M := (⟨"RequestGate$User", "moveToNewScheme", "(II)V"⟩, prog_12_method_5_code, 3, none)
abbrev mm_75 : zz_M := (⟨"RequestGate$Tickets", "end", "(I)V"⟩, prog_11_method_5_code, 3, none)
abbrev mm_76 : zz_M := (⟨"RequestGate", "make", "(LRequestGate$Tickets;IZ)I"⟩, prog_1_method_28_code, 6, (some .int))
abbrev mm_77 : zz_M := (⟨"RequestGate$Ticket", "<init>", "(IIIZI)V"⟩, prog_10_method_1_code, 6, none)
abbrev mm_78 : zz_M := (⟨"RequestGate$Tickets", "add", "(LRequestGate$Ticket;)V"⟩, prog_11_method_4_code, 4, none)
abbrev mm_79 : zz_M := (⟨"RequestGate$Tickets", "findOf", "(II)LRequestGate$Ticket;"⟩, prog_11_method_3_code, 6, (some (.object "RequestGate$Ticket")))
abbrev mm_80 : zz_M := (⟨"RequestGate", "logout", "(I)Z"⟩, prog_1_method_12_code, 3, (some .boolean))
abbrev mm_81 : zz_M := (⟨"RequestGate$Tickets", "find", "(I)LRequestGate$Ticket;"⟩, prog_11_method_2_code, 4, (some (.object "RequestGate$Ticket")))
abbrev mm_82 : zz_M := (⟨"RequestGate$Tickets", "endAllOf", "(I)V"⟩, prog_11_method_6_code, 3, none)
abbrev mm_83 : zz_M := (⟨"RequestGate", "open", "(IIIII)I"⟩, prog_1_method_13_code, 10, (some .int))
abbrev mm_84 : zz_M := (⟨"RequestGate$PlainPath", "read", "(LRequestGate$Text;)Z"⟩, prog_5_method_2_code, 5, (some .boolean))
abbrev mm_85 : zz_M := (⟨"RequestGate$Pieces", "empty", "()V"⟩, prog_4_method_2_code, 1, none)
abbrev mm_86 : zz_M := (⟨"RequestGate$PlainPath", "decode", "(LRequestGate$Text;II)Z"⟩, prog_5_method_3_code, 6, (some .boolean))
abbrev mm_87 : zz_M := (⟨"RequestGate$PlainPath", "codeOf", "(CC)I"⟩, prog_5_method_4_code, 6, (some .int))
abbrev mm_88 : zz_M := (⟨"RequestGate$PlainPath", "digitOf", "(C)I"⟩, prog_5_method_5_code, 1, (some .int))
abbrev mm_89 : zz_M := (⟨"RequestGate$PlainPath", "place", "(Z)Z"⟩, prog_5_method_6_code, 3, (some .boolean))
abbrev mm_90 : zz_M := (⟨"RequestGate$Pieces", "writtenLength", "()I"⟩, prog_4_method_4_code, 1, (some .int))
abbrev mm_91 : zz_M := (⟨"RequestGate$Pieces", "wroteDots", "(I)Z"⟩, prog_4_method_5_code, 3, (some .boolean))
abbrev mm_92 : zz_M := (⟨"RequestGate$Pieces", "dropWritten", "()V"⟩, prog_4_method_7_code, 1, none)
abbrev mm_93 : zz_M := (⟨"RequestGate$Pieces", "dropLastKept", "()V"⟩, prog_4_method_8_code, 1, none)
abbrev mm_94 : zz_M := (⟨"RequestGate", "subjectOf", "(LRequestGate$Ticket;)I"⟩, prog_1_method_29_code, 2, (some .int))
abbrev mm_95 : zz_M := (⟨"RequestGate", "subjectBySeries", "(II)I"⟩, prog_1_method_30_code, 4, (some .int))
abbrev mm_96 : zz_M := (⟨"RequestGate", "decide", "(II)I"⟩, prog_1_method_31_code, 4, (some .int))
abbrev mm_97 : zz_M := (⟨"RequestGate", "firstRuleThatFits", "(I)I"⟩, prog_1_method_32_code, 4, (some .int))
abbrev mm_98 : zz_M := (⟨"RequestGate$Rule", "isFor", "(I)Z"⟩, prog_7_method_2_code, 2, (some .boolean))
abbrev mm_99 : zz_M := (⟨"RequestGate$Layer", "canLay", "(LRequestGate$Pieces;LRequestGate$Pieces;)Z"⟩, prog_3_method_2_code, 4, (some .boolean))
abbrev mm_100 : zz_M := (⟨"RequestGate$Layer", "begin", "([Z)V"⟩, prog_3_method_5_code, 2, none)
abbrev mm_101 : zz_M := (⟨"RequestGate$Pieces", "isTwoStars", "(I)Z"⟩, prog_4_method_11_code, 2, (some .boolean))
abbrev mm_102 : zz_M := (⟨"RequestGate$Pieces", "lengthOf", "(I)I"⟩, prog_4_method_9_code, 2, (some .int))
abbrev mm_103 : zz_M := (⟨"RequestGate$Pieces", "at", "(II)C"⟩, prog_4_method_10_code, 3, (some .char))
abbrev mm_104 : zz_M := (⟨"RequestGate$Layer", "spread", "([Z)V"⟩, prog_3_method_6_code, 2, none)
abbrev mm_105 : zz_M := (⟨"RequestGate$Layer", "layOnOne", "(LRequestGate$Pieces;ILRequestGate$Pieces;)V"⟩, prog_3_method_3_code, 5, none)
abbrev mm_106 : zz_M := (⟨"RequestGate$Layer", "covers", "(LRequestGate$Pieces;ILRequestGate$Pieces;I)Z"⟩, prog_3_method_4_code, 9, (some .boolean))
abbrev mm_107 : zz_M := (⟨"RequestGate", "isTrue", "(III)Z"⟩, prog_1_method_33_code, 6, (some .boolean))
abbrev mm_108 : zz_M := (⟨"RequestGate$Roles", "includedIn", "(I)I"⟩, prog_6_method_5_code, 4, (some .int))
abbrev mm_109 : zz_M := (⟨"RequestGate$Conditions", "isTrueFor", "(IIII)Z"⟩, prog_2_method_5_code, 7, (some .boolean))
abbrev mm_110 : zz_M := (⟨"RequestGate$Conditions", "jointValue", "(I)I"⟩, prog_2_method_6_code, 4, (some .int))
abbrev mm_111 : zz_M := (⟨"RequestGate$Conditions", "truth", "(Z)I"⟩, prog_2_method_8_code, 1, (some .int))
abbrev mm_112 : zz_M := (⟨"RequestGate$Conditions", "singleValue", "(IIII)I"⟩, prog_2_method_7_code, 7, (some .int))
abbrev mm_113 : zz_M := (⟨"RequestGate", "call", "(III)I"⟩, prog_1_method_14_code, 6, (some .int))
abbrev mm_114 : zz_M := (⟨"RequestGate", "typeThatDeclares", "(II)I"⟩, prog_1_method_34_code, 6, (some .int))
abbrev mm_115 : zz_M := (⟨"RequestGate$Service", "declares", "(I)Z"⟩, prog_8_method_2_code, 2, (some .boolean))
abbrev mm_116 : zz_M := (⟨"RequestGate", "conditionAt", "(II)I"⟩, prog_1_method_36_code, 3, (some .int))
abbrev mm_117 : zz_M := (⟨"RequestGate$Service", "conditionOf", "(I)I"⟩, prog_8_method_4_code, 2, (some .int))
abbrev mm_118 : zz_M := (⟨"RequestGate", "conditionByInterfaces", "(II)I"⟩, prog_1_method_35_code, 7, (some .int))
abbrev mm_119 : zz_M := (⟨"RequestGate", "close", "()Z"⟩, prog_1_method_15_code, 1, (some .boolean))
abbrev mm_120 : zz_M := (⟨"RequestGate", "who", "()I"⟩, prog_1_method_16_code, 1, (some .int))
abbrev mm_121 : zz_M := (⟨"RequestGate", "fits", "(I)I"⟩, prog_1_method_17_code, 2, (some .int))
abbrev mm_122 : zz_M := (⟨"RequestGate", "session", "(III)I"⟩, prog_1_method_18_code, 5, (some .int))
abbrev mm_123 : zz_M := (⟨"RequestGate", "series", "(III)I"⟩, prog_1_method_19_code, 5, (some .int))
abbrev mm_124 : zz_M := (⟨"RequestGate", "hash", "(I)I"⟩, prog_1_method_20_code, 2, (some .int))
abbrev mm_125 : zz_M := (⟨"RequestGate", "count", "(I)I"⟩, prog_1_method_21_code, 2, (some .int))
abbrev mm_126 : zz_M := (⟨"RequestGateModel", "<init>", "()V"⟩, prog_14_method_1_code, 1, none)
abbrev mm_127 : zz_M := (⟨"RequestGateModel", "type", "(I)Z"⟩, prog_14_method_2_code, 2, (some .boolean))
abbrev mm_128 : zz_M := (⟨"RequestGateModel", "clear", "()V"⟩, prog_14_method_3_code, 1, none)
abbrev mm_129 : zz_M := (⟨"RequestGateModel", "expression", "(III)I"⟩, prog_14_method_13_code, 4, (some .int))
abbrev mm_130 : zz_M := (⟨"RequestGateModel", "isExpression", "(I)Z"⟩, prog_14_method_12_code, 2, (some .boolean))
abbrev mm_131 : zz_M := (⟨"RequestGateModel", "role", "(II)Z"⟩, prog_14_method_15_code, 3, (some .boolean))
abbrev mm_132 : zz_M := (⟨"RequestGateModel", "included", "(I)I"⟩, prog_14_method_14_code, 5, (some .int))
abbrev mm_133 : zz_M := (⟨"RequestGateModel", "rule", "(II)I"⟩, prog_14_method_19_code, 4, (some .int))
abbrev mm_134 : zz_M := (⟨"RequestGateModel", "isPattern", "()Z"⟩, prog_14_method_9_code, 4, (some .boolean))
abbrev mm_135 : zz_M := (⟨"RequestGateModel", "barred", "(I)Z"⟩, prog_14_method_5_code, 1, (some .boolean))
abbrev mm_136 : zz_M := (⟨"RequestGateModel", "user", "(III)I"⟩, prog_14_method_23_code, 4, (some .int))
abbrev mm_137 : zz_M := (⟨"RequestGateModel", "draw", "()I"⟩, prog_14_method_20_code, 1, (some .int))
abbrev mm_138 : zz_M := (⟨"RequestGateModel", "hashOf", "(III)I"⟩, prog_14_method_21_code, 6, (some .int))
abbrev mm_139 : zz_M := (⟨"RequestGateModel", "login", "(IIIZ)I"⟩, prog_14_method_29_code, 7, (some .int))
abbrev mm_140 : zz_M := (⟨"RequestGateModel", "isUser", "(I)Z"⟩, prog_14_method_22_code, 2, (some .boolean))
abbrev mm_141 : zz_M := (⟨"RequestGateModel", "sessionBy", "(I)I"⟩, prog_14_method_25_code, 4, (some .int))
abbrev mm_142 : zz_M := (⟨"RequestGateModel", "live", "(I)Z"⟩, prog_14_method_24_code, 2, (some .boolean))
abbrev mm_143 : zz_M := (⟨"RequestGateModel", "makeSession", "(IZ)I"⟩, prog_14_method_27_code, 7, (some .int))
abbrev mm_144 : zz_M := (⟨"RequestGateModel", "makeSeries", "(I)V"⟩, prog_14_method_28_code, 5, none)
abbrev mm_145 : zz_M := (⟨"RequestGateModel", "logout", "(I)Z"⟩, prog_14_method_31_code, 3, (some .boolean))
abbrev mm_146 : zz_M := (⟨"RequestGateModel", "endSeries", "(I)V"⟩, prog_14_method_30_code, 2, none)
abbrev mm_147 : zz_M := (⟨"RequestGateModel", "tick", "(I)Z"⟩, prog_14_method_32_code, 2, (some .boolean))
abbrev mm_148 : zz_M := (⟨"RequestGateModel", "service", "(III)I"⟩, prog_14_method_34_code, 4, (some .int))
abbrev mm_149 : zz_M := (⟨"RequestGateModel", "mayBe", "(II)Z"⟩, prog_14_method_33_code, 3, (some .boolean))
abbrev mm_150 : zz_M := (⟨"RequestGateModel", "declare", "(III)Z"⟩, prog_14_method_35_code, 5, (some .boolean))
abbrev mm_151 : zz_M := (⟨"RequestGateModel", "call", "(III)I"⟩, prog_14_method_37_code, 7, (some .int))
abbrev mm_152 : zz_M := (⟨"RequestGateModel", "guard", "(III)I"⟩, prog_14_method_36_code, 8, (some .int))
abbrev mm_153 : zz_M := (⟨"RequestGateModel", "valueOf", "(IIZI)I"⟩, prog_14_method_18_code, 9, (some .int))
abbrev mm_154 : zz_M := (⟨"RequestGateModel", "simple", "(IIZI)I"⟩, prog_14_method_17_code, 5, (some .int))
abbrev mm_155 : zz_M := (⟨"RequestGateModel", "truth", "(Z)I"⟩, prog_14_method_16_code, 1, (some .int))
abbrev mm_156 : zz_M := (⟨"RequestGateModel", "open", "(IIIII)I"⟩, prog_14_method_39_code, 9, (some .int))
abbrev mm_157 : zz_M := (⟨"RequestGateModel", "read", "()Z"⟩, prog_14_method_6_code, 10, (some .boolean))
abbrev mm_158 : zz_M := (⟨"RequestGateModel", "digit", "(I)I"⟩, prog_14_method_4_code, 1, (some .int))
abbrev mm_159 : zz_M := (⟨"RequestGateModel", "settle", "(I)Z"⟩, prog_14_method_8_code, 4, (some .boolean))
abbrev mm_160 : zz_M := (⟨"RequestGateModel", "dots", "(II)Z"⟩, prog_14_method_7_code, 5, (some .boolean))
abbrev mm_161 : zz_M := (⟨"RequestGateModel", "ask", "(III)I"⟩, prog_14_method_38_code, 6, (some .int))
abbrev mm_162 : zz_M := (⟨"RequestGateModel", "seriesBy", "(I)I"⟩, prog_14_method_26_code, 4, (some .int))
abbrev mm_163 : zz_M := (⟨"RequestGateModel", "ruleFits", "(I)Z"⟩, prog_14_method_11_code, 8, (some .boolean))
abbrev mm_164 : zz_M := (⟨"RequestGateModel", "pieceFits", "(III)Z"⟩, prog_14_method_10_code, 9, (some .boolean))
abbrev mm_165 : zz_M := (⟨"RequestGateModel", "close", "()Z"⟩, prog_14_method_40_code, 2, (some .boolean))
abbrev mm_166 : zz_M := (⟨"RequestGateModel", "who", "()I"⟩, prog_14_method_41_code, 1, (some .int))
abbrev mm_167 : zz_M := (⟨"RequestGateModel", "fits", "(I)I"⟩, prog_14_method_42_code, 2, (some .int))
abbrev mm_168 : zz_M := (⟨"RequestGateModel", "session", "(III)I"⟩, prog_14_method_43_code, 9, (some .int))
abbrev mm_169 : zz_M := (⟨"RequestGateModel", "series", "(III)I"⟩, prog_14_method_44_code, 9, (some .int))
abbrev mm_170 : zz_M := (⟨"RequestGateModel", "hash", "(I)I"⟩, prog_14_method_45_code, 2, (some .int))
abbrev mm_171 : zz_M := (⟨"RequestGateModel", "count", "(I)I"⟩, prog_14_method_46_code, 2, (some .int))
abbrev mm_law : zz_M := (⟨"RequestGateLaw", "law", "([I)Z"⟩, code, 4, some .boolean)
theorem ii_0 : zz_ii mm_0 0 := ⟨⟨zw_27, zw_1, ⟨by decide +kernel, by decide +kernel, by decide +kernel⟩, by decide⟩, zw_26, rfl, rfl⟩
-- 1 ['java/lang/Object', '<init>', '()V']: class not initialized by words
theorem ii_2 : zz_ii mm_2 0 := ⟨⟨zw_35, zw_2, ⟨by decide +kernel, by decide +kernel, by decide +kernel⟩, by decide⟩, zw_34, rfl, rfl⟩
theorem ii_3 : zz_ii mm_3 0 := ⟨⟨zw_51, zw_3, ⟨by decide +kernel, by decide +kernel, by decide +kernel⟩, by decide⟩, zw_50, rfl, rfl⟩
theorem ii_4 : zz_ii mm_4 0 := ⟨⟨zw_57, zw_4, ⟨by decide +kernel, by decide +kernel, by decide +kernel⟩, by decide⟩, zw_56, rfl, rfl⟩
theorem ii_5 : zz_ii mm_5 0 := ⟨⟨zw_91, zw_5, ⟨by decide +kernel, by decide +kernel, by decide +kernel⟩, by decide⟩, zw_90, rfl, rfl⟩
theorem ii_6 : zz_ii mm_6 0 := ⟨⟨zw_105, zw_6, ⟨by decide +kernel, by decide +kernel, by decide +kernel⟩, by decide⟩, zw_104, rfl, rfl⟩
theorem ii_7 : zz_ii mm_7 0 := ⟨⟨zw_127, zw_7, ⟨by decide +kernel, by decide +kernel, by decide +kernel⟩, by decide⟩, zw_126, rfl, rfl⟩
theorem ii_8 : zz_ii mm_8 0 := ⟨⟨zw_137, zw_10, ⟨by decide +kernel, by decide +kernel, by decide +kernel⟩, by decide⟩, zw_136, rfl, rfl⟩
theorem ii_9 : zz_ii mm_9 0 := ⟨⟨zw_140, zw_9, ⟨by decide +kernel, by decide +kernel, by decide +kernel⟩, by decide⟩, zw_139, rfl, rfl⟩
theorem ii_10 : zz_ii mm_10 0 := ⟨⟨zw_143, zw_8, ⟨by decide +kernel, by decide +kernel, by decide +kernel⟩, by decide⟩, zw_142, rfl, rfl⟩
theorem ii_11 : zz_ii mm_11 0 := ⟨⟨zw_163, zw_11, ⟨by decide +kernel, by decide +kernel, by decide +kernel⟩, by decide⟩, zw_162, rfl, rfl⟩
theorem iv_12 : zz_iv mm_12 1 := ⟨⟨zw_232, zw_1, ⟨by decide +kernel, by decide +kernel, by decide +kernel⟩, by decide⟩, zw_230, zw_231⟩
theorem iv_13 : zz_iv mm_13 1 := ⟨⟨zw_236, zw_2, ⟨by decide +kernel, by decide +kernel, by decide +kernel⟩, by decide⟩, zw_234, zw_235⟩
theorem is_14 : zz_is mm_14 1 := ⟨⟨zw_239, zw_2, ⟨by decide +kernel, by decide +kernel, by decide +kernel⟩, by decide⟩, zw_238⟩
theorem iv_15 : zz_iv mm_15 0 := ⟨⟨zw_243, zw_1, ⟨by decide +kernel, by decide +kernel, by decide +kernel⟩, by decide⟩, zw_241, zw_242⟩
theorem iv_16 : zz_iv mm_16 0 := ⟨⟨zw_247, zw_2, ⟨by decide +kernel, by decide +kernel, by decide +kernel⟩, by decide⟩, zw_245, zw_246⟩
theorem iv_17 : zz_iv mm_17 3 := ⟨⟨zw_251, zw_1, ⟨by decide +kernel, by decide +kernel, by decide +kernel⟩, by decide⟩, zw_249, zw_250⟩
theorem iv_18 : zz_iv mm_18 3 := ⟨⟨zw_255, zw_6, ⟨by decide +kernel, by decide +kernel, by decide +kernel⟩, by decide⟩, zw_253, zw_254⟩
theorem iv_19 : zz_iv mm_19 3 := ⟨⟨zw_259, zw_6, ⟨by decide +kernel, by decide +kernel, by decide +kernel⟩, by decide⟩, zw_258, zz_inp (n := 5) (by decide +kernel)⟩
theorem is_20 : zz_is mm_20 1 := ⟨⟨zw_262, zw_7, ⟨by decide +kernel, by decide +kernel, by decide +kernel⟩, by decide⟩, zw_261⟩
theorem iv_21 : zz_iv mm_21 1 := ⟨⟨zw_266, zw_6, ⟨by decide +kernel, by decide +kernel, by decide +kernel⟩, by decide⟩, zw_264, zw_265⟩
theorem iv_22 : zz_iv mm_22 2 := ⟨⟨zw_270, zw_1, ⟨by decide +kernel, by decide +kernel, by decide +kernel⟩, by decide⟩, zw_268, zw_269⟩
theorem iv_23 : zz_iv mm_23 0 := ⟨⟨zw_274, zw_10, ⟨by decide +kernel, by decide +kernel, by decide +kernel⟩, by decide⟩, zw_272, zw_273⟩
theorem is_24 : zz_is mm_24 1 := ⟨⟨zw_278, zw_13, ⟨by decide +kernel, by decide +kernel, by decide +kernel⟩, by decide⟩, zw_277⟩
theorem iv_25 : zz_iv mm_25 1 := ⟨⟨zw_282, zw_2, ⟨by decide +kernel, by decide +kernel, by decide +kernel⟩, by decide⟩, zw_280, zw_281⟩
theorem iv_26 : zz_iv mm_26 1 := ⟨⟨zw_286, zw_2, ⟨by decide +kernel, by decide +kernel, by decide +kernel⟩, by decide⟩, zw_284, zw_285⟩
theorem iv_27 : zz_iv mm_27 3 := ⟨⟨zw_290, zw_2, ⟨by decide +kernel, by decide +kernel, by decide +kernel⟩, by decide⟩, zw_288, zw_289⟩
theorem iv_28 : zz_iv mm_28 1 := ⟨⟨zw_295, zw_2, ⟨by decide +kernel, by decide +kernel, by decide +kernel⟩, by decide⟩, zw_293, zw_294⟩
theorem is_29 : zz_is mm_29 3 := ⟨⟨zw_298, zw_13, ⟨by decide +kernel, by decide +kernel, by decide +kernel⟩, by decide⟩, zw_297⟩
theorem ii_30 : zz_ii mm_30 3 := ⟨⟨zw_303, zw_13, ⟨by decide +kernel, by decide +kernel, by decide +kernel⟩, by decide⟩, zw_302, rfl, rfl⟩
theorem iv_31 : zz_iv mm_31 1 := ⟨⟨zw_310, zw_4, ⟨by decide +kernel, by decide +kernel, by decide +kernel⟩, by decide⟩, zw_308, zw_309⟩
theorem iv_32 : zz_iv mm_32 0 := ⟨⟨zw_314, zw_4, ⟨by decide +kernel, by decide +kernel, by decide +kernel⟩, by decide⟩, zw_312, zw_313⟩
theorem iv_33 : zz_iv mm_33 1 := ⟨⟨zw_330, zw_10, ⟨by decide +kernel, by decide +kernel, by decide +kernel⟩, by decide⟩, zw_328, zw_329⟩
theorem iv_34 : zz_iv mm_34 3 := ⟨⟨zw_334, zw_10, ⟨by decide +kernel, by decide +kernel, by decide +kernel⟩, by decide⟩, zw_333, zz_inp (n := 3) (by decide +kernel)⟩
theorem iv_35 : zz_iv mm_35 0 := ⟨⟨zw_338, zw_10, ⟨by decide +kernel, by decide +kernel, by decide +kernel⟩, by decide⟩, zw_337, zz_inp (n := 3) (by decide +kernel)⟩
theorem iv_36 : zz_iv mm_36 1 := ⟨⟨zw_342, zw_10, ⟨by decide +kernel, by decide +kernel, by decide +kernel⟩, by decide⟩, zw_341, zz_inp (n := 3) (by decide +kernel)⟩
theorem is_37 : zz_is mm_37 3 := ⟨⟨zw_345, zw_14, ⟨by decide +kernel, by decide +kernel, by decide +kernel⟩, by decide⟩, zw_344⟩
theorem is_38 : zz_is mm_38 2 := ⟨⟨zw_348, zw_15, ⟨by decide +kernel, by decide +kernel, by decide +kernel⟩, by decide⟩, zw_347⟩
theorem is_39 : zz_is mm_39 2 := ⟨⟨zw_352, zw_14, ⟨by decide +kernel, by decide +kernel, by decide +kernel⟩, by decide⟩, zw_351⟩
theorem is_40 : zz_is mm_40 2 := ⟨⟨zw_355, zw_16, ⟨by decide +kernel, by decide +kernel, by decide +kernel⟩, by decide⟩, zw_354⟩
theorem is_41 : zz_is mm_41 3 := ⟨⟨zw_376, zw_16, ⟨by decide +kernel, by decide +kernel, by decide +kernel⟩, by decide⟩, zw_375⟩
theorem is_42 : zz_is mm_42 2 := ⟨⟨zw_382, zw_15, ⟨by decide +kernel, by decide +kernel, by decide +kernel⟩, by decide⟩, zw_381⟩
theorem iv_43 : zz_iv mm_43 2 := ⟨⟨zw_391, zw_1, ⟨by decide +kernel, by decide +kernel, by decide +kernel⟩, by decide⟩, zw_389, zw_390⟩
theorem iv_44 : zz_iv mm_44 2 := ⟨⟨zw_395, zw_7, ⟨by decide +kernel, by decide +kernel, by decide +kernel⟩, by decide⟩, zw_393, zw_394⟩
theorem is_45 : zz_is mm_45 2 := ⟨⟨zw_399, zw_7, ⟨by decide +kernel, by decide +kernel, by decide +kernel⟩, by decide⟩, zw_398⟩
theorem iv_46 : zz_iv mm_46 3 := ⟨⟨zw_403, zw_1, ⟨by decide +kernel, by decide +kernel, by decide +kernel⟩, by decide⟩, zw_401, zw_402⟩
theorem iv_47 : zz_iv mm_47 0 := ⟨⟨zw_409, zw_1, ⟨by decide +kernel, by decide +kernel, by decide +kernel⟩, by decide⟩, zw_408, zz_inp (n := 19) (by decide +kernel)⟩
theorem ii_48 : zz_ii mm_48 4 := ⟨⟨zw_412, zw_18, ⟨by decide +kernel, by decide +kernel, by decide +kernel⟩, by decide⟩, zw_411, rfl, rfl⟩
theorem is_49 : zz_is mm_49 3 := ⟨⟨zw_416, zw_18, ⟨by decide +kernel, by decide +kernel, by decide +kernel⟩, by decide⟩, zw_415⟩
theorem iv_50 : zz_iv mm_50 3 := ⟨⟨zw_441, zw_1, ⟨by decide +kernel, by decide +kernel, by decide +kernel⟩, by decide⟩, zw_439, zw_440⟩
theorem iv_51 : zz_iv mm_51 1 := ⟨⟨zw_445, zw_1, ⟨by decide +kernel, by decide +kernel, by decide +kernel⟩, by decide⟩, zw_444, zz_inp (n := 19) (by decide +kernel)⟩
theorem iv_52 : zz_iv mm_52 1 := ⟨⟨zw_449, zw_1, ⟨by decide +kernel, by decide +kernel, by decide +kernel⟩, by decide⟩, zw_448, zz_inp (n := 19) (by decide +kernel)⟩
theorem iv_53 : zz_iv mm_53 1 := ⟨⟨zw_453, zw_1, ⟨by decide +kernel, by decide +kernel, by decide +kernel⟩, by decide⟩, zw_452, zz_inp (n := 19) (by decide +kernel)⟩
theorem ii_54 : zz_ii mm_54 3 := ⟨⟨zw_458, zw_19, ⟨by decide +kernel, by decide +kernel, by decide +kernel⟩, by decide⟩, zw_457, rfl, rfl⟩
theorem iv_55 : zz_iv mm_55 3 := ⟨⟨zw_481, zw_1, ⟨by decide +kernel, by decide +kernel, by decide +kernel⟩, by decide⟩, zw_479, zw_480⟩
theorem is_56 : zz_is mm_56 1 := ⟨⟨zw_484, zw_1, ⟨by decide +kernel, by decide +kernel, by decide +kernel⟩, by decide⟩, zw_483⟩
theorem iv_57 : zz_iv mm_57 1 := ⟨⟨zw_488, zw_10, ⟨by decide +kernel, by decide +kernel, by decide +kernel⟩, by decide⟩, zw_486, zw_487⟩
theorem is_58 : zz_is mm_58 2 := ⟨⟨zw_491, zw_20, ⟨by decide +kernel, by decide +kernel, by decide +kernel⟩, by decide⟩, zw_490⟩
theorem is_59 : zz_is mm_59 3 := ⟨⟨zw_494, zw_21, ⟨by decide +kernel, by decide +kernel, by decide +kernel⟩, by decide⟩, zw_493⟩
theorem iv_60 : zz_iv mm_60 1 := ⟨⟨zw_498, zw_10, ⟨by decide +kernel, by decide +kernel, by decide +kernel⟩, by decide⟩, zw_496, zw_497⟩
theorem iv_61 : zz_iv mm_61 2 := ⟨⟨zw_502, zw_19, ⟨by decide +kernel, by decide +kernel, by decide +kernel⟩, by decide⟩, zw_500, zw_501⟩
theorem iv_62 : zz_iv mm_62 1 := ⟨⟨zw_507, zw_1, ⟨by decide +kernel, by decide +kernel, by decide +kernel⟩, by decide⟩, zw_505, zw_506⟩
theorem iv_63 : zz_iv mm_63 1 := ⟨⟨zw_511, zw_11, ⟨by decide +kernel, by decide +kernel, by decide +kernel⟩, by decide⟩, zw_509, zw_510⟩
theorem iv_64 : zz_iv mm_64 1 := ⟨⟨zw_518, zw_22, ⟨by decide +kernel, by decide +kernel, by decide +kernel⟩, by decide⟩, zw_516, zw_517⟩
theorem iv_65 : zz_iv mm_65 1 := ⟨⟨zw_522, zw_10, ⟨by decide +kernel, by decide +kernel, by decide +kernel⟩, by decide⟩, zw_520, zw_521⟩
theorem iv_66 : zz_iv mm_66 2 := ⟨⟨zw_526, zw_10, ⟨by decide +kernel, by decide +kernel, by decide +kernel⟩, by decide⟩, zw_525, zz_inp (n := 3) (by decide +kernel)⟩
theorem iv_67 : zz_iv mm_67 4 := ⟨⟨zw_531, zw_1, ⟨by decide +kernel, by decide +kernel, by decide +kernel⟩, by decide⟩, zw_529, zw_530⟩
theorem iv_68 : zz_iv mm_68 1 := ⟨⟨zw_535, zw_1, ⟨by decide +kernel, by decide +kernel, by decide +kernel⟩, by decide⟩, zw_534, zz_inp (n := 19) (by decide +kernel)⟩
theorem iv_69 : zz_iv mm_69 1 := ⟨⟨zw_539, zw_18, ⟨by decide +kernel, by decide +kernel, by decide +kernel⟩, by decide⟩, zw_537, zw_538⟩
theorem iv_70 : zz_iv mm_70 1 := ⟨⟨zw_543, zw_18, ⟨by decide +kernel, by decide +kernel, by decide +kernel⟩, by decide⟩, zw_541, zw_542⟩
theorem iv_71 : zz_iv mm_71 1 := ⟨⟨zw_547, zw_18, ⟨by decide +kernel, by decide +kernel, by decide +kernel⟩, by decide⟩, zw_545, zw_546⟩
theorem iv_72 : zz_iv mm_72 0 := ⟨⟨zw_551, zw_18, ⟨by decide +kernel, by decide +kernel, by decide +kernel⟩, by decide⟩, zw_549, zw_550⟩
theorem iv_73 : zz_iv mm_73 0 := ⟨⟨zw_556, zw_18, ⟨by decide +kernel, by decide +kernel, by decide +kernel⟩, by decide⟩, zw_554, zw_555⟩
theorem iv_74 : zz_iv mm_74 2 := ⟨⟨zw_560, zw_18, ⟨by decide +kernel, by decide +kernel, by decide +kernel⟩, by decide⟩, zw_558, zw_559⟩
theorem iv_75 : zz_iv mm_75 1 := ⟨⟨zw_564, zw_11, ⟨by decide +kernel, by decide +kernel, by decide +kernel⟩, by decide⟩, zw_562, zw_563⟩
theorem iv_76 : zz_iv mm_76 3 := ⟨⟨zw_568, zw_1, ⟨by decide +kernel, by decide +kernel, by decide +kernel⟩, by decide⟩, zw_567, zz_inp (n := 19) (by decide +kernel)⟩
theorem ii_77 : zz_ii mm_77 5 := ⟨⟨zw_573, zw_22, ⟨by decide +kernel, by decide +kernel, by decide +kernel⟩, by decide⟩, zw_572, rfl, rfl⟩
theorem iv_78 : zz_iv mm_78 1 := ⟨⟨zw_605, zw_11, ⟨by decide +kernel, by decide +kernel, by decide +kernel⟩, by decide⟩, zw_603, zw_604⟩
theorem iv_79 : zz_iv mm_79 2 := ⟨⟨zw_609, zw_11, ⟨by decide +kernel, by decide +kernel, by decide +kernel⟩, by decide⟩, zw_607, zw_608⟩
theorem iv_80 : zz_iv mm_80 1 := ⟨⟨zw_615, zw_1, ⟨by decide +kernel, by decide +kernel, by decide +kernel⟩, by decide⟩, zw_613, zw_614⟩
theorem iv_81 : zz_iv mm_81 1 := ⟨⟨zw_619, zw_11, ⟨by decide +kernel, by decide +kernel, by decide +kernel⟩, by decide⟩, zw_617, zw_618⟩
theorem iv_82 : zz_iv mm_82 1 := ⟨⟨zw_623, zw_11, ⟨by decide +kernel, by decide +kernel, by decide +kernel⟩, by decide⟩, zw_621, zw_622⟩
theorem iv_83 : zz_iv mm_83 5 := ⟨⟨zw_627, zw_1, ⟨by decide +kernel, by decide +kernel, by decide +kernel⟩, by decide⟩, zw_625, zw_626⟩
theorem iv_84 : zz_iv mm_84 1 := ⟨⟨zw_631, zw_3, ⟨by decide +kernel, by decide +kernel, by decide +kernel⟩, by decide⟩, zw_629, zw_630⟩
theorem iv_85 : zz_iv mm_85 0 := ⟨⟨zw_635, zw_4, ⟨by decide +kernel, by decide +kernel, by decide +kernel⟩, by decide⟩, zw_633, zw_634⟩
theorem iv_86 : zz_iv mm_86 3 := ⟨⟨zw_643, zw_3, ⟨by decide +kernel, by decide +kernel, by decide +kernel⟩, by decide⟩, zw_642, zz_inp (n := 1) (by decide +kernel)⟩
theorem is_87 : zz_is mm_87 2 := ⟨⟨zw_646, zw_3, ⟨by decide +kernel, by decide +kernel, by decide +kernel⟩, by decide⟩, zw_645⟩
theorem is_88 : zz_is mm_88 1 := ⟨⟨zw_649, zw_3, ⟨by decide +kernel, by decide +kernel, by decide +kernel⟩, by decide⟩, zw_648⟩
theorem iv_89 : zz_iv mm_89 1 := ⟨⟨zw_655, zw_3, ⟨by decide +kernel, by decide +kernel, by decide +kernel⟩, by decide⟩, zw_654, zz_inp (n := 1) (by decide +kernel)⟩
theorem iv_90 : zz_iv mm_90 0 := ⟨⟨zw_659, zw_4, ⟨by decide +kernel, by decide +kernel, by decide +kernel⟩, by decide⟩, zw_657, zw_658⟩
theorem iv_91 : zz_iv mm_91 1 := ⟨⟨zw_663, zw_4, ⟨by decide +kernel, by decide +kernel, by decide +kernel⟩, by decide⟩, zw_661, zw_662⟩
theorem iv_92 : zz_iv mm_92 0 := ⟨⟨zw_668, zw_4, ⟨by decide +kernel, by decide +kernel, by decide +kernel⟩, by decide⟩, zw_666, zw_667⟩
theorem iv_93 : zz_iv mm_93 0 := ⟨⟨zw_672, zw_4, ⟨by decide +kernel, by decide +kernel, by decide +kernel⟩, by decide⟩, zw_670, zw_671⟩
theorem iv_94 : zz_iv mm_94 1 := ⟨⟨zw_677, zw_1, ⟨by decide +kernel, by decide +kernel, by decide +kernel⟩, by decide⟩, zw_676, zz_inp (n := 19) (by decide +kernel)⟩
theorem iv_95 : zz_iv mm_95 2 := ⟨⟨zw_681, zw_1, ⟨by decide +kernel, by decide +kernel, by decide +kernel⟩, by decide⟩, zw_680, zz_inp (n := 19) (by decide +kernel)⟩
theorem iv_96 : zz_iv mm_96 2 := ⟨⟨zw_685, zw_1, ⟨by decide +kernel, by decide +kernel, by decide +kernel⟩, by decide⟩, zw_684, zz_inp (n := 19) (by decide +kernel)⟩
theorem iv_97 : zz_iv mm_97 1 := ⟨⟨zw_689, zw_1, ⟨by decide +kernel, by decide +kernel, by decide +kernel⟩, by decide⟩, zw_688, zz_inp (n := 19) (by decide +kernel)⟩
theorem iv_98 : zz_iv mm_98 1 := ⟨⟨zw_693, zw_13, ⟨by decide +kernel, by decide +kernel, by decide +kernel⟩, by decide⟩, zw_691, zw_692⟩
theorem iv_99 : zz_iv mm_99 2 := ⟨⟨zw_697, zw_5, ⟨by decide +kernel, by decide +kernel, by decide +kernel⟩, by decide⟩, zw_695, zw_696⟩
theorem is_100 : zz_is mm_100 1 := ⟨⟨zw_700, zw_5, ⟨by decide +kernel, by decide +kernel, by decide +kernel⟩, by decide⟩, zw_699⟩
theorem iv_101 : zz_iv mm_101 1 := ⟨⟨zw_704, zw_4, ⟨by decide +kernel, by decide +kernel, by decide +kernel⟩, by decide⟩, zw_702, zw_703⟩
theorem iv_102 : zz_iv mm_102 1 := ⟨⟨zw_708, zw_4, ⟨by decide +kernel, by decide +kernel, by decide +kernel⟩, by decide⟩, zw_706, zw_707⟩
theorem iv_103 : zz_iv mm_103 2 := ⟨⟨zw_712, zw_4, ⟨by decide +kernel, by decide +kernel, by decide +kernel⟩, by decide⟩, zw_710, zw_711⟩
theorem is_104 : zz_is mm_104 1 := ⟨⟨zw_715, zw_5, ⟨by decide +kernel, by decide +kernel, by decide +kernel⟩, by decide⟩, zw_714⟩
theorem iv_105 : zz_iv mm_105 3 := ⟨⟨zw_719, zw_5, ⟨by decide +kernel, by decide +kernel, by decide +kernel⟩, by decide⟩, zw_718, zz_inp (n := 2) (by decide +kernel)⟩
theorem iv_106 : zz_iv mm_106 4 := ⟨⟨zw_723, zw_5, ⟨by decide +kernel, by decide +kernel, by decide +kernel⟩, by decide⟩, zw_722, zz_inp (n := 2) (by decide +kernel)⟩
theorem iv_107 : zz_iv mm_107 3 := ⟨⟨zw_729, zw_1, ⟨by decide +kernel, by decide +kernel, by decide +kernel⟩, by decide⟩, zw_728, zz_inp (n := 19) (by decide +kernel)⟩
theorem iv_108 : zz_iv mm_108 1 := ⟨⟨zw_733, zw_7, ⟨by decide +kernel, by decide +kernel, by decide +kernel⟩, by decide⟩, zw_731, zw_732⟩
theorem iv_109 : zz_iv mm_109 4 := ⟨⟨zw_737, zw_6, ⟨by decide +kernel, by decide +kernel, by decide +kernel⟩, by decide⟩, zw_735, zw_736⟩
theorem iv_110 : zz_iv mm_110 1 := ⟨⟨zw_741, zw_6, ⟨by decide +kernel, by decide +kernel, by decide +kernel⟩, by decide⟩, zw_740, zz_inp (n := 5) (by decide +kernel)⟩
theorem is_111 : zz_is mm_111 1 := ⟨⟨zw_744, zw_6, ⟨by decide +kernel, by decide +kernel, by decide +kernel⟩, by decide⟩, zw_743⟩
theorem iv_112 : zz_iv mm_112 4 := ⟨⟨zw_748, zw_6, ⟨by decide +kernel, by decide +kernel, by decide +kernel⟩, by decide⟩, zw_747, zz_inp (n := 5) (by decide +kernel)⟩
theorem iv_113 : zz_iv mm_113 3 := ⟨⟨zw_753, zw_1, ⟨by decide +kernel, by decide +kernel, by decide +kernel⟩, by decide⟩, zw_751, zw_752⟩
theorem iv_114 : zz_iv mm_114 2 := ⟨⟨zw_757, zw_1, ⟨by decide +kernel, by decide +kernel, by decide +kernel⟩, by decide⟩, zw_756, zz_inp (n := 19) (by decide +kernel)⟩
theorem iv_115 : zz_iv mm_115 1 := ⟨⟨zw_761, zw_19, ⟨by decide +kernel, by decide +kernel, by decide +kernel⟩, by decide⟩, zw_759, zw_760⟩
theorem iv_116 : zz_iv mm_116 2 := ⟨⟨zw_765, zw_1, ⟨by decide +kernel, by decide +kernel, by decide +kernel⟩, by decide⟩, zw_764, zz_inp (n := 19) (by decide +kernel)⟩
theorem iv_117 : zz_iv mm_117 1 := ⟨⟨zw_769, zw_19, ⟨by decide +kernel, by decide +kernel, by decide +kernel⟩, by decide⟩, zw_767, zw_768⟩
theorem iv_118 : zz_iv mm_118 2 := ⟨⟨zw_774, zw_1, ⟨by decide +kernel, by decide +kernel, by decide +kernel⟩, by decide⟩, zw_773, zz_inp (n := 19) (by decide +kernel)⟩
theorem iv_119 : zz_iv mm_119 0 := ⟨⟨zw_778, zw_1, ⟨by decide +kernel, by decide +kernel, by decide +kernel⟩, by decide⟩, zw_776, zw_777⟩
theorem iv_120 : zz_iv mm_120 0 := ⟨⟨zw_782, zw_1, ⟨by decide +kernel, by decide +kernel, by decide +kernel⟩, by decide⟩, zw_780, zw_781⟩
theorem iv_121 : zz_iv mm_121 1 := ⟨⟨zw_786, zw_1, ⟨by decide +kernel, by decide +kernel, by decide +kernel⟩, by decide⟩, zw_784, zw_785⟩
theorem iv_122 : zz_iv mm_122 3 := ⟨⟨zw_790, zw_1, ⟨by decide +kernel, by decide +kernel, by decide +kernel⟩, by decide⟩, zw_788, zw_789⟩
theorem iv_123 : zz_iv mm_123 3 := ⟨⟨zw_795, zw_1, ⟨by decide +kernel, by decide +kernel, by decide +kernel⟩, by decide⟩, zw_793, zw_794⟩
theorem iv_124 : zz_iv mm_124 1 := ⟨⟨zw_799, zw_1, ⟨by decide +kernel, by decide +kernel, by decide +kernel⟩, by decide⟩, zw_797, zw_798⟩
theorem iv_125 : zz_iv mm_125 1 := ⟨⟨zw_803, zw_1, ⟨by decide +kernel, by decide +kernel, by decide +kernel⟩, by decide⟩, zw_801, zw_802⟩
theorem ii_126 : zz_ii mm_126 0 := ⟨⟨zw_808, zw_12, ⟨by decide +kernel, by decide +kernel, by decide +kernel⟩, by decide⟩, zw_807, rfl, rfl⟩
theorem iv_127 : zz_iv mm_127 1 := ⟨⟨zw_982, zw_12, ⟨by decide +kernel, by decide +kernel, by decide +kernel⟩, by decide⟩, zw_980, zw_981⟩
theorem iv_128 : zz_iv mm_128 0 := ⟨⟨zw_986, zw_12, ⟨by decide +kernel, by decide +kernel, by decide +kernel⟩, by decide⟩, zw_984, zw_985⟩
theorem iv_129 : zz_iv mm_129 3 := ⟨⟨zw_990, zw_12, ⟨by decide +kernel, by decide +kernel, by decide +kernel⟩, by decide⟩, zw_988, zw_989⟩
theorem iv_130 : zz_iv mm_130 1 := ⟨⟨zw_994, zw_12, ⟨by decide +kernel, by decide +kernel, by decide +kernel⟩, by decide⟩, zw_993, zz_inp (n := 56) (by decide +kernel)⟩
theorem iv_131 : zz_iv mm_131 2 := ⟨⟨zw_998, zw_12, ⟨by decide +kernel, by decide +kernel, by decide +kernel⟩, by decide⟩, zw_996, zw_997⟩
theorem iv_132 : zz_iv mm_132 1 := ⟨⟨zw_1002, zw_12, ⟨by decide +kernel, by decide +kernel, by decide +kernel⟩, by decide⟩, zw_1001, zz_inp (n := 56) (by decide +kernel)⟩
theorem iv_133 : zz_iv mm_133 2 := ⟨⟨zw_1006, zw_12, ⟨by decide +kernel, by decide +kernel, by decide +kernel⟩, by decide⟩, zw_1004, zw_1005⟩
theorem iv_134 : zz_iv mm_134 0 := ⟨⟨zw_1010, zw_12, ⟨by decide +kernel, by decide +kernel, by decide +kernel⟩, by decide⟩, zw_1009, zz_inp (n := 56) (by decide +kernel)⟩
theorem is_135 : zz_is mm_135 1 := ⟨⟨zw_1013, zw_12, ⟨by decide +kernel, by decide +kernel, by decide +kernel⟩, by decide⟩, zw_1012⟩
theorem iv_136 : zz_iv mm_136 3 := ⟨⟨zw_1017, zw_12, ⟨by decide +kernel, by decide +kernel, by decide +kernel⟩, by decide⟩, zw_1015, zw_1016⟩
theorem iv_137 : zz_iv mm_137 0 := ⟨⟨zw_1021, zw_12, ⟨by decide +kernel, by decide +kernel, by decide +kernel⟩, by decide⟩, zw_1020, zz_inp (n := 56) (by decide +kernel)⟩
theorem is_138 : zz_is mm_138 3 := ⟨⟨zw_1024, zw_12, ⟨by decide +kernel, by decide +kernel, by decide +kernel⟩, by decide⟩, zw_1023⟩
theorem iv_139 : zz_iv mm_139 4 := ⟨⟨zw_1028, zw_12, ⟨by decide +kernel, by decide +kernel, by decide +kernel⟩, by decide⟩, zw_1026, zw_1027⟩
theorem iv_140 : zz_iv mm_140 1 := ⟨⟨zw_1032, zw_12, ⟨by decide +kernel, by decide +kernel, by decide +kernel⟩, by decide⟩, zw_1031, zz_inp (n := 56) (by decide +kernel)⟩
theorem iv_141 : zz_iv mm_141 1 := ⟨⟨zw_1036, zw_12, ⟨by decide +kernel, by decide +kernel, by decide +kernel⟩, by decide⟩, zw_1035, zz_inp (n := 56) (by decide +kernel)⟩
theorem iv_142 : zz_iv mm_142 1 := ⟨⟨zw_1040, zw_12, ⟨by decide +kernel, by decide +kernel, by decide +kernel⟩, by decide⟩, zw_1039, zz_inp (n := 56) (by decide +kernel)⟩
theorem iv_143 : zz_iv mm_143 2 := ⟨⟨zw_1044, zw_12, ⟨by decide +kernel, by decide +kernel, by decide +kernel⟩, by decide⟩, zw_1043, zz_inp (n := 56) (by decide +kernel)⟩
theorem iv_144 : zz_iv mm_144 1 := ⟨⟨zw_1048, zw_12, ⟨by decide +kernel, by decide +kernel, by decide +kernel⟩, by decide⟩, zw_1047, zz_inp (n := 56) (by decide +kernel)⟩
theorem iv_145 : zz_iv mm_145 1 := ⟨⟨zw_1052, zw_12, ⟨by decide +kernel, by decide +kernel, by decide +kernel⟩, by decide⟩, zw_1050, zw_1051⟩
theorem iv_146 : zz_iv mm_146 1 := ⟨⟨zw_1056, zw_12, ⟨by decide +kernel, by decide +kernel, by decide +kernel⟩, by decide⟩, zw_1055, zz_inp (n := 56) (by decide +kernel)⟩
theorem iv_147 : zz_iv mm_147 1 := ⟨⟨zw_1060, zw_12, ⟨by decide +kernel, by decide +kernel, by decide +kernel⟩, by decide⟩, zw_1058, zw_1059⟩
theorem iv_148 : zz_iv mm_148 3 := ⟨⟨zw_1064, zw_12, ⟨by decide +kernel, by decide +kernel, by decide +kernel⟩, by decide⟩, zw_1062, zw_1063⟩
theorem iv_149 : zz_iv mm_149 2 := ⟨⟨zw_1068, zw_12, ⟨by decide +kernel, by decide +kernel, by decide +kernel⟩, by decide⟩, zw_1067, zz_inp (n := 56) (by decide +kernel)⟩
theorem iv_150 : zz_iv mm_150 3 := ⟨⟨zw_1072, zw_12, ⟨by decide +kernel, by decide +kernel, by decide +kernel⟩, by decide⟩, zw_1070, zw_1071⟩
theorem iv_151 : zz_iv mm_151 3 := ⟨⟨zw_1076, zw_12, ⟨by decide +kernel, by decide +kernel, by decide +kernel⟩, by decide⟩, zw_1074, zw_1075⟩
theorem iv_152 : zz_iv mm_152 3 := ⟨⟨zw_1080, zw_12, ⟨by decide +kernel, by decide +kernel, by decide +kernel⟩, by decide⟩, zw_1079, zz_inp (n := 56) (by decide +kernel)⟩
theorem iv_153 : zz_iv mm_153 4 := ⟨⟨zw_1084, zw_12, ⟨by decide +kernel, by decide +kernel, by decide +kernel⟩, by decide⟩, zw_1083, zz_inp (n := 56) (by decide +kernel)⟩
theorem iv_154 : zz_iv mm_154 4 := ⟨⟨zw_1088, zw_12, ⟨by decide +kernel, by decide +kernel, by decide +kernel⟩, by decide⟩, zw_1087, zz_inp (n := 56) (by decide +kernel)⟩
theorem is_155 : zz_is mm_155 1 := ⟨⟨zw_1091, zw_12, ⟨by decide +kernel, by decide +kernel, by decide +kernel⟩, by decide⟩, zw_1090⟩
theorem iv_156 : zz_iv mm_156 5 := ⟨⟨zw_1095, zw_12, ⟨by decide +kernel, by decide +kernel, by decide +kernel⟩, by decide⟩, zw_1093, zw_1094⟩
theorem iv_157 : zz_iv mm_157 0 := ⟨⟨zw_1099, zw_12, ⟨by decide +kernel, by decide +kernel, by decide +kernel⟩, by decide⟩, zw_1098, zz_inp (n := 56) (by decide +kernel)⟩
theorem is_158 : zz_is mm_158 1 := ⟨⟨zw_1102, zw_12, ⟨by decide +kernel, by decide +kernel, by decide +kernel⟩, by decide⟩, zw_1101⟩
theorem iv_159 : zz_iv mm_159 1 := ⟨⟨zw_1106, zw_12, ⟨by decide +kernel, by decide +kernel, by decide +kernel⟩, by decide⟩, zw_1105, zz_inp (n := 56) (by decide +kernel)⟩
theorem iv_160 : zz_iv mm_160 2 := ⟨⟨zw_1110, zw_12, ⟨by decide +kernel, by decide +kernel, by decide +kernel⟩, by decide⟩, zw_1109, zz_inp (n := 56) (by decide +kernel)⟩
theorem iv_161 : zz_iv mm_161 3 := ⟨⟨zw_1114, zw_12, ⟨by decide +kernel, by decide +kernel, by decide +kernel⟩, by decide⟩, zw_1113, zz_inp (n := 56) (by decide +kernel)⟩
theorem iv_162 : zz_iv mm_162 1 := ⟨⟨zw_1118, zw_12, ⟨by decide +kernel, by decide +kernel, by decide +kernel⟩, by decide⟩, zw_1117, zz_inp (n := 56) (by decide +kernel)⟩
theorem iv_163 : zz_iv mm_163 1 := ⟨⟨zw_1122, zw_12, ⟨by decide +kernel, by decide +kernel, by decide +kernel⟩, by decide⟩, zw_1121, zz_inp (n := 56) (by decide +kernel)⟩
theorem iv_164 : zz_iv mm_164 3 := ⟨⟨zw_1126, zw_12, ⟨by decide +kernel, by decide +kernel, by decide +kernel⟩, by decide⟩, zw_1125, zz_inp (n := 56) (by decide +kernel)⟩
theorem iv_165 : zz_iv mm_165 0 := ⟨⟨zw_1130, zw_12, ⟨by decide +kernel, by decide +kernel, by decide +kernel⟩, by decide⟩, zw_1128, zw_1129⟩
theorem iv_166 : zz_iv mm_166 0 := ⟨⟨zw_1134, zw_12, ⟨by decide +kernel, by decide +kernel, by decide +kernel⟩, by decide⟩, zw_1132, zw_1133⟩
theorem iv_167 : zz_iv mm_167 1 := ⟨⟨zw_1138, zw_12, ⟨by decide +kernel, by decide +kernel, by decide +kernel⟩, by decide⟩, zw_1136, zw_1137⟩
theorem iv_168 : zz_iv mm_168 3 := ⟨⟨zw_1142, zw_12, ⟨by decide +kernel, by decide +kernel, by decide +kernel⟩, by decide⟩, zw_1140, zw_1141⟩
theorem iv_169 : zz_iv mm_169 3 := ⟨⟨zw_1146, zw_12, ⟨by decide +kernel, by decide +kernel, by decide +kernel⟩, by decide⟩, zw_1144, zw_1145⟩
theorem iv_170 : zz_iv mm_170 1 := ⟨⟨zw_1150, zw_12, ⟨by decide +kernel, by decide +kernel, by decide +kernel⟩, by decide⟩, zw_1148, zw_1149⟩
theorem iv_171 : zz_iv mm_171 1 := ⟨⟨zw_1154, zw_12, ⟨by decide +kernel, by decide +kernel, by decide +kernel⟩, by decide⟩, zw_1152, zw_1153⟩
theorem zo_i : Cond.instanceMethod Lib.objectInit ∈ zz_ws := zw_29
theorem zo_c : Cond.code Lib.objectInit ⟨#[0xb1]⟩ 1 none ∈ zz_ws := zw_30
theorem zw_ac_int : Cond.arrayClass .int ∈ zz_ws := zw_81
theorem zw_ac_char : Cond.arrayClass .char ∈ zz_ws := zw_46
theorem zw_ac_boolean : Cond.arrayClass .boolean ∈ zz_ws := zw_100
theorem ml_RequestGateLaw_9 : zz_ml "RequestGateLaw" 9 ⟨"RequestGate", "<init>", "()V"⟩ := Or.inl zw_25
theorem ml_0_3 : zz_ml "RequestGate" 3 ⟨"java/lang/Object", "<init>", "()V"⟩ := Or.inl zw_28
theorem ml_0_11 : zz_ml "RequestGate" 11 ⟨"RequestGate$Text", "<init>", "()V"⟩ := Or.inr ⟨"RequestGate", by decide +kernel⟩
theorem ml_1_3 : zz_ml "RequestGate$Text" 3 ⟨"java/lang/Object", "<init>", "()V"⟩ := Or.inl zw_36
theorem ml_0_18 : zz_ml "RequestGate" 18 ⟨"RequestGate$PlainPath", "<init>", "()V"⟩ := Or.inr ⟨"RequestGate", by decide +kernel⟩
theorem ml_3_3 : zz_ml "RequestGate$PlainPath" 3 ⟨"java/lang/Object", "<init>", "()V"⟩ := Or.inl zw_52
theorem ml_3_11 : zz_ml "RequestGate$PlainPath" 11 ⟨"RequestGate$Pieces", "<init>", "()V"⟩ := Or.inr ⟨"RequestGate", by decide +kernel⟩
theorem ml_2_3 : zz_ml "RequestGate$Pieces" 3 ⟨"java/lang/Object", "<init>", "()V"⟩ := Or.inl zw_58
theorem ml_0_25 : zz_ml "RequestGate" 25 ⟨"RequestGate$Layer", "<init>", "()V"⟩ := Or.inr ⟨"RequestGate", by decide +kernel⟩
theorem ml_4_3 : zz_ml "RequestGate$Layer" 3 ⟨"java/lang/Object", "<init>", "()V"⟩ := Or.inl zw_92
theorem ml_0_32 : zz_ml "RequestGate" 32 ⟨"RequestGate$Conditions", "<init>", "()V"⟩ := Or.inr ⟨"RequestGate", by decide +kernel⟩
theorem ml_7_3 : zz_ml "RequestGate$Conditions" 3 ⟨"java/lang/Object", "<init>", "()V"⟩ := Or.inl zw_106
theorem ml_0_39 : zz_ml "RequestGate" 39 ⟨"RequestGate$Roles", "<init>", "()V"⟩ := Or.inl zw_125
theorem ml_6_3 : zz_ml "RequestGate$Roles" 3 ⟨"java/lang/Object", "<init>", "()V"⟩ := Or.inl zw_128
theorem ml_0_46 : zz_ml "RequestGate" 46 ⟨"java/util/ArrayList", "<init>", "()V"⟩ := Or.inl zw_135
theorem ml_12_1 : zz_ml "java/util/ArrayList" 1 ⟨"java/util/AbstractList", "<init>", "()V"⟩ := Or.inl zw_138
theorem ml_java_util_AbstractList_1 : zz_ml "java/util/AbstractList" 1 ⟨"java/util/AbstractCollection", "<init>", "()V"⟩ := Or.inl zw_141
theorem ml_java_util_AbstractCollection_1 : zz_ml "java/util/AbstractCollection" 1 ⟨"java/lang/Object", "<init>", "()V"⟩ := Or.inl zw_144
theorem ml_0_59 : zz_ml "RequestGate" 59 ⟨"RequestGate$Tickets", "<init>", "()V"⟩ := Or.inr ⟨"RequestGate", by decide +kernel⟩
theorem ml_10_1 : zz_ml "RequestGate$Tickets" 1 ⟨"java/lang/Object", "<init>", "()V"⟩ := Or.inl zw_164
theorem ml_10_9 : zz_ml "RequestGate$Tickets" 9 ⟨"java/util/ArrayList", "<init>", "()V"⟩ := Or.inl zw_166
theorem ml_RequestGateLaw_13 : zz_ml "RequestGateLaw" 13 ⟨"RequestGate", "type", "(I)Z"⟩ := Or.inl zw_229
theorem ml_0_71 : zz_ml "RequestGate" 71 ⟨"RequestGate$Text", "append", "(I)Z"⟩ := Or.inl zw_233
theorem ml_1_15 : zz_ml "RequestGate$Text" 15 ⟨"RequestGate$Text", "isCode", "(I)Z"⟩ := Or.inl zw_237
theorem ml_RequestGateLaw_18 : zz_ml "RequestGateLaw" 18 ⟨"RequestGate", "clear", "()V"⟩ := Or.inl zw_240
theorem ml_0_75 : zz_ml "RequestGate" 75 ⟨"RequestGate$Text", "empty", "()V"⟩ := Or.inl zw_244
theorem ml_RequestGateLaw_22 : zz_ml "RequestGateLaw" 22 ⟨"RequestGate", "expression", "(III)I"⟩ := Or.inl zw_248
theorem ml_0_78 : zz_ml "RequestGate" 78 ⟨"RequestGate$Conditions", "add", "(III)I"⟩ := Or.inl zw_252
theorem ml_7_28 : zz_ml "RequestGate$Conditions" 28 ⟨"RequestGate$Conditions", "canTake", "(III)Z"⟩ := Or.inl zw_256
theorem ml_7_32 : zz_ml "RequestGate$Conditions" 32 ⟨"RequestGate$Roles", "isRole", "(I)Z"⟩ := Or.inl zw_260
theorem ml_7_38 : zz_ml "RequestGate$Conditions" 38 ⟨"RequestGate$Conditions", "has", "(I)Z"⟩ := Or.inl zw_263
theorem ml_RequestGateLaw_27 : zz_ml "RequestGateLaw" 27 ⟨"RequestGate", "rule", "(II)I"⟩ := Or.inl zw_267
theorem ml_0_82 : zz_ml "RequestGate" 82 ⟨"java/util/ArrayList", "size", "()I"⟩ := Or.inl zw_271
theorem ml_0_86 : zz_ml "RequestGate" 86 ⟨"RequestGate$Conditions", "has", "(I)Z"⟩ := Or.inl zw_275
theorem ml_0_89 : zz_ml "RequestGate" 89 ⟨"RequestGate$Rule", "isPattern", "(LRequestGate$Text;)Z"⟩ := Or.inl zw_276
theorem ml_5_32 : zz_ml "RequestGate$Rule" 32 ⟨"RequestGate$Text", "at", "(I)C"⟩ := Or.inl zw_279
theorem ml_5_43 : zz_ml "RequestGate$Rule" 43 ⟨"RequestGate$Text", "holds", "(C)Z"⟩ := Or.inl zw_283
theorem ml_1_27 : zz_ml "RequestGate$Text" 27 ⟨"RequestGate$Text", "find", "(CII)I"⟩ := Or.inl zw_287
theorem ml_1_23 : zz_ml "RequestGate$Text" 23 ⟨"RequestGate$Text", "at", "(I)C"⟩ := Or.inl zw_291
theorem ml_5_28 : zz_ml "RequestGate$Rule" 28 ⟨"RequestGate$Text", "endsPieceAt", "(I)Z"⟩ := Or.inl zw_292
theorem ml_5_47 : zz_ml "RequestGate$Rule" 47 ⟨"RequestGate$Rule", "isPiece", "(LRequestGate$Text;II)Z"⟩ := Or.inl zw_296
theorem ml_0_95 : zz_ml "RequestGate" 95 ⟨"RequestGate$Rule", "<init>", "(LRequestGate$Text;II)V"⟩ := Or.inl zw_301
theorem ml_5_1 : zz_ml "RequestGate$Rule" 1 ⟨"java/lang/Object", "<init>", "()V"⟩ := Or.inl zw_304
theorem ml_5_9 : zz_ml "RequestGate$Rule" 9 ⟨"RequestGate$Pieces", "<init>", "()V"⟩ := Or.inr ⟨"RequestGate", by decide +kernel⟩
theorem ml_5_36 : zz_ml "RequestGate$Rule" 36 ⟨"RequestGate$Pieces", "write", "(I)V"⟩ := Or.inl zw_307
theorem ml_5_40 : zz_ml "RequestGate$Rule" 40 ⟨"RequestGate$Pieces", "keepWritten", "()V"⟩ := Or.inl zw_311
theorem ml_0_98 : zz_ml "RequestGate" 98 ⟨"java/util/ArrayList", "add", "(Ljava/lang/Object;)Z"⟩ := Or.inl zw_327
theorem ml_12_131 : zz_ml "java/util/ArrayList" 131 ⟨"java/util/ArrayList", "add", "(Ljava/lang/Object;[Ljava/lang/Object;I)V"⟩ := Or.inl zw_331
theorem ml_12_129 : zz_ml "java/util/ArrayList" 129 ⟨"java/util/ArrayList", "grow", "()[Ljava/lang/Object;"⟩ := Or.inl zw_335
theorem ml_12_69 : zz_ml "java/util/ArrayList" 69 ⟨"java/util/ArrayList", "grow", "(I)[Ljava/lang/Object;"⟩ := Or.inl zw_339
theorem ml_12_73 : zz_ml "java/util/ArrayList" 73 ⟨"jdk/internal/util/ArraysSupport", "newLength", "(III)I"⟩ := Or.inl zw_343
theorem ml_jdk_internal_util_ArraysSupport_194 : zz_ml "jdk/internal/util/ArraysSupport" 194 ⟨"java/lang/Math", "max", "(II)I"⟩ := Or.inl zw_346
theorem ml_jdk_internal_util_ArraysSupport_201 : zz_ml "jdk/internal/util/ArraysSupport" 201 ⟨"jdk/internal/util/ArraysSupport", "hugeLength", "(II)I"⟩ := Or.inl zw_350
theorem ml_12_66 : zz_ml "java/util/ArrayList" 66 ⟨"java/util/Arrays", "copyOf", "([Ljava/lang/Object;I)[Ljava/lang/Object;"⟩ := Or.inl zw_353
theorem ml_java_util_Arrays_86 : zz_ml "java/util/Arrays" 86 ⟨"java/lang/Object", "getClass", "()Ljava/lang/Class;"⟩ := Or.inl zw_356
theorem ml_java_util_Arrays_300 : zz_ml "java/util/Arrays" 300 ⟨"java/util/Arrays", "copyOf", "([Ljava/lang/Object;ILjava/lang/Class;)[Ljava/lang/Object;"⟩ := Or.inl zw_374
theorem ml_java_util_Arrays_304 : zz_ml "java/util/Arrays" 304 ⟨"java/lang/Math", "min", "(II)I"⟩ := Or.inl zw_380
theorem ml_java_util_Arrays_150 : zz_ml "java/util/Arrays" 150 ⟨"java/lang/System", "arraycopy", "(Ljava/lang/Object;ILjava/lang/Object;II)V"⟩ := Or.inl zw_383
theorem ml_12_79 : zz_ml "java/util/ArrayList" 79 ⟨"java/lang/Math", "max", "(II)I"⟩ := Or.inl zw_386
theorem ml_RequestGateLaw_32 : zz_ml "RequestGateLaw" 32 ⟨"RequestGate", "role", "(II)Z"⟩ := Or.inl zw_388
theorem ml_0_101 : zz_ml "RequestGate" 101 ⟨"RequestGate$Roles", "add", "(II)Z"⟩ := Or.inl zw_392
theorem ml_6_15 : zz_ml "RequestGate$Roles" 15 ⟨"RequestGate$Roles", "isRole", "(I)Z"⟩ := Or.inl zw_396
theorem ml_6_19 : zz_ml "RequestGate$Roles" 19 ⟨"RequestGate$Roles", "contains", "(II)Z"⟩ := Or.inl zw_397
theorem ml_RequestGateLaw_37 : zz_ml "RequestGateLaw" 37 ⟨"RequestGate", "user", "(III)I"⟩ := Or.inl zw_400
theorem ml_0_106 : zz_ml "RequestGate" 106 ⟨"RequestGate", "draw", "()I"⟩ := Or.inl zw_406
theorem ml_0_109 : zz_ml "RequestGate" 109 ⟨"RequestGate$User", "<init>", "(IIII)V"⟩ := Or.inl zw_410
theorem ml_8_1 : zz_ml "RequestGate$User" 1 ⟨"java/lang/Object", "<init>", "()V"⟩ := Or.inl zw_413
theorem ml_8_19 : zz_ml "RequestGate$User" 19 ⟨"RequestGate$User", "hashOf", "(III)I"⟩ := Or.inl zw_414
theorem ml_RequestGateLaw_41 : zz_ml "RequestGateLaw" 41 ⟨"RequestGate", "service", "(III)I"⟩ := Or.inl zw_438
theorem ml_0_112 : zz_ml "RequestGate" 112 ⟨"RequestGate", "isConditionOrNone", "(I)Z"⟩ := Or.inl zw_442
theorem ml_0_115 : zz_ml "RequestGate" 115 ⟨"RequestGate", "isTypeOrNone", "(I)Z"⟩ := Or.inl zw_446
theorem ml_0_123 : zz_ml "RequestGate" 123 ⟨"RequestGate", "isType", "(I)Z"⟩ := Or.inl zw_450
theorem ml_0_120 : zz_ml "RequestGate" 120 ⟨"RequestGate$Service", "<init>", "(III)V"⟩ := Or.inl zw_456
theorem ml_11_3 : zz_ml "RequestGate$Service" 3 ⟨"java/lang/Object", "<init>", "()V"⟩ := Or.inl zw_459
theorem ml_RequestGateLaw_45 : zz_ml "RequestGateLaw" 45 ⟨"RequestGate", "declare", "(III)Z"⟩ := Or.inl zw_478
theorem ml_0_126 : zz_ml "RequestGate" 126 ⟨"RequestGate", "isOperation", "(I)Z"⟩ := Or.inl zw_482
theorem ml_0_129 : zz_ml "RequestGate" 129 ⟨"java/util/ArrayList", "get", "(I)Ljava/lang/Object;"⟩ := Or.inl zw_485
theorem ml_12_118 : zz_ml "java/util/ArrayList" 118 ⟨"java/util/Objects", "checkIndex", "(II)I"⟩ := Or.inl zw_489
theorem ml_java_util_Objects_105 : zz_ml "java/util/Objects" 105 ⟨"jdk/internal/util/Preconditions", "checkIndex", "(IILjava/util/function/BiFunction;)I"⟩ := Or.inl zw_492
theorem ml_12_123 : zz_ml "java/util/ArrayList" 123 ⟨"java/util/ArrayList", "elementData", "(I)Ljava/lang/Object;"⟩ := Or.inl zw_495
theorem ml_0_133 : zz_ml "RequestGate" 133 ⟨"RequestGate$Service", "add", "(II)Z"⟩ := Or.inl zw_499
theorem ml_11_29 : zz_ml "RequestGate$Service" 29 ⟨"RequestGate", "isOperation", "(I)Z"⟩ := Or.inr ⟨"RequestGate", by decide +kernel⟩
theorem ml_RequestGateLaw_50 : zz_ml "RequestGateLaw" 50 ⟨"RequestGate", "tick", "(I)Z"⟩ := Or.inl zw_504
theorem ml_0_137 : zz_ml "RequestGate" 137 ⟨"RequestGate$Tickets", "dropDead", "(I)V"⟩ := Or.inl zw_508
theorem ml_10_16 : zz_ml "RequestGate$Tickets" 16 ⟨"java/util/ArrayList", "size", "()I"⟩ := Or.inl zw_512
theorem ml_10_20 : zz_ml "RequestGate$Tickets" 20 ⟨"java/util/ArrayList", "get", "(I)Ljava/lang/Object;"⟩ := Or.inl zw_513
theorem ml_10_51 : zz_ml "RequestGate$Tickets" 51 ⟨"RequestGate$Ticket", "isDead", "(I)Z"⟩ := Or.inl zw_515
theorem ml_10_48 : zz_ml "RequestGate$Tickets" 48 ⟨"java/util/ArrayList", "remove", "(I)Ljava/lang/Object;"⟩ := Or.inl zw_519
theorem ml_12_144 : zz_ml "java/util/ArrayList" 144 ⟨"java/util/ArrayList", "fastRemove", "([Ljava/lang/Object;I)V"⟩ := Or.inl zw_523
theorem ml_12_112 : zz_ml "java/util/ArrayList" 112 ⟨"java/lang/System", "arraycopy", "(Ljava/lang/Object;ILjava/lang/Object;II)V"⟩ := Or.inl zw_527
theorem ml_RequestGateLaw_54 : zz_ml "RequestGateLaw" 54 ⟨"RequestGate", "login", "(IIIZ)I"⟩ := Or.inl zw_528
theorem ml_0_141 : zz_ml "RequestGate" 141 ⟨"RequestGate", "isUser", "(I)Z"⟩ := Or.inl zw_532
theorem ml_0_144 : zz_ml "RequestGate" 144 ⟨"RequestGate$User", "isLocked", "(I)Z"⟩ := Or.inl zw_536
theorem ml_0_147 : zz_ml "RequestGate" 147 ⟨"RequestGate$User", "hasPassword", "(I)Z"⟩ := Or.inl zw_540
theorem ml_0_150 : zz_ml "RequestGate" 150 ⟨"RequestGate$User", "lockAfterTooManyTries", "(I)Z"⟩ := Or.inl zw_544
theorem ml_8_32 : zz_ml "RequestGate$User" 32 ⟨"RequestGate$User", "forgetWrongTries", "()V"⟩ := Or.inl zw_548
theorem ml_0_156 : zz_ml "RequestGate" 156 ⟨"RequestGate$User", "forgetWrongTries", "()V"⟩ := Or.inl zw_552
theorem ml_0_159 : zz_ml "RequestGate" 159 ⟨"RequestGate$User", "isOfOldScheme", "()Z"⟩ := Or.inl zw_553
theorem ml_0_163 : zz_ml "RequestGate" 163 ⟨"RequestGate$User", "moveToNewScheme", "(II)V"⟩ := Or.inl zw_557
theorem ml_0_167 : zz_ml "RequestGate" 167 ⟨"RequestGate$Tickets", "end", "(I)V"⟩ := Or.inl zw_561
theorem ml_0_170 : zz_ml "RequestGate" 170 ⟨"RequestGate", "make", "(LRequestGate$Tickets;IZ)I"⟩ := Or.inl zw_565
theorem ml_0_259 : zz_ml "RequestGate" 259 ⟨"RequestGate$Ticket", "<init>", "(IIIZI)V"⟩ := Or.inl zw_571
theorem ml_9_1 : zz_ml "RequestGate$Ticket" 1 ⟨"java/lang/Object", "<init>", "()V"⟩ := Or.inl zw_574
theorem ml_0_262 : zz_ml "RequestGate" 262 ⟨"RequestGate$Tickets", "add", "(LRequestGate$Ticket;)V"⟩ := Or.inl zw_602
theorem ml_10_33 : zz_ml "RequestGate$Tickets" 33 ⟨"RequestGate$Tickets", "findOf", "(II)LRequestGate$Ticket;"⟩ := Or.inl zw_606
theorem ml_10_40 : zz_ml "RequestGate$Tickets" 40 ⟨"RequestGate$Tickets", "end", "(I)V"⟩ := Or.inl zw_610
theorem ml_10_44 : zz_ml "RequestGate$Tickets" 44 ⟨"java/util/ArrayList", "add", "(Ljava/lang/Object;)Z"⟩ := Or.inl zw_611
theorem ml_RequestGateLaw_59 : zz_ml "RequestGateLaw" 59 ⟨"RequestGate", "logout", "(I)Z"⟩ := Or.inl zw_612
theorem ml_0_174 : zz_ml "RequestGate" 174 ⟨"RequestGate$Tickets", "find", "(I)LRequestGate$Ticket;"⟩ := Or.inl zw_616
theorem ml_0_183 : zz_ml "RequestGate" 183 ⟨"RequestGate$Tickets", "endAllOf", "(I)V"⟩ := Or.inl zw_620
theorem ml_RequestGateLaw_63 : zz_ml "RequestGateLaw" 63 ⟨"RequestGate", "open", "(IIIII)I"⟩ := Or.inl zw_624
theorem ml_0_190 : zz_ml "RequestGate" 190 ⟨"RequestGate$PlainPath", "read", "(LRequestGate$Text;)Z"⟩ := Or.inl zw_628
theorem ml_3_18 : zz_ml "RequestGate$PlainPath" 18 ⟨"RequestGate$Pieces", "empty", "()V"⟩ := Or.inl zw_632
theorem ml_3_21 : zz_ml "RequestGate$PlainPath" 21 ⟨"RequestGate$Text", "at", "(I)C"⟩ := Or.inl zw_636
theorem ml_3_27 : zz_ml "RequestGate$PlainPath" 27 ⟨"RequestGate$Text", "holds", "(C)Z"⟩ := Or.inl zw_637
theorem ml_3_35 : zz_ml "RequestGate$PlainPath" 35 ⟨"RequestGate$Text", "endsPieceAt", "(I)Z"⟩ := Or.inl zw_638
theorem ml_3_39 : zz_ml "RequestGate$PlainPath" 39 ⟨"RequestGate$Text", "find", "(CII)I"⟩ := Or.inl zw_639
theorem ml_3_43 : zz_ml "RequestGate$PlainPath" 43 ⟨"RequestGate$PlainPath", "decode", "(LRequestGate$Text;II)Z"⟩ := Or.inl zw_640
theorem ml_3_51 : zz_ml "RequestGate$PlainPath" 51 ⟨"RequestGate$PlainPath", "codeOf", "(CC)I"⟩ := Or.inl zw_644
theorem ml_3_59 : zz_ml "RequestGate$PlainPath" 59 ⟨"RequestGate$PlainPath", "digitOf", "(C)I"⟩ := Or.inl zw_647
theorem ml_3_63 : zz_ml "RequestGate$PlainPath" 63 ⟨"RequestGate$Text", "isCode", "(I)Z"⟩ := Or.inl zw_650
theorem ml_3_55 : zz_ml "RequestGate$PlainPath" 55 ⟨"RequestGate$Pieces", "write", "(I)V"⟩ := Or.inl zw_651
theorem ml_3_47 : zz_ml "RequestGate$PlainPath" 47 ⟨"RequestGate$PlainPath", "place", "(Z)Z"⟩ := Or.inl zw_652
theorem ml_3_66 : zz_ml "RequestGate$PlainPath" 66 ⟨"RequestGate$Pieces", "writtenLength", "()I"⟩ := Or.inl zw_656
theorem ml_3_70 : zz_ml "RequestGate$PlainPath" 70 ⟨"RequestGate$Pieces", "wroteDots", "(I)Z"⟩ := Or.inl zw_660
theorem ml_2_32 : zz_ml "RequestGate$Pieces" 32 ⟨"RequestGate$Pieces", "writtenLength", "()I"⟩ := Or.inl zw_664
theorem ml_3_73 : zz_ml "RequestGate$PlainPath" 73 ⟨"RequestGate$Pieces", "dropWritten", "()V"⟩ := Or.inl zw_665
theorem ml_3_79 : zz_ml "RequestGate$PlainPath" 79 ⟨"RequestGate$Pieces", "dropLastKept", "()V"⟩ := Or.inl zw_669
theorem ml_3_82 : zz_ml "RequestGate$PlainPath" 82 ⟨"RequestGate$Pieces", "keepWritten", "()V"⟩ := Or.inl zw_673
theorem ml_0_193 : zz_ml "RequestGate" 193 ⟨"RequestGate", "subjectOf", "(LRequestGate$Ticket;)I"⟩ := Or.inl zw_674
theorem ml_0_197 : zz_ml "RequestGate" 197 ⟨"RequestGate", "subjectBySeries", "(II)I"⟩ := Or.inl zw_678
theorem ml_0_204 : zz_ml "RequestGate" 204 ⟨"RequestGate", "decide", "(II)I"⟩ := Or.inl zw_682
theorem ml_0_268 : zz_ml "RequestGate" 268 ⟨"RequestGate", "firstRuleThatFits", "(I)I"⟩ := Or.inl zw_686
theorem ml_0_279 : zz_ml "RequestGate" 279 ⟨"RequestGate$Rule", "isFor", "(I)Z"⟩ := Or.inl zw_690
theorem ml_0_233 : zz_ml "RequestGate" 233 ⟨"RequestGate$Layer", "canLay", "(LRequestGate$Pieces;LRequestGate$Pieces;)Z"⟩ := Or.inl zw_694
theorem ml_4_18 : zz_ml "RequestGate$Layer" 18 ⟨"RequestGate$Layer", "begin", "([Z)V"⟩ := Or.inl zw_698
theorem ml_4_28 : zz_ml "RequestGate$Layer" 28 ⟨"RequestGate$Pieces", "isTwoStars", "(I)Z"⟩ := Or.inl zw_701
theorem ml_2_36 : zz_ml "RequestGate$Pieces" 36 ⟨"RequestGate$Pieces", "lengthOf", "(I)I"⟩ := Or.inl zw_705
theorem ml_2_40 : zz_ml "RequestGate$Pieces" 40 ⟨"RequestGate$Pieces", "at", "(II)C"⟩ := Or.inl zw_709
theorem ml_4_32 : zz_ml "RequestGate$Layer" 32 ⟨"RequestGate$Layer", "spread", "([Z)V"⟩ := Or.inl zw_713
theorem ml_4_35 : zz_ml "RequestGate$Layer" 35 ⟨"RequestGate$Layer", "layOnOne", "(LRequestGate$Pieces;ILRequestGate$Pieces;)V"⟩ := Or.inl zw_716
theorem ml_4_39 : zz_ml "RequestGate$Layer" 39 ⟨"RequestGate$Layer", "covers", "(LRequestGate$Pieces;ILRequestGate$Pieces;I)Z"⟩ := Or.inl zw_720
theorem ml_4_43 : zz_ml "RequestGate$Layer" 43 ⟨"RequestGate$Pieces", "lengthOf", "(I)I"⟩ := Or.inl zw_724
theorem ml_4_47 : zz_ml "RequestGate$Layer" 47 ⟨"RequestGate$Pieces", "at", "(II)C"⟩ := Or.inl zw_725
theorem ml_0_216 : zz_ml "RequestGate" 216 ⟨"RequestGate", "isTrue", "(III)Z"⟩ := Or.inl zw_726
theorem ml_0_285 : zz_ml "RequestGate" 285 ⟨"RequestGate$Roles", "includedIn", "(I)I"⟩ := Or.inl zw_730
theorem ml_0_288 : zz_ml "RequestGate" 288 ⟨"RequestGate$Conditions", "isTrueFor", "(IIII)Z"⟩ := Or.inl zw_734
theorem ml_7_41 : zz_ml "RequestGate$Conditions" 41 ⟨"RequestGate$Conditions", "jointValue", "(I)I"⟩ := Or.inl zw_738
theorem ml_7_49 : zz_ml "RequestGate$Conditions" 49 ⟨"RequestGate$Conditions", "truth", "(Z)I"⟩ := Or.inl zw_742
theorem ml_7_45 : zz_ml "RequestGate$Conditions" 45 ⟨"RequestGate$Conditions", "singleValue", "(IIII)I"⟩ := Or.inl zw_745
theorem ml_7_53 : zz_ml "RequestGate$Conditions" 53 ⟨"RequestGate$Roles", "contains", "(II)Z"⟩ := Or.inl zw_749
theorem ml_RequestGateLaw_68 : zz_ml "RequestGateLaw" 68 ⟨"RequestGate", "call", "(III)I"⟩ := Or.inl zw_750
theorem ml_0_207 : zz_ml "RequestGate" 207 ⟨"RequestGate", "typeThatDeclares", "(II)I"⟩ := Or.inl zw_754
theorem ml_0_292 : zz_ml "RequestGate" 292 ⟨"RequestGate$Service", "declares", "(I)Z"⟩ := Or.inl zw_758
theorem ml_0_210 : zz_ml "RequestGate" 210 ⟨"RequestGate", "conditionAt", "(II)I"⟩ := Or.inl zw_762
theorem ml_0_301 : zz_ml "RequestGate" 301 ⟨"RequestGate$Service", "conditionOf", "(I)I"⟩ := Or.inl zw_766
theorem ml_11_33 : zz_ml "RequestGate$Service" 33 ⟨"RequestGate$Service", "declares", "(I)Z"⟩ := Or.inl zw_770
theorem ml_0_213 : zz_ml "RequestGate" 213 ⟨"RequestGate", "conditionByInterfaces", "(II)I"⟩ := Or.inl zw_771
theorem ml_RequestGateLaw_72 : zz_ml "RequestGateLaw" 72 ⟨"RequestGate", "close", "()Z"⟩ := Or.inl zw_775
theorem ml_RequestGateLaw_77 : zz_ml "RequestGateLaw" 77 ⟨"RequestGate", "who", "()I"⟩ := Or.inl zw_779
theorem ml_RequestGateLaw_82 : zz_ml "RequestGateLaw" 82 ⟨"RequestGate", "fits", "(I)I"⟩ := Or.inl zw_783
theorem ml_RequestGateLaw_87 : zz_ml "RequestGateLaw" 87 ⟨"RequestGate", "session", "(III)I"⟩ := Or.inl zw_787
theorem ml_0_237 : zz_ml "RequestGate" 237 ⟨"RequestGate$Tickets", "findOf", "(II)LRequestGate$Ticket;"⟩ := Or.inl zw_791
theorem ml_RequestGateLaw_91 : zz_ml "RequestGateLaw" 91 ⟨"RequestGate", "series", "(III)I"⟩ := Or.inl zw_792
theorem ml_RequestGateLaw_95 : zz_ml "RequestGateLaw" 95 ⟨"RequestGate", "hash", "(I)I"⟩ := Or.inl zw_796
theorem ml_RequestGateLaw_99 : zz_ml "RequestGateLaw" 99 ⟨"RequestGate", "count", "(I)I"⟩ := Or.inl zw_800
theorem ml_RequestGateLaw_12 : zz_ml "RequestGateLaw" 12 ⟨"RequestGateModel", "<init>", "()V"⟩ := Or.inl zw_806
theorem ml_13_1 : zz_ml "RequestGateModel" 1 ⟨"java/lang/Object", "<init>", "()V"⟩ := Or.inl zw_809
theorem ml_RequestGateLaw_17 : zz_ml "RequestGateLaw" 17 ⟨"RequestGateModel", "type", "(I)Z"⟩ := Or.inl zw_979
theorem ml_RequestGateLaw_21 : zz_ml "RequestGateLaw" 21 ⟨"RequestGateModel", "clear", "()V"⟩ := Or.inl zw_983
theorem ml_RequestGateLaw_26 : zz_ml "RequestGateLaw" 26 ⟨"RequestGateModel", "expression", "(III)I"⟩ := Or.inl zw_987
theorem ml_13_157 : zz_ml "RequestGateModel" 157 ⟨"RequestGateModel", "isExpression", "(I)Z"⟩ := Or.inl zw_991
theorem ml_RequestGateLaw_36 : zz_ml "RequestGateLaw" 36 ⟨"RequestGateModel", "role", "(II)Z"⟩ := Or.inl zw_995
theorem ml_13_160 : zz_ml "RequestGateModel" 160 ⟨"RequestGateModel", "included", "(I)I"⟩ := Or.inl zw_999
theorem ml_RequestGateLaw_31 : zz_ml "RequestGateLaw" 31 ⟨"RequestGateModel", "rule", "(II)I"⟩ := Or.inl zw_1003
theorem ml_13_174 : zz_ml "RequestGateModel" 174 ⟨"RequestGateModel", "isPattern", "()Z"⟩ := Or.inl zw_1007
theorem ml_13_136 : zz_ml "RequestGateModel" 136 ⟨"RequestGateModel", "barred", "(I)Z"⟩ := Or.inl zw_1011
theorem ml_RequestGateLaw_40 : zz_ml "RequestGateLaw" 40 ⟨"RequestGateModel", "user", "(III)I"⟩ := Or.inl zw_1014
theorem ml_13_184 : zz_ml "RequestGateModel" 184 ⟨"RequestGateModel", "draw", "()I"⟩ := Or.inl zw_1018
theorem ml_13_188 : zz_ml "RequestGateModel" 188 ⟨"RequestGateModel", "hashOf", "(III)I"⟩ := Or.inl zw_1022
theorem ml_RequestGateLaw_58 : zz_ml "RequestGateLaw" 58 ⟨"RequestGateModel", "login", "(IIIZ)I"⟩ := Or.inl zw_1025
theorem ml_13_198 : zz_ml "RequestGateModel" 198 ⟨"RequestGateModel", "isUser", "(I)Z"⟩ := Or.inl zw_1029
theorem ml_13_204 : zz_ml "RequestGateModel" 204 ⟨"RequestGateModel", "sessionBy", "(I)I"⟩ := Or.inl zw_1033
theorem ml_13_195 : zz_ml "RequestGateModel" 195 ⟨"RequestGateModel", "live", "(I)Z"⟩ := Or.inl zw_1037
theorem ml_13_207 : zz_ml "RequestGateModel" 207 ⟨"RequestGateModel", "makeSession", "(IZ)I"⟩ := Or.inl zw_1041
theorem ml_13_211 : zz_ml "RequestGateModel" 211 ⟨"RequestGateModel", "makeSeries", "(I)V"⟩ := Or.inl zw_1045
theorem ml_RequestGateLaw_62 : zz_ml "RequestGateLaw" 62 ⟨"RequestGateModel", "logout", "(I)Z"⟩ := Or.inl zw_1049
theorem ml_13_215 : zz_ml "RequestGateModel" 215 ⟨"RequestGateModel", "endSeries", "(I)V"⟩ := Or.inl zw_1053
theorem ml_RequestGateLaw_53 : zz_ml "RequestGateLaw" 53 ⟨"RequestGateModel", "tick", "(I)Z"⟩ := Or.inl zw_1057
theorem ml_RequestGateLaw_44 : zz_ml "RequestGateLaw" 44 ⟨"RequestGateModel", "service", "(III)I"⟩ := Or.inl zw_1061
theorem ml_13_221 : zz_ml "RequestGateModel" 221 ⟨"RequestGateModel", "mayBe", "(II)Z"⟩ := Or.inl zw_1065
theorem ml_RequestGateLaw_49 : zz_ml "RequestGateLaw" 49 ⟨"RequestGateModel", "declare", "(III)Z"⟩ := Or.inl zw_1069
theorem ml_RequestGateLaw_71 : zz_ml "RequestGateLaw" 71 ⟨"RequestGateModel", "call", "(III)I"⟩ := Or.inl zw_1073
theorem ml_13_224 : zz_ml "RequestGateModel" 224 ⟨"RequestGateModel", "guard", "(III)I"⟩ := Or.inl zw_1077
theorem ml_13_231 : zz_ml "RequestGateModel" 231 ⟨"RequestGateModel", "valueOf", "(IIZI)I"⟩ := Or.inl zw_1081
theorem ml_13_167 : zz_ml "RequestGateModel" 167 ⟨"RequestGateModel", "simple", "(IIZI)I"⟩ := Or.inl zw_1085
theorem ml_13_163 : zz_ml "RequestGateModel" 163 ⟨"RequestGateModel", "truth", "(Z)I"⟩ := Or.inl zw_1089
theorem ml_RequestGateLaw_67 : zz_ml "RequestGateLaw" 67 ⟨"RequestGateModel", "open", "(IIIII)I"⟩ := Or.inl zw_1092
theorem ml_13_255 : zz_ml "RequestGateModel" 255 ⟨"RequestGateModel", "read", "()Z"⟩ := Or.inl zw_1096
theorem ml_13_132 : zz_ml "RequestGateModel" 132 ⟨"RequestGateModel", "digit", "(I)I"⟩ := Or.inl zw_1100
theorem ml_13_140 : zz_ml "RequestGateModel" 140 ⟨"RequestGateModel", "settle", "(I)Z"⟩ := Or.inl zw_1103
theorem ml_13_146 : zz_ml "RequestGateModel" 146 ⟨"RequestGateModel", "dots", "(II)Z"⟩ := Or.inl zw_1107
theorem ml_13_258 : zz_ml "RequestGateModel" 258 ⟨"RequestGateModel", "ask", "(III)I"⟩ := Or.inl zw_1111
theorem ml_13_246 : zz_ml "RequestGateModel" 246 ⟨"RequestGateModel", "seriesBy", "(I)I"⟩ := Or.inl zw_1115
theorem ml_13_261 : zz_ml "RequestGateModel" 261 ⟨"RequestGateModel", "ruleFits", "(I)Z"⟩ := Or.inl zw_1119
theorem ml_13_150 : zz_ml "RequestGateModel" 150 ⟨"RequestGateModel", "pieceFits", "(III)Z"⟩ := Or.inl zw_1123
theorem ml_RequestGateLaw_76 : zz_ml "RequestGateLaw" 76 ⟨"RequestGateModel", "close", "()Z"⟩ := Or.inl zw_1127
theorem ml_RequestGateLaw_81 : zz_ml "RequestGateLaw" 81 ⟨"RequestGateModel", "who", "()I"⟩ := Or.inl zw_1131
theorem ml_RequestGateLaw_86 : zz_ml "RequestGateLaw" 86 ⟨"RequestGateModel", "fits", "(I)I"⟩ := Or.inl zw_1135
theorem ml_RequestGateLaw_90 : zz_ml "RequestGateLaw" 90 ⟨"RequestGateModel", "session", "(III)I"⟩ := Or.inl zw_1139
theorem ml_RequestGateLaw_94 : zz_ml "RequestGateLaw" 94 ⟨"RequestGateModel", "series", "(III)I"⟩ := Or.inl zw_1143
theorem ml_RequestGateLaw_98 : zz_ml "RequestGateLaw" 98 ⟨"RequestGateModel", "hash", "(I)I"⟩ := Or.inl zw_1147
theorem ml_RequestGateLaw_102 : zz_ml "RequestGateLaw" 102 ⟨"RequestGateModel", "count", "(I)I"⟩ := Or.inl zw_1151
theorem fl_1_9 : zz_fl "RequestGate$Text" 9 1 0 := ⟨_, _, _, _, rfl, by decide, zw_37, Or.inl rfl⟩
theorem fl_5_23 : zz_fl "RequestGate$Rule" 23 1 1 := ⟨_, _, _, _, rfl, by decide, zw_38, Or.inl rfl⟩
theorem fl_3_31 : zz_fl "RequestGate$PlainPath" 31 1 1 := ⟨_, _, _, _, rfl, by decide, zw_39, Or.inl rfl⟩
theorem fl_1_19 : zz_fl "RequestGate$Text" 19 1 1 := ⟨_, _, _, _, rfl, by decide, zw_40, Or.inl rfl⟩
theorem fl_2_9 : zz_fl "RequestGate$Pieces" 9 2 0 := ⟨_, _, _, _, rfl, by decide, zw_59, Or.inl rfl⟩
theorem fl_2_15 : zz_fl "RequestGate$Pieces" 15 2 1 := ⟨_, _, _, _, rfl, by decide, zw_60, Or.inl rfl⟩
theorem fl_2_19 : zz_fl "RequestGate$Pieces" 19 2 2 := ⟨_, _, _, _, rfl, by decide, zw_61, Or.inl rfl⟩
theorem fl_2_22 : zz_fl "RequestGate$Pieces" 22 2 3 := ⟨_, _, _, _, rfl, by decide, zw_62, Or.inl rfl⟩
theorem fl_2_26 : zz_fl "RequestGate$Pieces" 26 2 4 := ⟨_, _, _, _, rfl, by decide, zw_63, Or.inl rfl⟩
theorem fl_4_22 : zz_fl "RequestGate$Layer" 22 2 5 := ⟨_, _, _, _, rfl, by decide, zw_64, Or.inl rfl⟩
theorem fl_2_29 : zz_fl "RequestGate$Pieces" 29 2 5 := ⟨_, _, _, _, rfl, by decide, zw_65, Or.inl rfl⟩
theorem fl_3_76 : zz_fl "RequestGate$PlainPath" 76 2 5 := ⟨_, _, _, _, rfl, by decide, zw_66, Or.inl rfl⟩
theorem fl_0_275 : zz_fl "RequestGate" 275 2 5 := ⟨_, _, _, _, rfl, by decide, zw_67, Or.inl rfl⟩
theorem fl_3_12 : zz_fl "RequestGate$PlainPath" 12 3 0 := ⟨_, _, _, _, rfl, by decide, zw_82, Or.inl rfl⟩
theorem fl_0_230 : zz_fl "RequestGate" 230 3 0 := ⟨_, _, _, _, rfl, by decide, zw_83, Or.inl rfl⟩
theorem fl_4_9 : zz_fl "RequestGate$Layer" 9 4 0 := ⟨_, _, _, _, rfl, by decide, zw_93, Or.inl rfl⟩
theorem fl_4_15 : zz_fl "RequestGate$Layer" 15 4 1 := ⟨_, _, _, _, rfl, by decide, zw_94, Or.inl rfl⟩
theorem fl_7_9 : zz_fl "RequestGate$Conditions" 9 7 0 := ⟨_, _, _, _, rfl, by decide, zw_107, Or.inl rfl⟩
theorem fl_7_15 : zz_fl "RequestGate$Conditions" 15 7 1 := ⟨_, _, _, _, rfl, by decide, zw_108, Or.inl rfl⟩
theorem fl_7_18 : zz_fl "RequestGate$Conditions" 18 7 2 := ⟨_, _, _, _, rfl, by decide, zw_109, Or.inl rfl⟩
theorem fl_7_21 : zz_fl "RequestGate$Conditions" 21 7 3 := ⟨_, _, _, _, rfl, by decide, zw_110, Or.inl rfl⟩
theorem fl_7_24 : zz_fl "RequestGate$Conditions" 24 7 4 := ⟨_, _, _, _, rfl, by decide, zw_111, Or.inl rfl⟩
theorem fl_6_9 : zz_fl "RequestGate$Roles" 9 6 0 := ⟨_, _, _, _, rfl, by decide, zw_129, Or.inl rfl⟩
theorem fl_12_9 : zz_fl "java/util/ArrayList" 9 12 0 := ⟨_, _, _, _, rfl, by decide, zw_147, Or.inl rfl⟩
theorem fl_12_48 : zz_fl "java/util/ArrayList" 48 12 1 := ⟨_, _, _, _, rfl, by decide, zw_148, Or.inl rfl⟩
theorem fl_java_util_AbstractList_7 : zz_fl "java/util/AbstractList" 7 12 2 := ⟨_, _, _, _, rfl, by decide, zw_149, Or.inl rfl⟩
theorem fl_12_63 : zz_fl "java/util/ArrayList" 63 12 2 := ⟨_, _, _, _, rfl, by decide, zw_150, Or.inr zw_151⟩
theorem fl_10_10 : zz_fl "RequestGate$Tickets" 10 10 0 := ⟨_, _, _, _, rfl, by decide, zw_167, Or.inl rfl⟩
theorem fl_0_12 : zz_fl "RequestGate" 12 0 0 := ⟨_, _, _, _, rfl, by decide, zw_171, Or.inl rfl⟩
theorem fl_0_19 : zz_fl "RequestGate" 19 0 1 := ⟨_, _, _, _, rfl, by decide, zw_172, Or.inl rfl⟩
theorem fl_0_26 : zz_fl "RequestGate" 26 0 2 := ⟨_, _, _, _, rfl, by decide, zw_173, Or.inl rfl⟩
theorem fl_0_33 : zz_fl "RequestGate" 33 0 3 := ⟨_, _, _, _, rfl, by decide, zw_174, Or.inl rfl⟩
theorem fl_0_40 : zz_fl "RequestGate" 40 0 4 := ⟨_, _, _, _, rfl, by decide, zw_175, Or.inl rfl⟩
theorem fl_0_47 : zz_fl "RequestGate" 47 0 5 := ⟨_, _, _, _, rfl, by decide, zw_176, Or.inl rfl⟩
theorem fl_0_51 : zz_fl "RequestGate" 51 0 6 := ⟨_, _, _, _, rfl, by decide, zw_177, Or.inl rfl⟩
theorem fl_0_54 : zz_fl "RequestGate" 54 0 7 := ⟨_, _, _, _, rfl, by decide, zw_178, Or.inl rfl⟩
theorem fl_0_60 : zz_fl "RequestGate" 60 0 8 := ⟨_, _, _, _, rfl, by decide, zw_179, Or.inl rfl⟩
theorem fl_0_64 : zz_fl "RequestGate" 64 0 9 := ⟨_, _, _, _, rfl, by decide, zw_180, Or.inl rfl⟩
theorem fl_0_67 : zz_fl "RequestGate" 67 0 10 := ⟨_, _, _, _, rfl, by decide, zw_181, Or.inl rfl⟩
theorem fl_0_186 : zz_fl "RequestGate" 186 0 11 := ⟨_, _, _, _, rfl, by decide, zw_182, Or.inl rfl⟩
theorem fl_0_134 : zz_fl "RequestGate" 134 0 12 := ⟨_, _, _, _, rfl, by decide, zw_183, Or.inl rfl⟩
theorem fl_0_256 : zz_fl "RequestGate" 256 0 13 := ⟨_, _, _, _, rfl, by decide, zw_184, Or.inl rfl⟩
theorem fl_0_250 : zz_fl "RequestGate" 250 0 14 := ⟨_, _, _, _, rfl, by decide, zw_185, Or.inl rfl⟩
theorem fl_0_220 : zz_fl "RequestGate" 220 0 15 := ⟨_, _, _, _, rfl, by decide, zw_186, Or.inl rfl⟩
theorem fl_0_223 : zz_fl "RequestGate" 223 0 16 := ⟨_, _, _, _, rfl, by decide, zw_187, Or.inl rfl⟩
theorem fl_0_253 : zz_fl "RequestGate" 253 0 17 := ⟨_, _, _, _, rfl, by decide, zw_188, Or.inl rfl⟩
theorem fl_0_153 : zz_fl "RequestGate" 153 0 18 := ⟨_, _, _, _, rfl, by decide, zw_189, Or.inl rfl⟩
theorem fl_5_10 : zz_fl "RequestGate$Rule" 10 5 0 := ⟨_, _, _, _, rfl, by decide, zw_315, Or.inl rfl⟩
theorem fl_0_226 : zz_fl "RequestGate" 226 5 0 := ⟨_, _, _, _, rfl, by decide, zw_316, Or.inl rfl⟩
theorem fl_5_16 : zz_fl "RequestGate$Rule" 16 5 1 := ⟨_, _, _, _, rfl, by decide, zw_317, Or.inl rfl⟩
theorem fl_0_272 : zz_fl "RequestGate" 272 5 1 := ⟨_, _, _, _, rfl, by decide, zw_318, Or.inl rfl⟩
theorem fl_5_20 : zz_fl "RequestGate$Rule" 20 5 2 := ⟨_, _, _, _, rfl, by decide, zw_319, Or.inl rfl⟩
theorem fl_8_7 : zz_fl "RequestGate$User" 7 8 0 := ⟨_, _, _, _, rfl, by decide, zw_417, Or.inl rfl⟩
theorem fl_0_282 : zz_fl "RequestGate" 282 8 0 := ⟨_, _, _, _, rfl, by decide, zw_418, Or.inl rfl⟩
theorem fl_8_13 : zz_fl "RequestGate$User" 13 8 1 := ⟨_, _, _, _, rfl, by decide, zw_419, Or.inl rfl⟩
theorem fl_8_16 : zz_fl "RequestGate$User" 16 8 2 := ⟨_, _, _, _, rfl, by decide, zw_420, Or.inl rfl⟩
theorem fl_8_23 : zz_fl "RequestGate$User" 23 8 3 := ⟨_, _, _, _, rfl, by decide, zw_421, Or.inl rfl⟩
theorem fl_0_247 : zz_fl "RequestGate" 247 8 3 := ⟨_, _, _, _, rfl, by decide, zw_422, Or.inl rfl⟩
theorem fl_8_29 : zz_fl "RequestGate$User" 29 8 4 := ⟨_, _, _, _, rfl, by decide, zw_423, Or.inl rfl⟩
theorem fl_8_26 : zz_fl "RequestGate$User" 26 8 5 := ⟨_, _, _, _, rfl, by decide, zw_424, Or.inl rfl⟩
theorem fl_11_19 : zz_fl "RequestGate$Service" 19 11 0 := ⟨_, _, _, _, rfl, by decide, zw_460, Or.inl rfl⟩
theorem fl_0_295 : zz_fl "RequestGate" 295 11 0 := ⟨_, _, _, _, rfl, by decide, zw_461, Or.inl rfl⟩
theorem fl_11_23 : zz_fl "RequestGate$Service" 23 11 1 := ⟨_, _, _, _, rfl, by decide, zw_462, Or.inl rfl⟩
theorem fl_0_298 : zz_fl "RequestGate" 298 11 1 := ⟨_, _, _, _, rfl, by decide, zw_463, Or.inl rfl⟩
theorem fl_11_26 : zz_fl "RequestGate$Service" 26 11 2 := ⟨_, _, _, _, rfl, by decide, zw_464, Or.inl rfl⟩
theorem fl_11_9 : zz_fl "RequestGate$Service" 9 11 3 := ⟨_, _, _, _, rfl, by decide, zw_465, Or.inl rfl⟩
theorem fl_11_15 : zz_fl "RequestGate$Service" 15 11 4 := ⟨_, _, _, _, rfl, by decide, zw_466, Or.inl rfl⟩
theorem fl_9_7 : zz_fl "RequestGate$Ticket" 7 9 0 := ⟨_, _, _, _, rfl, by decide, zw_575, Or.inl rfl⟩
theorem fl_10_30 : zz_fl "RequestGate$Tickets" 30 9 0 := ⟨_, _, _, _, rfl, by decide, zw_576, Or.inl rfl⟩
theorem fl_0_178 : zz_fl "RequestGate" 178 9 0 := ⟨_, _, _, _, rfl, by decide, zw_577, Or.inl rfl⟩
theorem fl_9_13 : zz_fl "RequestGate$Ticket" 13 9 1 := ⟨_, _, _, _, rfl, by decide, zw_578, Or.inl rfl⟩
theorem fl_10_26 : zz_fl "RequestGate$Tickets" 26 9 1 := ⟨_, _, _, _, rfl, by decide, zw_579, Or.inl rfl⟩
theorem fl_0_241 : zz_fl "RequestGate" 241 9 1 := ⟨_, _, _, _, rfl, by decide, zw_580, Or.inl rfl⟩
theorem fl_9_16 : zz_fl "RequestGate$Ticket" 16 9 2 := ⟨_, _, _, _, rfl, by decide, zw_581, Or.inl rfl⟩
theorem fl_0_201 : zz_fl "RequestGate" 201 9 2 := ⟨_, _, _, _, rfl, by decide, zw_582, Or.inl rfl⟩
theorem fl_9_19 : zz_fl "RequestGate$Ticket" 19 9 3 := ⟨_, _, _, _, rfl, by decide, zw_583, Or.inl rfl⟩
theorem fl_0_244 : zz_fl "RequestGate" 244 9 3 := ⟨_, _, _, _, rfl, by decide, zw_584, Or.inl rfl⟩
theorem fl_9_23 : zz_fl "RequestGate$Ticket" 23 9 4 := ⟨_, _, _, _, rfl, by decide, zw_585, Or.inl rfl⟩
theorem fl_9_26 : zz_fl "RequestGate$Ticket" 26 9 5 := ⟨_, _, _, _, rfl, by decide, zw_586, Or.inl rfl⟩
theorem fl_10_37 : zz_fl "RequestGate$Tickets" 37 9 5 := ⟨_, _, _, _, rfl, by decide, zw_587, Or.inl rfl⟩
theorem fl_0_265 : zz_fl "RequestGate" 265 9 5 := ⟨_, _, _, _, rfl, by decide, zw_588, Or.inl rfl⟩
theorem fl_13_178 : zz_fl "RequestGateModel" 178 13 0 := ⟨_, _, _, _, rfl, by decide, zw_810, Or.inl rfl⟩
theorem fl_13_192 : zz_fl "RequestGateModel" 192 13 1 := ⟨_, _, _, _, rfl, by decide, zw_811, Or.inl rfl⟩
theorem fl_13_264 : zz_fl "RequestGateModel" 264 13 2 := ⟨_, _, _, _, rfl, by decide, zw_812, Or.inl rfl⟩
theorem fl_13_234 : zz_fl "RequestGateModel" 234 13 3 := ⟨_, _, _, _, rfl, by decide, zw_813, Or.inl rfl⟩
theorem fl_13_237 : zz_fl "RequestGateModel" 237 13 4 := ⟨_, _, _, _, rfl, by decide, zw_814, Or.inl rfl⟩
theorem fl_13_249 : zz_fl "RequestGateModel" 249 13 5 := ⟨_, _, _, _, rfl, by decide, zw_815, Or.inl rfl⟩
theorem fl_13_201 : zz_fl "RequestGateModel" 201 13 6 := ⟨_, _, _, _, rfl, by decide, zw_816, Or.inl rfl⟩
theorem fl_13_7 : zz_fl "RequestGateModel" 7 13 7 := ⟨_, _, _, _, rfl, by decide, zw_817, Or.inl rfl⟩
theorem fl_13_181 : zz_fl "RequestGateModel" 181 13 8 := ⟨_, _, _, _, rfl, by decide, zw_818, Or.inl rfl⟩
theorem fl_13_13 : zz_fl "RequestGateModel" 13 13 9 := ⟨_, _, _, _, rfl, by decide, zw_819, Or.inl rfl⟩
theorem fl_13_16 : zz_fl "RequestGateModel" 16 13 10 := ⟨_, _, _, _, rfl, by decide, zw_820, Or.inl rfl⟩
theorem fl_13_19 : zz_fl "RequestGateModel" 19 13 11 := ⟨_, _, _, _, rfl, by decide, zw_821, Or.inl rfl⟩
theorem fl_13_22 : zz_fl "RequestGateModel" 22 13 12 := ⟨_, _, _, _, rfl, by decide, zw_822, Or.inl rfl⟩
theorem fl_13_25 : zz_fl "RequestGateModel" 25 13 13 := ⟨_, _, _, _, rfl, by decide, zw_823, Or.inl rfl⟩
theorem fl_13_28 : zz_fl "RequestGateModel" 28 13 14 := ⟨_, _, _, _, rfl, by decide, zw_824, Or.inl rfl⟩
theorem fl_13_31 : zz_fl "RequestGateModel" 31 13 15 := ⟨_, _, _, _, rfl, by decide, zw_825, Or.inl rfl⟩
theorem fl_13_35 : zz_fl "RequestGateModel" 35 13 16 := ⟨_, _, _, _, rfl, by decide, zw_826, Or.inl rfl⟩
theorem fl_13_38 : zz_fl "RequestGateModel" 38 13 17 := ⟨_, _, _, _, rfl, by decide, zw_827, Or.inl rfl⟩
theorem fl_13_41 : zz_fl "RequestGateModel" 41 13 18 := ⟨_, _, _, _, rfl, by decide, zw_828, Or.inl rfl⟩
theorem fl_13_44 : zz_fl "RequestGateModel" 44 13 19 := ⟨_, _, _, _, rfl, by decide, zw_829, Or.inl rfl⟩
theorem fl_13_47 : zz_fl "RequestGateModel" 47 13 20 := ⟨_, _, _, _, rfl, by decide, zw_830, Or.inl rfl⟩
theorem fl_13_50 : zz_fl "RequestGateModel" 50 13 21 := ⟨_, _, _, _, rfl, by decide, zw_831, Or.inl rfl⟩
theorem fl_13_53 : zz_fl "RequestGateModel" 53 13 22 := ⟨_, _, _, _, rfl, by decide, zw_832, Or.inl rfl⟩
theorem fl_13_56 : zz_fl "RequestGateModel" 56 13 23 := ⟨_, _, _, _, rfl, by decide, zw_833, Or.inl rfl⟩
theorem fl_13_154 : zz_fl "RequestGateModel" 154 13 24 := ⟨_, _, _, _, rfl, by decide, zw_834, Or.inl rfl⟩
theorem fl_13_59 : zz_fl "RequestGateModel" 59 13 25 := ⟨_, _, _, _, rfl, by decide, zw_835, Or.inl rfl⟩
theorem fl_13_62 : zz_fl "RequestGateModel" 62 13 26 := ⟨_, _, _, _, rfl, by decide, zw_836, Or.inl rfl⟩
theorem fl_13_65 : zz_fl "RequestGateModel" 65 13 27 := ⟨_, _, _, _, rfl, by decide, zw_837, Or.inl rfl⟩
theorem fl_13_68 : zz_fl "RequestGateModel" 68 13 28 := ⟨_, _, _, _, rfl, by decide, zw_838, Or.inl rfl⟩
theorem fl_13_129 : zz_fl "RequestGateModel" 129 13 29 := ⟨_, _, _, _, rfl, by decide, zw_839, Or.inl rfl⟩
theorem fl_13_71 : zz_fl "RequestGateModel" 71 13 30 := ⟨_, _, _, _, rfl, by decide, zw_840, Or.inl rfl⟩
theorem fl_13_74 : zz_fl "RequestGateModel" 74 13 31 := ⟨_, _, _, _, rfl, by decide, zw_841, Or.inl rfl⟩
theorem fl_13_77 : zz_fl "RequestGateModel" 77 13 32 := ⟨_, _, _, _, rfl, by decide, zw_842, Or.inl rfl⟩
theorem fl_13_80 : zz_fl "RequestGateModel" 80 13 33 := ⟨_, _, _, _, rfl, by decide, zw_843, Or.inl rfl⟩
theorem fl_13_83 : zz_fl "RequestGateModel" 83 13 34 := ⟨_, _, _, _, rfl, by decide, zw_844, Or.inl rfl⟩
theorem fl_13_143 : zz_fl "RequestGateModel" 143 13 35 := ⟨_, _, _, _, rfl, by decide, zw_845, Or.inl rfl⟩
theorem fl_13_86 : zz_fl "RequestGateModel" 86 13 36 := ⟨_, _, _, _, rfl, by decide, zw_846, Or.inl rfl⟩
theorem fl_13_89 : zz_fl "RequestGateModel" 89 13 37 := ⟨_, _, _, _, rfl, by decide, zw_847, Or.inl rfl⟩
theorem fl_13_92 : zz_fl "RequestGateModel" 92 13 38 := ⟨_, _, _, _, rfl, by decide, zw_848, Or.inl rfl⟩
theorem fl_13_95 : zz_fl "RequestGateModel" 95 13 39 := ⟨_, _, _, _, rfl, by decide, zw_849, Or.inl rfl⟩
theorem fl_13_171 : zz_fl "RequestGateModel" 171 13 40 := ⟨_, _, _, _, rfl, by decide, zw_850, Or.inl rfl⟩
theorem fl_13_98 : zz_fl "RequestGateModel" 98 13 41 := ⟨_, _, _, _, rfl, by decide, zw_851, Or.inl rfl⟩
theorem fl_13_101 : zz_fl "RequestGateModel" 101 13 42 := ⟨_, _, _, _, rfl, by decide, zw_852, Or.inl rfl⟩
theorem fl_13_104 : zz_fl "RequestGateModel" 104 13 43 := ⟨_, _, _, _, rfl, by decide, zw_853, Or.inl rfl⟩
theorem fl_13_107 : zz_fl "RequestGateModel" 107 13 44 := ⟨_, _, _, _, rfl, by decide, zw_854, Or.inl rfl⟩
theorem fl_13_218 : zz_fl "RequestGateModel" 218 13 45 := ⟨_, _, _, _, rfl, by decide, zw_855, Or.inl rfl⟩
theorem fl_13_110 : zz_fl "RequestGateModel" 110 13 46 := ⟨_, _, _, _, rfl, by decide, zw_856, Or.inl rfl⟩
theorem fl_13_113 : zz_fl "RequestGateModel" 113 13 47 := ⟨_, _, _, _, rfl, by decide, zw_857, Or.inl rfl⟩
theorem fl_13_116 : zz_fl "RequestGateModel" 116 13 48 := ⟨_, _, _, _, rfl, by decide, zw_858, Or.inl rfl⟩
theorem fl_13_119 : zz_fl "RequestGateModel" 119 13 49 := ⟨_, _, _, _, rfl, by decide, zw_859, Or.inl rfl⟩
theorem fl_13_122 : zz_fl "RequestGateModel" 122 13 50 := ⟨_, _, _, _, rfl, by decide, zw_860, Or.inl rfl⟩
theorem fl_13_252 : zz_fl "RequestGateModel" 252 13 51 := ⟨_, _, _, _, rfl, by decide, zw_861, Or.inl rfl⟩
theorem fl_13_125 : zz_fl "RequestGateModel" 125 13 52 := ⟨_, _, _, _, rfl, by decide, zw_862, Or.inl rfl⟩
theorem fl_13_227 : zz_fl "RequestGateModel" 227 13 53 := ⟨_, _, _, _, rfl, by decide, zw_863, Or.inl rfl⟩
theorem fl_13_240 : zz_fl "RequestGateModel" 240 13 54 := ⟨_, _, _, _, rfl, by decide, zw_864, Or.inl rfl⟩
theorem fl_13_243 : zz_fl "RequestGateModel" 243 13 55 := ⟨_, _, _, _, rfl, by decide, zw_865, Or.inl rfl⟩
theorem fp_0_12 : zz_fp mm_0 12 0 0 (.object "RequestGate$Text") := ⟨_, _, _, _, rfl, by decide, zw_171, Or.inl rfl, by decide +kernel, Or.inr ⟨rfl, rfl, rfl⟩⟩
theorem fp_0_19 : zz_fp mm_0 19 0 1 (.object "RequestGate$PlainPath") := ⟨_, _, _, _, rfl, by decide, zw_172, Or.inl rfl, by decide +kernel, Or.inr ⟨rfl, rfl, rfl⟩⟩
theorem fp_0_26 : zz_fp mm_0 26 0 2 (.object "RequestGate$Layer") := ⟨_, _, _, _, rfl, by decide, zw_173, Or.inl rfl, by decide +kernel, Or.inr ⟨rfl, rfl, rfl⟩⟩
theorem fp_0_33 : zz_fp mm_0 33 0 3 (.object "RequestGate$Conditions") := ⟨_, _, _, _, rfl, by decide, zw_174, Or.inl rfl, by decide +kernel, Or.inr ⟨rfl, rfl, rfl⟩⟩
theorem fp_0_40 : zz_fp mm_0 40 0 4 (.object "RequestGate$Roles") := ⟨_, _, _, _, rfl, by decide, zw_175, Or.inl rfl, by decide +kernel, Or.inr ⟨rfl, rfl, rfl⟩⟩
theorem fp_0_47 : zz_fp mm_0 47 0 5 (.object "java/util/ArrayList") := ⟨_, _, _, _, rfl, by decide, zw_176, Or.inl rfl, by decide +kernel, Or.inr ⟨rfl, rfl, rfl⟩⟩
theorem fp_0_51 : zz_fp mm_0 51 0 6 (.object "java/util/ArrayList") := ⟨_, _, _, _, rfl, by decide, zw_177, Or.inl rfl, by decide +kernel, Or.inr ⟨rfl, rfl, rfl⟩⟩
theorem fp_0_54 : zz_fp mm_0 54 0 7 (.object "java/util/ArrayList") := ⟨_, _, _, _, rfl, by decide, zw_178, Or.inl rfl, by decide +kernel, Or.inr ⟨rfl, rfl, rfl⟩⟩
theorem fp_0_60 : zz_fp mm_0 60 0 8 (.object "RequestGate$Tickets") := ⟨_, _, _, _, rfl, by decide, zw_179, Or.inl rfl, by decide +kernel, Or.inr ⟨rfl, rfl, rfl⟩⟩
theorem fp_0_64 : zz_fp mm_0 64 0 9 (.object "RequestGate$Tickets") := ⟨_, _, _, _, rfl, by decide, zw_180, Or.inl rfl, by decide +kernel, Or.inr ⟨rfl, rfl, rfl⟩⟩
theorem fp_0_67 : zz_fp mm_0 67 0 10 (.int) := ⟨_, _, _, _, rfl, by decide, zw_181, Or.inl rfl, by decide +kernel, Or.inl rfl⟩
theorem fp_2_9 : zz_fp mm_2 9 1 0 (.array .char) := ⟨_, _, _, _, rfl, by decide, zw_37, Or.inl rfl, by decide +kernel, Or.inr ⟨rfl, rfl, rfl⟩⟩
theorem fp_3_12 : zz_fp mm_3 12 3 0 (.object "RequestGate$Pieces") := ⟨_, _, _, _, rfl, by decide, zw_82, Or.inl rfl, by decide +kernel, Or.inr ⟨rfl, rfl, rfl⟩⟩
theorem fp_4_9 : zz_fp mm_4 9 2 0 (.array .char) := ⟨_, _, _, _, rfl, by decide, zw_59, Or.inl rfl, by decide +kernel, Or.inr ⟨rfl, rfl, rfl⟩⟩
theorem fp_4_15 : zz_fp mm_4 15 2 1 (.array .int) := ⟨_, _, _, _, rfl, by decide, zw_60, Or.inl rfl, by decide +kernel, Or.inr ⟨rfl, rfl, rfl⟩⟩
theorem fp_4_19 : zz_fp mm_4 19 2 2 (.array .int) := ⟨_, _, _, _, rfl, by decide, zw_61, Or.inl rfl, by decide +kernel, Or.inr ⟨rfl, rfl, rfl⟩⟩
theorem fp_5_9 : zz_fp mm_5 9 4 0 (.array .boolean) := ⟨_, _, _, _, rfl, by decide, zw_93, Or.inl rfl, by decide +kernel, Or.inr ⟨rfl, rfl, rfl⟩⟩
theorem fp_5_15 : zz_fp mm_5 15 4 1 (.array .boolean) := ⟨_, _, _, _, rfl, by decide, zw_94, Or.inl rfl, by decide +kernel, Or.inr ⟨rfl, rfl, rfl⟩⟩
theorem fp_6_9 : zz_fp mm_6 9 7 0 (.array .int) := ⟨_, _, _, _, rfl, by decide, zw_107, Or.inl rfl, by decide +kernel, Or.inr ⟨rfl, rfl, rfl⟩⟩
theorem fp_6_15 : zz_fp mm_6 15 7 1 (.array .int) := ⟨_, _, _, _, rfl, by decide, zw_108, Or.inl rfl, by decide +kernel, Or.inr ⟨rfl, rfl, rfl⟩⟩
theorem fp_6_18 : zz_fp mm_6 18 7 2 (.array .int) := ⟨_, _, _, _, rfl, by decide, zw_109, Or.inl rfl, by decide +kernel, Or.inr ⟨rfl, rfl, rfl⟩⟩
theorem fp_6_21 : zz_fp mm_6 21 7 3 (.array .int) := ⟨_, _, _, _, rfl, by decide, zw_110, Or.inl rfl, by decide +kernel, Or.inr ⟨rfl, rfl, rfl⟩⟩
theorem fp_7_9 : zz_fp mm_7 9 6 0 (.array .int) := ⟨_, _, _, _, rfl, by decide, zw_129, Or.inl rfl, by decide +kernel, Or.inr ⟨rfl, rfl, rfl⟩⟩
theorem fp_8_9 : zz_fp mm_8 9 12 0 (.array (.object "java/lang/Object")) := ⟨_, _, _, _, rfl, by decide, zw_147, Or.inl rfl, by decide +kernel, Or.inl rfl⟩
theorem fp_9_7 : zz_fp mm_9 7 12 2 (.int) := ⟨_, _, _, _, rfl, by decide, zw_149, Or.inl rfl, by decide +kernel, Or.inl rfl⟩
theorem fp_11_10 : zz_fp mm_11 10 10 0 (.object "java/util/ArrayList") := ⟨_, _, _, _, rfl, by decide, zw_167, Or.inl rfl, by decide +kernel, Or.inr ⟨rfl, rfl, rfl⟩⟩
theorem fp_13_19 : zz_fp mm_13 19 1 1 (.int) := ⟨_, _, _, _, rfl, by decide, zw_40, Or.inl rfl, by decide +kernel, Or.inl rfl⟩
theorem fp_16_19 : zz_fp mm_16 19 1 1 (.int) := ⟨_, _, _, _, rfl, by decide, zw_40, Or.inl rfl, by decide +kernel, Or.inl rfl⟩
theorem fp_18_24 : zz_fp mm_18 24 7 4 (.int) := ⟨_, _, _, _, rfl, by decide, zw_111, Or.inl rfl, by decide +kernel, Or.inl rfl⟩
theorem fp_30_10 : zz_fp mm_30 10 5 0 (.object "RequestGate$Pieces") := ⟨_, _, _, _, rfl, by decide, zw_315, Or.inl rfl, by decide +kernel, Or.inr ⟨rfl, rfl, rfl⟩⟩
theorem fp_30_16 : zz_fp mm_30 16 5 1 (.int) := ⟨_, _, _, _, rfl, by decide, zw_317, Or.inl rfl, by decide +kernel, Or.inr ⟨rfl, rfl, rfl⟩⟩
theorem fp_30_20 : zz_fp mm_30 20 5 2 (.int) := ⟨_, _, _, _, rfl, by decide, zw_319, Or.inl rfl, by decide +kernel, Or.inr ⟨rfl, rfl, rfl⟩⟩
theorem fp_31_26 : zz_fp mm_31 26 2 4 (.int) := ⟨_, _, _, _, rfl, by decide, zw_63, Or.inl rfl, by decide +kernel, Or.inl rfl⟩
theorem fp_32_29 : zz_fp mm_32 29 2 5 (.int) := ⟨_, _, _, _, rfl, by decide, zw_65, Or.inl rfl, by decide +kernel, Or.inl rfl⟩
theorem fp_32_22 : zz_fp mm_32 22 2 3 (.int) := ⟨_, _, _, _, rfl, by decide, zw_62, Or.inl rfl, by decide +kernel, Or.inl rfl⟩
theorem fp_33_63 : zz_fp mm_33 63 12 2 (.int) := ⟨_, _, _, _, rfl, by decide, zw_150, Or.inr zw_151, by decide +kernel, Or.inl rfl⟩
theorem fp_34_48 : zz_fp mm_34 48 12 1 (.int) := ⟨_, _, _, _, rfl, by decide, zw_148, Or.inl rfl, by decide +kernel, Or.inl rfl⟩
theorem fp_36_9 : zz_fp mm_36 9 12 0 (.array (.object "java/lang/Object")) := ⟨_, _, _, _, rfl, by decide, zw_147, Or.inl rfl, by decide +kernel, Or.inl rfl⟩
theorem fp_47_256 : zz_fp mm_47 256 0 13 (.int) := ⟨_, _, _, _, rfl, by decide, zw_184, Or.inl rfl, by decide +kernel, Or.inl rfl⟩
theorem fp_48_7 : zz_fp mm_48 7 8 0 (.int) := ⟨_, _, _, _, rfl, by decide, zw_417, Or.inl rfl, by decide +kernel, Or.inr ⟨rfl, rfl, rfl⟩⟩
theorem fp_48_13 : zz_fp mm_48 13 8 1 (.int) := ⟨_, _, _, _, rfl, by decide, zw_419, Or.inl rfl, by decide +kernel, Or.inl rfl⟩
theorem fp_48_16 : zz_fp mm_48 16 8 2 (.int) := ⟨_, _, _, _, rfl, by decide, zw_420, Or.inl rfl, by decide +kernel, Or.inl rfl⟩
theorem fp_48_23 : zz_fp mm_48 23 8 3 (.int) := ⟨_, _, _, _, rfl, by decide, zw_421, Or.inl rfl, by decide +kernel, Or.inl rfl⟩
theorem fp_54_9 : zz_fp mm_54 9 11 3 (.array .boolean) := ⟨_, _, _, _, rfl, by decide, zw_465, Or.inl rfl, by decide +kernel, Or.inr ⟨rfl, rfl, rfl⟩⟩
theorem fp_54_15 : zz_fp mm_54 15 11 4 (.array .int) := ⟨_, _, _, _, rfl, by decide, zw_466, Or.inl rfl, by decide +kernel, Or.inr ⟨rfl, rfl, rfl⟩⟩
theorem fp_54_19 : zz_fp mm_54 19 11 0 (.int) := ⟨_, _, _, _, rfl, by decide, zw_460, Or.inl rfl, by decide +kernel, Or.inr ⟨rfl, rfl, rfl⟩⟩
theorem fp_54_23 : zz_fp mm_54 23 11 1 (.int) := ⟨_, _, _, _, rfl, by decide, zw_462, Or.inl rfl, by decide +kernel, Or.inr ⟨rfl, rfl, rfl⟩⟩
theorem fp_54_26 : zz_fp mm_54 26 11 2 (.int) := ⟨_, _, _, _, rfl, by decide, zw_464, Or.inl rfl, by decide +kernel, Or.inr ⟨rfl, rfl, rfl⟩⟩
theorem fp_62_134 : zz_fp mm_62 134 0 12 (.int) := ⟨_, _, _, _, rfl, by decide, zw_183, Or.inl rfl, by decide +kernel, Or.inl rfl⟩
theorem fp_66_63 : zz_fp mm_66 63 12 2 (.int) := ⟨_, _, _, _, rfl, by decide, zw_150, Or.inr zw_151, by decide +kernel, Or.inl rfl⟩
theorem fp_66_48 : zz_fp mm_66 48 12 1 (.int) := ⟨_, _, _, _, rfl, by decide, zw_148, Or.inl rfl, by decide +kernel, Or.inl rfl⟩
theorem fp_67_153 : zz_fp mm_67 153 0 18 (.int) := ⟨_, _, _, _, rfl, by decide, zw_189, Or.inl rfl, by decide +kernel, Or.inl rfl⟩
theorem fp_71_29 : zz_fp mm_71 29 8 4 (.int) := ⟨_, _, _, _, rfl, by decide, zw_423, Or.inl rfl, by decide +kernel, Or.inl rfl⟩
theorem fp_71_26 : zz_fp mm_71 26 8 5 (.int) := ⟨_, _, _, _, rfl, by decide, zw_424, Or.inl rfl, by decide +kernel, Or.inl rfl⟩
theorem fp_72_29 : zz_fp mm_72 29 8 4 (.int) := ⟨_, _, _, _, rfl, by decide, zw_423, Or.inl rfl, by decide +kernel, Or.inl rfl⟩
theorem fp_74_13 : zz_fp mm_74 13 8 1 (.int) := ⟨_, _, _, _, rfl, by decide, zw_419, Or.inl rfl, by decide +kernel, Or.inl rfl⟩
theorem fp_74_16 : zz_fp mm_74 16 8 2 (.int) := ⟨_, _, _, _, rfl, by decide, zw_420, Or.inl rfl, by decide +kernel, Or.inl rfl⟩
theorem fp_74_23 : zz_fp mm_74 23 8 3 (.int) := ⟨_, _, _, _, rfl, by decide, zw_421, Or.inl rfl, by decide +kernel, Or.inl rfl⟩
theorem fp_77_7 : zz_fp mm_77 7 9 0 (.int) := ⟨_, _, _, _, rfl, by decide, zw_575, Or.inl rfl, by decide +kernel, Or.inr ⟨rfl, rfl, rfl⟩⟩
theorem fp_77_13 : zz_fp mm_77 13 9 1 (.int) := ⟨_, _, _, _, rfl, by decide, zw_578, Or.inl rfl, by decide +kernel, Or.inr ⟨rfl, rfl, rfl⟩⟩
theorem fp_77_16 : zz_fp mm_77 16 9 2 (.int) := ⟨_, _, _, _, rfl, by decide, zw_581, Or.inl rfl, by decide +kernel, Or.inl rfl⟩
theorem fp_77_19 : zz_fp mm_77 19 9 3 (.boolean) := ⟨_, _, _, _, rfl, by decide, zw_583, Or.inl rfl, by decide +kernel, Or.inr ⟨rfl, rfl, rfl⟩⟩
theorem fp_77_23 : zz_fp mm_77 23 9 4 (.int) := ⟨_, _, _, _, rfl, by decide, zw_585, Or.inl rfl, by decide +kernel, Or.inr ⟨rfl, rfl, rfl⟩⟩
theorem fp_77_26 : zz_fp mm_77 26 9 5 (.int) := ⟨_, _, _, _, rfl, by decide, zw_586, Or.inl rfl, by decide +kernel, Or.inl rfl⟩
theorem fp_85_22 : zz_fp mm_85 22 2 3 (.int) := ⟨_, _, _, _, rfl, by decide, zw_62, Or.inl rfl, by decide +kernel, Or.inl rfl⟩
theorem fp_85_26 : zz_fp mm_85 26 2 4 (.int) := ⟨_, _, _, _, rfl, by decide, zw_63, Or.inl rfl, by decide +kernel, Or.inl rfl⟩
theorem fp_85_29 : zz_fp mm_85 29 2 5 (.int) := ⟨_, _, _, _, rfl, by decide, zw_65, Or.inl rfl, by decide +kernel, Or.inl rfl⟩
theorem fp_92_26 : zz_fp mm_92 26 2 4 (.int) := ⟨_, _, _, _, rfl, by decide, zw_63, Or.inl rfl, by decide +kernel, Or.inl rfl⟩
theorem fp_93_29 : zz_fp mm_93 29 2 5 (.int) := ⟨_, _, _, _, rfl, by decide, zw_65, Or.inl rfl, by decide +kernel, Or.inl rfl⟩
theorem fp_94_265 : zz_fp mm_94 265 9 5 (.int) := ⟨_, _, _, _, rfl, by decide, zw_588, Or.inl rfl, by decide +kernel, Or.inl rfl⟩
theorem fp_95_253 : zz_fp mm_95 253 0 17 (.int) := ⟨_, _, _, _, rfl, by decide, zw_188, Or.inl rfl, by decide +kernel, Or.inl rfl⟩
theorem fp_95_201 : zz_fp mm_95 201 9 2 (.int) := ⟨_, _, _, _, rfl, by decide, zw_582, Or.inl rfl, by decide +kernel, Or.inl rfl⟩
theorem fp_96_186 : zz_fp mm_96 186 0 11 (.boolean) := ⟨_, _, _, _, rfl, by decide, zw_182, Or.inl rfl, by decide +kernel, Or.inl rfl⟩
theorem fp_96_67 : zz_fp mm_96 67 0 10 (.int) := ⟨_, _, _, _, rfl, by decide, zw_181, Or.inl rfl, by decide +kernel, Or.inl rfl⟩
theorem fp_96_250 : zz_fp mm_96 250 0 14 (.int) := ⟨_, _, _, _, rfl, by decide, zw_185, Or.inl rfl, by decide +kernel, Or.inl rfl⟩
theorem fp_113_220 : zz_fp mm_113 220 0 15 (.int) := ⟨_, _, _, _, rfl, by decide, zw_186, Or.inl rfl, by decide +kernel, Or.inl rfl⟩
theorem fp_113_223 : zz_fp mm_113 223 0 16 (.int) := ⟨_, _, _, _, rfl, by decide, zw_187, Or.inl rfl, by decide +kernel, Or.inl rfl⟩
theorem fp_119_186 : zz_fp mm_119 186 0 11 (.boolean) := ⟨_, _, _, _, rfl, by decide, zw_182, Or.inl rfl, by decide +kernel, Or.inl rfl⟩
theorem fp_119_67 : zz_fp mm_119 67 0 10 (.int) := ⟨_, _, _, _, rfl, by decide, zw_181, Or.inl rfl, by decide +kernel, Or.inl rfl⟩
theorem fp_126_7 : zz_fp mm_126 7 13 7 (.array .int) := ⟨_, _, _, _, rfl, by decide, zw_817, Or.inl rfl, by decide +kernel, Or.inr ⟨rfl, rfl, rfl⟩⟩
theorem fp_126_13 : zz_fp mm_126 13 13 9 (.array .int) := ⟨_, _, _, _, rfl, by decide, zw_819, Or.inl rfl, by decide +kernel, Or.inr ⟨rfl, rfl, rfl⟩⟩
theorem fp_126_16 : zz_fp mm_126 16 13 10 (.array .int) := ⟨_, _, _, _, rfl, by decide, zw_820, Or.inl rfl, by decide +kernel, Or.inr ⟨rfl, rfl, rfl⟩⟩
theorem fp_126_19 : zz_fp mm_126 19 13 11 (.array .int) := ⟨_, _, _, _, rfl, by decide, zw_821, Or.inl rfl, by decide +kernel, Or.inr ⟨rfl, rfl, rfl⟩⟩
theorem fp_126_22 : zz_fp mm_126 22 13 12 (.array .int) := ⟨_, _, _, _, rfl, by decide, zw_822, Or.inl rfl, by decide +kernel, Or.inr ⟨rfl, rfl, rfl⟩⟩
theorem fp_126_25 : zz_fp mm_126 25 13 13 (.array .int) := ⟨_, _, _, _, rfl, by decide, zw_823, Or.inl rfl, by decide +kernel, Or.inr ⟨rfl, rfl, rfl⟩⟩
theorem fp_126_28 : zz_fp mm_126 28 13 14 (.array .int) := ⟨_, _, _, _, rfl, by decide, zw_824, Or.inl rfl, by decide +kernel, Or.inr ⟨rfl, rfl, rfl⟩⟩
theorem fp_126_31 : zz_fp mm_126 31 13 15 (.array .boolean) := ⟨_, _, _, _, rfl, by decide, zw_825, Or.inl rfl, by decide +kernel, Or.inr ⟨rfl, rfl, rfl⟩⟩
theorem fp_126_35 : zz_fp mm_126 35 13 16 (.array .int) := ⟨_, _, _, _, rfl, by decide, zw_826, Or.inl rfl, by decide +kernel, Or.inr ⟨rfl, rfl, rfl⟩⟩
theorem fp_126_38 : zz_fp mm_126 38 13 17 (.array .int) := ⟨_, _, _, _, rfl, by decide, zw_827, Or.inl rfl, by decide +kernel, Or.inr ⟨rfl, rfl, rfl⟩⟩
theorem fp_126_41 : zz_fp mm_126 41 13 18 (.array .boolean) := ⟨_, _, _, _, rfl, by decide, zw_828, Or.inl rfl, by decide +kernel, Or.inr ⟨rfl, rfl, rfl⟩⟩
theorem fp_126_44 : zz_fp mm_126 44 13 19 (.array .int) := ⟨_, _, _, _, rfl, by decide, zw_829, Or.inl rfl, by decide +kernel, Or.inr ⟨rfl, rfl, rfl⟩⟩
theorem fp_126_47 : zz_fp mm_126 47 13 20 (.array .int) := ⟨_, _, _, _, rfl, by decide, zw_830, Or.inl rfl, by decide +kernel, Or.inr ⟨rfl, rfl, rfl⟩⟩
theorem fp_126_50 : zz_fp mm_126 50 13 21 (.array .boolean) := ⟨_, _, _, _, rfl, by decide, zw_831, Or.inl rfl, by decide +kernel, Or.inr ⟨rfl, rfl, rfl⟩⟩
theorem fp_126_53 : zz_fp mm_126 53 13 22 (.array .int) := ⟨_, _, _, _, rfl, by decide, zw_832, Or.inl rfl, by decide +kernel, Or.inr ⟨rfl, rfl, rfl⟩⟩
theorem fp_126_56 : zz_fp mm_126 56 13 23 (.array .int) := ⟨_, _, _, _, rfl, by decide, zw_833, Or.inl rfl, by decide +kernel, Or.inr ⟨rfl, rfl, rfl⟩⟩
theorem fp_126_59 : zz_fp mm_126 59 13 25 (.array .int) := ⟨_, _, _, _, rfl, by decide, zw_835, Or.inl rfl, by decide +kernel, Or.inr ⟨rfl, rfl, rfl⟩⟩
theorem fp_126_62 : zz_fp mm_126 62 13 26 (.array .int) := ⟨_, _, _, _, rfl, by decide, zw_836, Or.inl rfl, by decide +kernel, Or.inr ⟨rfl, rfl, rfl⟩⟩
theorem fp_126_65 : zz_fp mm_126 65 13 27 (.array .int) := ⟨_, _, _, _, rfl, by decide, zw_837, Or.inl rfl, by decide +kernel, Or.inr ⟨rfl, rfl, rfl⟩⟩
theorem fp_126_68 : zz_fp mm_126 68 13 28 (.array .int) := ⟨_, _, _, _, rfl, by decide, zw_838, Or.inl rfl, by decide +kernel, Or.inr ⟨rfl, rfl, rfl⟩⟩
theorem fp_126_71 : zz_fp mm_126 71 13 30 (.array .int) := ⟨_, _, _, _, rfl, by decide, zw_840, Or.inl rfl, by decide +kernel, Or.inr ⟨rfl, rfl, rfl⟩⟩
theorem fp_126_74 : zz_fp mm_126 74 13 31 (.array .int) := ⟨_, _, _, _, rfl, by decide, zw_841, Or.inl rfl, by decide +kernel, Or.inr ⟨rfl, rfl, rfl⟩⟩
theorem fp_126_77 : zz_fp mm_126 77 13 32 (.array .int) := ⟨_, _, _, _, rfl, by decide, zw_842, Or.inl rfl, by decide +kernel, Or.inr ⟨rfl, rfl, rfl⟩⟩
theorem fp_126_80 : zz_fp mm_126 80 13 33 (.array .int) := ⟨_, _, _, _, rfl, by decide, zw_843, Or.inl rfl, by decide +kernel, Or.inr ⟨rfl, rfl, rfl⟩⟩
theorem fp_126_83 : zz_fp mm_126 83 13 34 (.array .int) := ⟨_, _, _, _, rfl, by decide, zw_844, Or.inl rfl, by decide +kernel, Or.inr ⟨rfl, rfl, rfl⟩⟩
theorem fp_126_86 : zz_fp mm_126 86 13 36 (.array .boolean) := ⟨_, _, _, _, rfl, by decide, zw_846, Or.inl rfl, by decide +kernel, Or.inr ⟨rfl, rfl, rfl⟩⟩
theorem fp_126_89 : zz_fp mm_126 89 13 37 (.array .boolean) := ⟨_, _, _, _, rfl, by decide, zw_847, Or.inl rfl, by decide +kernel, Or.inr ⟨rfl, rfl, rfl⟩⟩
theorem fp_126_92 : zz_fp mm_126 92 13 38 (.array .boolean) := ⟨_, _, _, _, rfl, by decide, zw_848, Or.inl rfl, by decide +kernel, Or.inr ⟨rfl, rfl, rfl⟩⟩
theorem fp_126_95 : zz_fp mm_126 95 13 39 (.array .boolean) := ⟨_, _, _, _, rfl, by decide, zw_849, Or.inl rfl, by decide +kernel, Or.inr ⟨rfl, rfl, rfl⟩⟩
theorem fp_126_98 : zz_fp mm_126 98 13 41 (.array .int) := ⟨_, _, _, _, rfl, by decide, zw_851, Or.inl rfl, by decide +kernel, Or.inr ⟨rfl, rfl, rfl⟩⟩
theorem fp_126_101 : zz_fp mm_126 101 13 42 (.array .int) := ⟨_, _, _, _, rfl, by decide, zw_852, Or.inl rfl, by decide +kernel, Or.inr ⟨rfl, rfl, rfl⟩⟩
theorem fp_126_104 : zz_fp mm_126 104 13 43 (.array .int) := ⟨_, _, _, _, rfl, by decide, zw_853, Or.inl rfl, by decide +kernel, Or.inr ⟨rfl, rfl, rfl⟩⟩
theorem fp_126_107 : zz_fp mm_126 107 13 44 (.array .int) := ⟨_, _, _, _, rfl, by decide, zw_854, Or.inl rfl, by decide +kernel, Or.inr ⟨rfl, rfl, rfl⟩⟩
theorem fp_126_110 : zz_fp mm_126 110 13 46 (.array .int) := ⟨_, _, _, _, rfl, by decide, zw_856, Or.inl rfl, by decide +kernel, Or.inr ⟨rfl, rfl, rfl⟩⟩
theorem fp_126_113 : zz_fp mm_126 113 13 47 (.array .int) := ⟨_, _, _, _, rfl, by decide, zw_857, Or.inl rfl, by decide +kernel, Or.inr ⟨rfl, rfl, rfl⟩⟩
theorem fp_126_116 : zz_fp mm_126 116 13 48 (.array .int) := ⟨_, _, _, _, rfl, by decide, zw_858, Or.inl rfl, by decide +kernel, Or.inr ⟨rfl, rfl, rfl⟩⟩
theorem fp_126_119 : zz_fp mm_126 119 13 49 (.array .boolean) := ⟨_, _, _, _, rfl, by decide, zw_859, Or.inl rfl, by decide +kernel, Or.inr ⟨rfl, rfl, rfl⟩⟩
theorem fp_126_122 : zz_fp mm_126 122 13 50 (.array .int) := ⟨_, _, _, _, rfl, by decide, zw_860, Or.inl rfl, by decide +kernel, Or.inr ⟨rfl, rfl, rfl⟩⟩
theorem fp_126_125 : zz_fp mm_126 125 13 52 (.int) := ⟨_, _, _, _, rfl, by decide, zw_862, Or.inl rfl, by decide +kernel, Or.inl rfl⟩
theorem fp_127_129 : zz_fp mm_127 129 13 29 (.int) := ⟨_, _, _, _, rfl, by decide, zw_839, Or.inl rfl, by decide +kernel, Or.inl rfl⟩
theorem fp_128_129 : zz_fp mm_128 129 13 29 (.int) := ⟨_, _, _, _, rfl, by decide, zw_839, Or.inl rfl, by decide +kernel, Or.inl rfl⟩
theorem fp_129_154 : zz_fp mm_129 154 13 24 (.int) := ⟨_, _, _, _, rfl, by decide, zw_834, Or.inl rfl, by decide +kernel, Or.inl rfl⟩
theorem fp_133_129 : zz_fp mm_133 129 13 29 (.int) := ⟨_, _, _, _, rfl, by decide, zw_839, Or.inl rfl, by decide +kernel, Or.inl rfl⟩
theorem fp_133_171 : zz_fp mm_133 171 13 40 (.int) := ⟨_, _, _, _, rfl, by decide, zw_850, Or.inl rfl, by decide +kernel, Or.inl rfl⟩
theorem fp_136_181 : zz_fp mm_136 181 13 8 (.int) := ⟨_, _, _, _, rfl, by decide, zw_818, Or.inl rfl, by decide +kernel, Or.inl rfl⟩
theorem fp_137_178 : zz_fp mm_137 178 13 0 (.int) := ⟨_, _, _, _, rfl, by decide, zw_810, Or.inl rfl, by decide +kernel, Or.inl rfl⟩
theorem fp_139_201 : zz_fp mm_139 201 13 6 (.int) := ⟨_, _, _, _, rfl, by decide, zw_816, Or.inl rfl, by decide +kernel, Or.inl rfl⟩
theorem fp_147_192 : zz_fp mm_147 192 13 1 (.int) := ⟨_, _, _, _, rfl, by decide, zw_811, Or.inl rfl, by decide +kernel, Or.inl rfl⟩
theorem fp_148_218 : zz_fp mm_148 218 13 45 (.int) := ⟨_, _, _, _, rfl, by decide, zw_855, Or.inl rfl, by decide +kernel, Or.inl rfl⟩
theorem fp_151_234 : zz_fp mm_151 234 13 3 (.int) := ⟨_, _, _, _, rfl, by decide, zw_813, Or.inl rfl, by decide +kernel, Or.inl rfl⟩
theorem fp_151_237 : zz_fp mm_151 237 13 4 (.int) := ⟨_, _, _, _, rfl, by decide, zw_814, Or.inl rfl, by decide +kernel, Or.inl rfl⟩
theorem fp_156_129 : zz_fp mm_156 129 13 29 (.int) := ⟨_, _, _, _, rfl, by decide, zw_839, Or.inl rfl, by decide +kernel, Or.inl rfl⟩
theorem fp_156_252 : zz_fp mm_156 252 13 51 (.boolean) := ⟨_, _, _, _, rfl, by decide, zw_861, Or.inl rfl, by decide +kernel, Or.inl rfl⟩
theorem fp_156_125 : zz_fp mm_156 125 13 52 (.int) := ⟨_, _, _, _, rfl, by decide, zw_862, Or.inl rfl, by decide +kernel, Or.inl rfl⟩
theorem fp_156_227 : zz_fp mm_156 227 13 53 (.boolean) := ⟨_, _, _, _, rfl, by decide, zw_863, Or.inl rfl, by decide +kernel, Or.inl rfl⟩
theorem fp_156_264 : zz_fp mm_156 264 13 2 (.int) := ⟨_, _, _, _, rfl, by decide, zw_812, Or.inl rfl, by decide +kernel, Or.inl rfl⟩
theorem fp_159_143 : zz_fp mm_159 143 13 35 (.int) := ⟨_, _, _, _, rfl, by decide, zw_845, Or.inl rfl, by decide +kernel, Or.inl rfl⟩
theorem fp_161_240 : zz_fp mm_161 240 13 54 (.int) := ⟨_, _, _, _, rfl, by decide, zw_864, Or.inl rfl, by decide +kernel, Or.inl rfl⟩
theorem fp_161_243 : zz_fp mm_161 243 13 55 (.boolean) := ⟨_, _, _, _, rfl, by decide, zw_865, Or.inl rfl, by decide +kernel, Or.inl rfl⟩
theorem fp_161_249 : zz_fp mm_161 249 13 5 (.int) := ⟨_, _, _, _, rfl, by decide, zw_815, Or.inl rfl, by decide +kernel, Or.inl rfl⟩
theorem fp_165_252 : zz_fp mm_165 252 13 51 (.boolean) := ⟨_, _, _, _, rfl, by decide, zw_861, Or.inl rfl, by decide +kernel, Or.inl rfl⟩
theorem fp_165_125 : zz_fp mm_165 125 13 52 (.int) := ⟨_, _, _, _, rfl, by decide, zw_862, Or.inl rfl, by decide +kernel, Or.inl rfl⟩
theorem fp_165_227 : zz_fp mm_165 227 13 53 (.boolean) := ⟨_, _, _, _, rfl, by decide, zw_863, Or.inl rfl, by decide +kernel, Or.inl rfl⟩
theorem nw_RequestGateLaw_7 : zz_nw "RequestGateLaw" 7 0 19 [.null, .null, .null, .null, .null, .null, .null, .null, .null, .null, zv 0, zv 0, zv 0, zv 0, zv 0, zv 0, zv 0, zv 0, zv 0] := ⟨_, _, rfl, zw_23, zw_24, zw_1, by decide +kernel⟩
theorem nw_0_9 : zz_nw "RequestGate" 9 1 2 [.null, zv 0] := ⟨_, _, rfl, zw_31, zw_32, zw_2, by decide +kernel⟩
theorem nw_0_16 : zz_nw "RequestGate" 16 3 1 [.null] := ⟨_, _, rfl, zw_47, zw_48, zw_3, by decide +kernel⟩
theorem nw_3_9 : zz_nw "RequestGate$PlainPath" 9 2 6 [.null, .null, .null, zv 0, zv 0, zv 0] := ⟨_, _, rfl, zw_53, zw_54, zw_4, by decide +kernel⟩
theorem nw_0_23 : zz_nw "RequestGate" 23 4 2 [.null, .null] := ⟨_, _, rfl, zw_87, zw_88, zw_5, by decide +kernel⟩
theorem nw_0_30 : zz_nw "RequestGate" 30 7 5 [.null, .null, .null, .null, zv 0] := ⟨_, _, rfl, zw_101, zw_102, zw_6, by decide +kernel⟩
theorem nw_0_37 : zz_nw "RequestGate" 37 6 1 [.null] := ⟨_, _, rfl, zw_123, zw_124, zw_7, by decide +kernel⟩
theorem nw_0_44 : zz_nw "RequestGate" 44 12 3 [.null, zv 0, zv 0] := ⟨_, _, rfl, zw_133, zw_134, zw_10, by decide +kernel⟩
theorem nw_0_57 : zz_nw "RequestGate" 57 10 1 [.null] := ⟨_, _, rfl, zw_159, zw_160, zw_11, by decide +kernel⟩
theorem nw_10_7 : zz_nw "RequestGate$Tickets" 7 12 3 [.null, zv 0, zv 0] := ⟨_, _, rfl, zw_165, zw_134, zw_10, by decide +kernel⟩
theorem nw_0_90 : zz_nw "RequestGate" 90 5 3 [.null, zv 0, zv 0] := ⟨_, _, rfl, zw_299, zw_300, zw_13, by decide +kernel⟩
theorem nw_5_7 : zz_nw "RequestGate$Rule" 7 2 6 [.null, .null, .null, zv 0, zv 0, zv 0] := ⟨_, _, rfl, zw_305, zw_54, zw_4, by decide +kernel⟩
theorem nw_0_104 : zz_nw "RequestGate" 104 8 6 [zv 0, zv 0, zv 0, zv 0, zv 0, zv 0] := ⟨_, _, rfl, zw_404, zw_405, zw_18, by decide +kernel⟩
theorem nw_0_118 : zz_nw "RequestGate" 118 11 5 [zv 0, zv 0, zv 0, .null, .null] := ⟨_, _, rfl, zw_454, zw_455, zw_19, by decide +kernel⟩
theorem nw_10_24 : zz_nw "RequestGate$Tickets" 24 9 6 [zv 0, zv 0, zv 0, zv 0, zv 0, zv 0] := ⟨_, _, rfl, zw_514, zw_570, zw_22, by decide +kernel⟩
theorem nw_0_179 : zz_nw "RequestGate" 179 9 6 [zv 0, zv 0, zv 0, zv 0, zv 0, zv 0] := ⟨_, _, rfl, zw_569, zw_570, zw_22, by decide +kernel⟩
theorem nw_RequestGateLaw_10 : zz_nw "RequestGateLaw" 10 13 56 [zv 0, zv 0, zv 0, zv 0, zv 0, zv 0, zv 0, .null, zv 0, .null, .null, .null, .null, .null, .null, .null, .null, .null, .null, .null, .null, .null, .null, .null, zv 0, .null, .null, .null, .null, zv 0, .null, .null, .null, .null, .null, zv 0, .null, .null, .null, .null, zv 0, .null, .null, .null, .null, zv 0, .null, .null, .null, .null, .null, zv 0, zv 0, zv 0, zv 0, zv 0] := ⟨_, _, rfl, zw_804, zw_805, zw_12, by decide +kernel⟩
end
section
abbrev lwQ : Option Value → Nat → zz_H → Prop := fun r _ _ => r = some (zv 1)
theorem lw_body {X : zz_X} {b d kc ks : Nat} (hd : 13 ≤ d) (hsl : zz_sl X ≤ 3600) {h : zz_H} {fe : Nat → Option Nat} (he : h (zz_e X) = some (zQ 4 0 fe)) (hfe : ∀ i, fe i = none) (he2 : zz_e X < b) (hkc : 4000 ≤ kc) (hks : 80000 ≤ ks) : zz_Z X mm_law d lwQ kc ks 0 [some (.ref (zz_sb X)), none, none, none] [] b h := by
  sorry
end
section
/-! the start: what the tables give -/
theorem st_nl : ∀ q ∈ zz_nl, Cond.methodLinkNest q.1 q.2.1 q.2.2.1 q.2.2.2 ∈ tables_1 := by
  intro q hq
  simp only [zz_nl, List.mem_cons, List.not_mem_nil, or_false] at hq
  rcases hq with rfl | rfl | rfl | rfl | rfl | rfl | rfl | rfl
  · exact List.mem_of_getElem? (i := 33) (by decide +kernel)
  · exact List.mem_of_getElem? (i := 49) (by decide +kernel)
  · exact List.mem_of_getElem? (i := 55) (by decide +kernel)
  · exact List.mem_of_getElem? (i := 89) (by decide +kernel)
  · exact List.mem_of_getElem? (i := 103) (by decide +kernel)
  · exact List.mem_of_getElem? (i := 161) (by decide +kernel)
  · exact List.mem_of_getElem? (i := 306) (by decide +kernel)
  · exact List.mem_of_getElem? (i := 503) (by decide +kernel)
theorem st_ca : ∀ q ∈ zz_ca, Cond.castable q.1 q.2 ∈ tables_1 := by
  intro q hq
  simp only [zz_ca, List.mem_cons, List.not_mem_nil, or_false] at hq
  rcases hq with rfl | rfl | rfl | rfl | rfl | rfl | rfl | rfl | rfl | rfl | rfl | rfl | rfl | rfl | rfl | rfl | rfl
  · exact List.mem_of_getElem? (i := 1155) (by decide +kernel)
  · exact List.mem_of_getElem? (i := 1156) (by decide +kernel)
  · exact List.mem_of_getElem? (i := 1157) (by decide +kernel)
  · exact List.mem_of_getElem? (i := 1158) (by decide +kernel)
  · exact List.mem_of_getElem? (i := 1162) (by decide +kernel)
  · exact List.mem_of_getElem? (i := 1163) (by decide +kernel)
  · exact List.mem_of_getElem? (i := 1164) (by decide +kernel)
  · exact List.mem_of_getElem? (i := 1165) (by decide +kernel)
  · exact List.mem_of_getElem? (i := 1166) (by decide +kernel)
  · exact List.mem_of_getElem? (i := 1167) (by decide +kernel)
  · exact List.mem_of_getElem? (i := 1168) (by decide +kernel)
  · exact List.mem_of_getElem? (i := 1169) (by decide +kernel)
  · exact List.mem_of_getElem? (i := 1170) (by decide +kernel)
  · exact List.mem_of_getElem? (i := 1171) (by decide +kernel)
  · exact List.mem_of_getElem? (i := 1172) (by decide +kernel)
  · exact List.mem_of_getElem? (i := 1173) (by decide +kernel)
  · exact List.mem_of_getElem? (i := 1174) (by decide +kernel)
theorem zz_inst0 : ∀ (ci : Nat) (q : vw_C), zz_cl[ci]? = some q → ∃ n, Cond.instantiable q.1 n ∈ zz_ws
  | 0, _, h => by cases h; exact ⟨_, zw_24⟩
  | 1, _, h => by cases h; exact ⟨_, zw_32⟩
  | 2, _, h => by cases h; exact ⟨_, zw_54⟩
  | 3, _, h => by cases h; exact ⟨_, zw_48⟩
  | 4, _, h => by cases h; exact ⟨_, zw_88⟩
  | 5, _, h => by cases h; exact ⟨_, zw_300⟩
  | 6, _, h => by cases h; exact ⟨_, zw_124⟩
  | 7, _, h => by cases h; exact ⟨_, zw_102⟩
  | 8, _, h => by cases h; exact ⟨_, zw_405⟩
  | 9, _, h => by cases h; exact ⟨_, zw_570⟩
  | 10, _, h => by cases h; exact ⟨_, zw_160⟩
  | 11, _, h => by cases h; exact ⟨_, zw_455⟩
  | 12, _, h => by cases h; exact ⟨_, zw_134⟩
  | 13, _, h => by cases h; exact ⟨_, zw_805⟩
  | n + 14, _, h => by cases h
theorem st_cl {s : State} {args : Array Value} (hts : ∀ w ∈ zz_ws, w.before args s = true) : ∃ D : va_G, ∀ (c : Nat) (q : vw_C), zz_cl[c]? = some q → u_Kn s q.1 q.2.1 q.2.2 (D.1 c) (D.2 c) := by
  have hex : ∀ c : Nat, ∃ p : ClassId × (Nat → Nat), ∀ q : vw_C, zz_cl[c]? = some q → u_Kn s q.1 q.2.1 q.2.2 p.1 p.2 := by
    intro c
    cases hq : zz_cl[c]? with
    | none => exact ⟨(0, fun _ => 0), fun q h => by cases h⟩
    | some q =>
      obtain ⟨n, hn⟩ := zz_inst0 c q hq
      obtain ⟨C, F, N⟩ := q
      obtain ⟨cC, iS, hk⟩ := u_known hts (zz_clok hq).1 (hts _ hn)
      exact ⟨(cC, iS), fun q h => by cases h; exact hk⟩
  exact ⟨(fun c => (Classical.choose (hex c)).1, fun c => (Classical.choose (hex c)).2), fun c q h => Classical.choose_spec (hex c) q h⟩
theorem st_arr {s : State} {args : Array Value} {ty : FieldType} (h : (Cond.arrayClass ty).before args s = true) : ∃ c : ClassId, ArrOfT s c ty ∧ s.vm.findClass ("[" ++ ty.toString) = some c := by
  obtain ⟨c, k, comp, h1, h2, h3⟩ := Cond.arrayClass_spec (args := args) (first := s) (o := none) (s := s) (idx := []) h
  exact ⟨c, fun n z => ⟨fun k hk => (by cases hk), k, h2, comp, h3⟩, h1⟩
theorem st_obj {s : State} {args : Array Value} (h : (Cond.arrayOver (.object "java/lang/Object")).before args s = true) : ∃ c : ClassId, ArrOfT s c (.object "java/lang/Object") ∧ va_RA s c (.object "java/lang/Object") := by
  obtain ⟨comp, c, k, h1, h2, h3, h4, h5⟩ := Cond.arrayOver_spec (args := args) (first := s) (o := none) (s := s) (idx := []) h
  exact ⟨c, fun n z => ⟨fun _ hk => (by cases hk), k, h3, comp, h4⟩, k, comp, h3, h4, h1, h5⟩
theorem st_eqi {args : Array Value} {s : State} {t : Term} {z : Int32} (h : (Cond.eq t (.int z)).before args s = true) : t.eval args s none [] s = some (.int z) := by
  cases hv : t.eval args s none [] s with
  | none => simp [Cond.before, Cond.holds, Cond.value, hv] at h
  | some w =>
    have hz : (Term.int z).eval args s none [] s = some (.int z) := rfl
    cases w <;> simp [Cond.before, Cond.holds, Cond.value, hv, hz] at h
    rw [h]
theorem st_len {args : Array Value} {s : State} {t : Term} {a : Nat} {cell : Cell} (h : (Term.length t).eval args s none [] s = some (.int 0)) (ht : t.eval args s none [] s = some (.ref a)) (hc : s.heap[a]? = some cell) : cell.slots.size = 0 := by
  simp only [Term.eval, Option.bind_eq_bind, ht, Option.bind_some] at h
  obtain ⟨cell', hcell', h⟩ := Option.bind_eq_some_iff.mp h
  obtain ⟨g1, -, -, -⟩ := State.arrayAt?_spec hcell'
  have e : cell' = cell := Option.some.inj (g1.symm.trans hc)
  subst e
  by_cases hn : cell'.slots.size < 2147483648
  · rw [if_pos hn] at h
    have h2 : Int32.ofNat cell'.slots.size = 0 := by
      injection h with h
      injection h
    have h3 : Int32.ofNat cell'.slots.size ≤ Int32.ofNat 0 := by rw [h2]; exact Int32.le_refl _
    have := (Int32.ofNat_le_ofNat (by omega) (by decide)).mp h3
    omega
  · rw [if_neg hn] at h
    cases h
end
section
/-! THE CLAIM OUT OF ONE WALK OF THE LAW'S BODY. Your part is whole_start (and what it stands on); all else here is the same for every law, but numbers. -/
def R_law : String := "RequestGateLaw"
def lw_P (b : Addr) (xs : List Int32) (args : Array Value) (s : State) : Prop := args = #[.ref b] ∧ s.IntsAt b xs ∧ xs.length ≤ 3072 ∧ (Jvm.Cond.and given_1 narrow_1).before args s = true
def lw_Q (_ : Array Value) (s : State) (o : Outcome) (t : State) : Prop := o = .returned (some (.int 1)) ∧ Framed s o t [] 600000 7302250
def lw_Z (below : List Frame) (a : Array Value) (s : State) : State → Prop := fun t => ∃ o, t.status = .running ∧ Ended t below o ∧ lw_Q a s o t
/-- the law's own end, with 1 on the stack, nothing written that was there before, its room as the claim has it -/
theorem lw_ret {p : Program} {l : Launch} {e : Env} {s : State} {m : MethodId} {below : List Frame} {meth : Method} {c : Code} {b : Nat} (hx : p.tables.exec = Jvm.exec) (hb : c.code = code) (hr : meth.sig.returnType = ret) (hlocks : meth.locks = false) {pc : Nat} {H : Heap} {ls : Array Slot} (hdg : decode code pc = .ok (.ireturn, 1)) : W p l e room_1 s m #[Value.ref b] below meth c H [] 600000 7302250 (lw_Z below #[Value.ref b] s) (F0 m pc ls [.int 1]) := by
  intro T hT X
  obtain ⟨fs, hret, hrun, hended, hW, hframe⟩ := X.leave (v := some (.int 1)) (hlocks := hlocks) (fun h => by rw [hr] at h; cases h)
  have hmeth' : T.vm.method? m = some meth := X.method'
  refine ⟨T.setFrames fs, ?_, .returned (some (.int 1)), hrun, hended, rfl, ⟨_, rfl⟩, hW, hframe⟩
  jvm_step X.here [X.here.top, hx, hb, hdg, hmeth', hr, ret, narrow_b1]
  (try refine ⟨rfl, ?_⟩); (try refine ⟨rfl, ?_⟩)
  first | (intro acts; rw [hret _ acts rfl rfl rfl]) | rw [hret _ _ rfl rfl rfl]
  exact Steps.refl _
/-- what holds at the law's entry: the machine, the code, the tables' words (any of lw_tbl by 'hts w (by decide +kernel)'), the script of L ints xs at the cell b, what the Statement gives of the start (any of its parts by flat_of_before) -/
def lw_At (p : Program) (s : State) (m : MethodId) (meth : Method) (c : Code) (b L : Nat) (xs : Nat → Int32) : Prop :=
  p.tables.exec = Jvm.exec ∧ c.code = code ∧ meth.sig.returnType = ret ∧ c.maxLocals = 4 ∧ s.vm.findClass R_law = some m.cls ∧ (∀ w ∈ lw_tbl, w.before #[Value.ref b] s = true) ∧ va_X b L xs s s.heap ∧ b < s.heap.size ∧ meth.locks = false ∧ (Jvm.Cond.and given_1 narrow_1).before #[Value.ref b] s = true ∧ meth.name = "law"
/-- YOUR PART: from the entry, for every script of at most 3072 ints, the law comes to its end with true -/
theorem whole_start {p : Program} {e : Env} {s : State} {m : MethodId} {below : List Frame} {meth : Method} {c : Code} (l : Launch) {b L : Nat} {xs : Nat → Int32} (hL : L ≤ 3072) (C0 : lw_At p s m meth c b L xs) : W p l e room_1 s m #[Value.ref b] below meth c s.heap [] 0 0 (lw_Z below #[Value.ref b] s) (entryFrame m ([Value.ref b] : List Value).toArray 4) := by
  obtain ⟨hx, hcode, hret, hml, hown, hts, hX, hbl, hlk, hgv, hnm⟩ := C0
  have hws : ∀ w ∈ zz_ws, w.before #[Value.ref b] s = true := fun w hw => hts w (List.mem_filter.mp hw).1
  have htb : ∀ w ∈ tables_1, w.before #[Value.ref b] s = true := fun w hw => hts w (List.mem_append_right _ hw)
  have hg := flat_of_before _ hgv
  have hex : (Cond.exactly (.static "java/util/ArrayList" "DEFAULTCAPACITY_EMPTY_ELEMENTDATA" "[Ljava/lang/Object;") "[Ljava/lang/Object;").before #[Value.ref b] s = true := hg _ (by decide +kernel)
  have hlen : (Cond.eq (.length (.static "java/util/ArrayList" "DEFAULTCAPACITY_EMPTY_ELEMENTDATA" "[Ljava/lang/Object;")) (.int 0)).before #[Value.ref b] s = true := hg _ (by decide +kernel)
  have hmi : (Cond.isRef (.mirror "[Ljava/lang/Object;")).before #[Value.ref b] s = true := hg _ (by decide +kernel)
  obtain ⟨ea, cO, cell, kO, q1, q2, q3, q4, q5, q6, -⟩ := Cond.exactly_spec (args := #[Value.ref b]) (first := s) (o := none) (s := s) (idx := []) hex
  have hsz := st_len (st_eqi hlen) q1 q3
  have hea : ea < s.heap.size := (Array.getElem?_eq_some_iff.mp q3).1
  obtain ⟨mi, hMi⟩ := va_Mi.of hmi
  obtain ⟨D, hD⟩ := st_cl hws
  obtain ⟨cI, i1, i2⟩ := st_arr (ty := .int) (htb _ (List.mem_of_getElem? (i := 81) (by decide +kernel)))
  obtain ⟨cC, j1, j2⟩ := st_arr (ty := .char) (htb _ (List.mem_of_getElem? (i := 46) (by decide +kernel)))
  obtain ⟨cZ, k1, k2⟩ := st_arr (ty := .boolean) (htb _ (List.mem_of_getElem? (i := 100) (by decide +kernel)))
  have hao : (Cond.arrayOver (.object "java/lang/Object")).before #[Value.ref b] s = true := htb _ (List.mem_of_getElem? (i := 378) (by decide +kernel))
  obtain ⟨cA, o1, o2⟩ := st_obj hao
  have hcA : cA = cO := Option.some.inj ((va_nmO (nm := "[Ljava/lang/Object;") o2 rfl).symm.trans q2)
  have hZ : va_Z "java/util/ArrayList" "DEFAULTCAPACITY_EMPTY_ELEMENTDATA" "[Ljava/lang/Object;" (.ref ea) (fun q => s.heap.size ≤ q) s s.heap := va_Zref (htb _ (List.mem_of_getElem? (i := 146) (by decide +kernel))) (htb _ (List.mem_of_getElem? (i := 10) (by decide +kernel))) q1 (fun a h1 h2 => absurd h1 (Nat.not_lt.mpr h2))
  have hDc : va_Dc s := va_Dc.of (htb _ (List.mem_of_getElem? (i := 1161) (by decide +kernel)))
  rw [lg_entry_eq]
  exact lw_body (X := (l, D, (fun k => match k with | 0 => cI | 1 => cC | 2 => cZ | _ => cA), s.heap.size, ea, mi, b, L, xs)) (b := s.heap.size) (d := 13) (kc := 600000) (ks := 7302250) (Nat.le_refl _) (Nat.le_trans hL (by decide)) (h := fun a => if a = ea then some (zQ 4 0 (fun _ => none)) else none) (fe := fun _ => none) (if_pos rfl) (fun _ => rfl) hea (by decide) (by decide) p e room_1 s m _ below meth c _ s.heap [] 0 0 _
    ⟨hx, hcode, hml, hret, hlk, hown, hnm, hws, ⟨⟨hD, fun k q hk => by
      rcases k with _ | _ | _ | _ | _ | k
      · cases hk; exact ⟨i1, i2⟩
      · cases hk; exact ⟨j1, j2⟩
      · cases hk; exact ⟨k1, k2⟩
      · cases hk; exact ⟨o1, o2⟩
      · cases hk; exact ⟨o1, o2⟩
      · cases hk⟩, fun q hq => va_Nw.of rfl (htb _ (st_nl q hq)), fun q hq => va_Nw.of rfl (htb _ (st_ca q hq)), va_AO.of hao, hZ, hMi, hDc⟩, Nat.le_refl _, by decide, by decide, fun _ => ⟨hX, hbl, Nat.not_le.mpr hbl⟩⟩
    (fun r n h H locs cells slots pc A hQ _ hS hc hs hr => by
      have hQ : r = some (zv 1) := hQ
      subst hQ
      refine W.widen (k := 600000) (n := 7302250) hc hs (va_forget (fun q hq => hS.2.2 q hq) ?_)
      rcases hr with ⟨v, ty, h1, h2, h3, h4⟩ | ⟨h1, -⟩ | ⟨v, rt, h1, -, -, h4, -⟩
      · exact lw_ret hx hcode hret hlk h4
      · cases h1
      · rcases h4 with h4 | ⟨a, h4⟩
        · rw [h4] at h1; cases h1
        · rw [h4] at h1; cases h1)
    ⟨rfl, Nat.le_refl _, fun a f hf => by
      dsimp only at hf
      by_cases ha : a = ea
      · subst ha
        rw [if_pos rfl] at hf
        cases hf
        exact ⟨⟨cell, q3, q6.trans hcA.symm, hsz, fun k hk => by rw [hk] at q5; cases q5⟩, Or.inl ⟨_, rfl⟩⟩
      · rw [if_neg ha] at hf
        cases hf⟩ va_S.rf (zz_en_L rfl) (by decide) (by decide)
set_option maxHeartbeats 4000000 in
theorem lw_walk (l : Launch) (b : Addr) (xs : List Int32) : MetFree l x (headSpec (Jvm.Cond.code x code maxLocals ret :: tables_1) room_1) (lw_P b xs) (fun _ _ _ _ _ => True) lw_Q := by
  refine MetFree.of_bodyS (code := code) (maxLocals := maxLocals) (ret := ret) (by decide) ?_ ?_
  · intro args s m h hn
    obtain ⟨meth, c, h1, h2, h3, h4, h5, h6, -, -⟩ := Cond.code_spec hn (atoms_spec (ws := Jvm.Cond.code x code maxLocals ret :: tables_1) h _ List.mem_cons_self)
    exact ⟨meth, c, h1, h2, h3, h4, h5, h6⟩
  · intro p e s m args below meth c s₁ B hml0 hP _
    obtain ⟨rfl, hx, hbd, hgv⟩ := hP
    obtain ⟨scr, harrAt, hlist, hof, hsmall⟩ := hx
    obtain ⟨hcb, hkn, -, -⟩ := State.arrayAt?_spec harrAt
    have hown : s.vm.findClass R_law = some m.cls := findClass_of_methodNamed B.named
    have hts0 : ∀ c ∈ (Jvm.Cond.code x code maxLocals ret :: tables_1), c.before #[Value.ref b] s = true := atoms_spec (ws := Jvm.Cond.code x code maxLocals ret :: tables_1) B.pre
    have hts : ∀ w ∈ lw_tbl, w.before #[Value.ref b] s = true := k2_hts_sels lw_privs (fun w hw => hts0 w (List.mem_cons_of_mem _ hw)) lw_privs_ok
    have hml : c.maxLocals = 4 := B.maxLocals_eq (hts0 _ List.mem_cons_self)
    have X₀ : Stand p l e room_1 s m #[Value.ref b] below meth c s₁ [] 0 0 := Stand.of_body B
    have hh0 : s₁.heap = s.heap := by rw [B.state]; rfl
    have hsz : scr.slots.size = xs.length := by rw [← Array.length_toList, hlist, List.length_map]
    have hval : ∀ j : Nat, j < xs.length → scr.slots[j]? = some (.int (xs.getD j 0)) := fun j hj => by
      rw [← Array.getElem?_toList, hlist]
      simp [hj]
    have hbl : b < s.heap.size := (Array.getElem?_eq_some_iff.mp hcb).1
    have hX : va_X b xs.length (fun j => xs.getD j 0) s s.heap := ⟨scr, hcb, hof, hkn, hsz, hval⟩
    have K : W p l e room_1 s m #[Value.ref b] below meth c s₁.heap [] 0 0 (lw_Z below #[Value.ref b] s) (entryFrame m ([Value.ref b] : List Value).toArray 4) := by
      rw [hh0]
      exact whole_start l hbd ⟨B.exec, B.bytes, B.returns, hml, hown, hts, hX, hbl, B.notSynchronized, hgv, (name_of_methodNamed B.named B.method).1⟩
    obtain ⟨t, a1, o, b1, b2, b3⟩ := K s₁ rfl X₀
    exact ⟨t, o, a1, b1, b2, b3⟩
theorem lw_pre_spec {args : Array Value} {s : State} (h : (Jvm.Cond.and given_1 narrow_1).before args s = true) (hr : rest_1_c.before args s = true) : ∃ (b : Addr) (xs : List Int32), lw_P b xs args s := by
  have hs := flat_of_before _ h
  have hq := flat_of_before _ hr
  have hc : (Cond.count 1).before args s = true := hs _ (by decide +kernel)
  have harr : (Cond.arrayOf (.arg 0) .int).before args s = true := hs _ (by decide +kernel)
  have hle : (Cond.le (.length (.arg 0)) (.int 3072)).before args s = true := hs _ (by decide +kernel)
  have hlen : (Cond.isInt (.length (.arg 0))).before args s = true := hq _ (by decide +kernel)
  have hall : (Cond.all (.arg 0) (.isInt (.elem (.arg 0) (.index 0)))).before args s = true := hq _ (by decide +kernel)
  obtain ⟨b, xs, hb, hx⟩ := State.ints_of_pre rfl harr hlen hall
  have hsm : xs.length < 2 ^ 31 := hx.choose_spec.2.2.2
  have hev : (Term.length (.arg 0)).eval args s none [] s = some (.int xs.length.toInt32) := hx.length_eval hb
  have hv := Cond.le_ints hev (show (Term.int 3072).eval args s none [] s = some (.int 3072) from rfl)
  have hd : xs.length.toInt32 ≤ 3072 := by
    simpa [Cond.before, Cond.holds, hv] using hle
  have hN : xs.length ≤ 3072 := (Int32.ofNat_le_ofNat hsm (by decide)).mp (show Int32.ofNat xs.length ≤ Int32.ofNat 3072 from hd)
  exact ⟨b, xs, Cond.one_arg hc (show args[0]? = some (.ref b) from hb), hx, hN, h⟩
theorem lw_comes (l : Launch) : Comes l x (Jvm.Cond.code x code maxLocals ret :: tables_1) room_1 (fun tb e args s => Calls_1 tb e args s ∧ rest_1 tb e args s ∧ Pre_1 tb e args s)
    (fun _ _ args s o t => lw_Q args s o t) := by
  intro p e ha hc hk s m args below hf hfit hheap happ hpre
  obtain ⟨b, xs, hP⟩ := lw_pre_spec hpre.2.2 hpre.2.1
  obtain ⟨k, o, h1, h2, h3, hQ⟩ := lw_walk l b xs p e ha hc hk s m args below hf ((Spec.applies_iff_loose hf).mp happ).1 hP trivial
  exact ⟨k, o, h1, h2, h3, hQ⟩
theorem lw_frame {s t : State} {o : Outcome} {args : Array Value} (h : Framed s o t [] 600000 7302250) :
    Framed s o t (fieldLocs frame_1_writes args s ++ arrayLocs frame_1_arrays args s ++ staticLocs frame_1_statics s) 600000 7302250 := h
theorem lw_limb (L : Cond) (hL : ∀ (args : Array Value) (s t : State), L.after args s (.returned (some (.int 1))) t = true) :
    ArmFor flags0 classFile x code maxLocals ret World_1 tables_1 room_1 Calls_1 rest_1 Pre_1
      (fun tb e a s o t => postC L tb e a s o t ∧ Framed s o t (fieldLocs frame_1_writes a s ++ arrayLocs frame_1_arrays a s ++ staticLocs frame_1_statics s) 600000 7302250) := by
  intro l _ _ _ p e ha hc hk s m args below hf hfit hheap happ hpre
  obtain ⟨k, o, h1, h2, h3, rfl, hF⟩ := lw_comes l p e ha hc hk s m args below hf hfit hheap happ hpre
  exact ⟨k, _, h1, h2, h3, hL args s _, lw_frame hF⟩
theorem i_vc : Claimed_1_1 ∧ Claimed_1_2 := ⟨lw_limb limb_1_1 (fun args s t => by simp [limb_1_1, Cond.after, Cond.holds, Cond.value]), lw_limb limb_1_2 (fun args s t => Cond.after_iff.mpr (by
  first | (rw [show limb_1_2 = Cond.eq .result (.int 1) from rfl, Cond.eq_ints (x := 1) (y := 1) rfl rfl]; simp; done) | (simp [limb_1_2, Cond.value, Term.eval]; done)))⟩
end
