section
-- ===== PART A: goes FIRST, ahead of the names: the tables' words, and 'selects' of the private methods out of them =====
/-- a private method of a class that the tables say can be made, by its rows of tables_1 -/
def lw_okq (q : MethodName × Nat) : Prop := (q.1.cls ≠ "java/lang/invoke/MethodHandle" ∧ q.1.cls ≠ "java/lang/invoke/VarHandle") ∧ Cond.instantiable q.1.cls q.2 ∈ tables_1 ∧ Cond.privateMethod q.1 ∈ tables_1 ∧ Cond.instanceMethod q.1 ∈ tables_1
theorem lw_p0 : lw_okq (⟨"RequestGate$Conditions", "canTake", "(III)Z"⟩, 5) := ⟨⟨by decide +kernel, by decide +kernel⟩, List.mem_of_getElem? (i := 102) (by decide +kernel), List.mem_of_getElem? (i := 257) (by decide +kernel), List.mem_of_getElem? (i := 258) (by decide +kernel)⟩
theorem lw_p1 : lw_okq (⟨"java/util/ArrayList", "add", "(Ljava/lang/Object;[Ljava/lang/Object;I)V"⟩, 3) := ⟨⟨by decide +kernel, by decide +kernel⟩, List.mem_of_getElem? (i := 134) (by decide +kernel), List.mem_of_getElem? (i := 332) (by decide +kernel), List.mem_of_getElem? (i := 333) (by decide +kernel)⟩
theorem lw_p2 : lw_okq (⟨"java/util/ArrayList", "grow", "()[Ljava/lang/Object;"⟩, 3) := ⟨⟨by decide +kernel, by decide +kernel⟩, List.mem_of_getElem? (i := 134) (by decide +kernel), List.mem_of_getElem? (i := 336) (by decide +kernel), List.mem_of_getElem? (i := 337) (by decide +kernel)⟩
theorem lw_p3 : lw_okq (⟨"java/util/ArrayList", "grow", "(I)[Ljava/lang/Object;"⟩, 3) := ⟨⟨by decide +kernel, by decide +kernel⟩, List.mem_of_getElem? (i := 134) (by decide +kernel), List.mem_of_getElem? (i := 340) (by decide +kernel), List.mem_of_getElem? (i := 341) (by decide +kernel)⟩
theorem lw_p4 : lw_okq (⟨"RequestGate", "draw", "()I"⟩, 19) := ⟨⟨by decide +kernel, by decide +kernel⟩, List.mem_of_getElem? (i := 24) (by decide +kernel), List.mem_of_getElem? (i := 407) (by decide +kernel), List.mem_of_getElem? (i := 408) (by decide +kernel)⟩
theorem lw_p5 : lw_okq (⟨"RequestGate", "isConditionOrNone", "(I)Z"⟩, 19) := ⟨⟨by decide +kernel, by decide +kernel⟩, List.mem_of_getElem? (i := 24) (by decide +kernel), List.mem_of_getElem? (i := 443) (by decide +kernel), List.mem_of_getElem? (i := 444) (by decide +kernel)⟩
theorem lw_p6 : lw_okq (⟨"RequestGate", "isTypeOrNone", "(I)Z"⟩, 19) := ⟨⟨by decide +kernel, by decide +kernel⟩, List.mem_of_getElem? (i := 24) (by decide +kernel), List.mem_of_getElem? (i := 447) (by decide +kernel), List.mem_of_getElem? (i := 448) (by decide +kernel)⟩
theorem lw_p7 : lw_okq (⟨"RequestGate", "isType", "(I)Z"⟩, 19) := ⟨⟨by decide +kernel, by decide +kernel⟩, List.mem_of_getElem? (i := 24) (by decide +kernel), List.mem_of_getElem? (i := 451) (by decide +kernel), List.mem_of_getElem? (i := 452) (by decide +kernel)⟩
theorem lw_p8 : lw_okq (⟨"java/util/ArrayList", "fastRemove", "([Ljava/lang/Object;I)V"⟩, 3) := ⟨⟨by decide +kernel, by decide +kernel⟩, List.mem_of_getElem? (i := 134) (by decide +kernel), List.mem_of_getElem? (i := 524) (by decide +kernel), List.mem_of_getElem? (i := 525) (by decide +kernel)⟩
theorem lw_p9 : lw_okq (⟨"RequestGate", "isUser", "(I)Z"⟩, 19) := ⟨⟨by decide +kernel, by decide +kernel⟩, List.mem_of_getElem? (i := 24) (by decide +kernel), List.mem_of_getElem? (i := 533) (by decide +kernel), List.mem_of_getElem? (i := 534) (by decide +kernel)⟩
theorem lw_p10 : lw_okq (⟨"RequestGate", "make", "(LRequestGate$Tickets;IZ)I"⟩, 19) := ⟨⟨by decide +kernel, by decide +kernel⟩, List.mem_of_getElem? (i := 24) (by decide +kernel), List.mem_of_getElem? (i := 566) (by decide +kernel), List.mem_of_getElem? (i := 567) (by decide +kernel)⟩
theorem lw_p11 : lw_okq (⟨"RequestGate$PlainPath", "decode", "(LRequestGate$Text;II)Z"⟩, 1) := ⟨⟨by decide +kernel, by decide +kernel⟩, List.mem_of_getElem? (i := 48) (by decide +kernel), List.mem_of_getElem? (i := 641) (by decide +kernel), List.mem_of_getElem? (i := 642) (by decide +kernel)⟩
theorem lw_p12 : lw_okq (⟨"RequestGate$PlainPath", "place", "(Z)Z"⟩, 1) := ⟨⟨by decide +kernel, by decide +kernel⟩, List.mem_of_getElem? (i := 48) (by decide +kernel), List.mem_of_getElem? (i := 653) (by decide +kernel), List.mem_of_getElem? (i := 654) (by decide +kernel)⟩
theorem lw_p13 : lw_okq (⟨"RequestGate", "subjectOf", "(LRequestGate$Ticket;)I"⟩, 19) := ⟨⟨by decide +kernel, by decide +kernel⟩, List.mem_of_getElem? (i := 24) (by decide +kernel), List.mem_of_getElem? (i := 675) (by decide +kernel), List.mem_of_getElem? (i := 676) (by decide +kernel)⟩
theorem lw_p14 : lw_okq (⟨"RequestGate", "subjectBySeries", "(II)I"⟩, 19) := ⟨⟨by decide +kernel, by decide +kernel⟩, List.mem_of_getElem? (i := 24) (by decide +kernel), List.mem_of_getElem? (i := 679) (by decide +kernel), List.mem_of_getElem? (i := 680) (by decide +kernel)⟩
theorem lw_p15 : lw_okq (⟨"RequestGate", "decide", "(II)I"⟩, 19) := ⟨⟨by decide +kernel, by decide +kernel⟩, List.mem_of_getElem? (i := 24) (by decide +kernel), List.mem_of_getElem? (i := 683) (by decide +kernel), List.mem_of_getElem? (i := 684) (by decide +kernel)⟩
def lw_privs_1 : List (MethodName × Nat) := [(⟨"RequestGate$Conditions", "canTake", "(III)Z"⟩, 5), (⟨"java/util/ArrayList", "add", "(Ljava/lang/Object;[Ljava/lang/Object;I)V"⟩, 3), (⟨"java/util/ArrayList", "grow", "()[Ljava/lang/Object;"⟩, 3), (⟨"java/util/ArrayList", "grow", "(I)[Ljava/lang/Object;"⟩, 3), (⟨"RequestGate", "draw", "()I"⟩, 19), (⟨"RequestGate", "isConditionOrNone", "(I)Z"⟩, 19), (⟨"RequestGate", "isTypeOrNone", "(I)Z"⟩, 19), (⟨"RequestGate", "isType", "(I)Z"⟩, 19), (⟨"java/util/ArrayList", "fastRemove", "([Ljava/lang/Object;I)V"⟩, 3), (⟨"RequestGate", "isUser", "(I)Z"⟩, 19), (⟨"RequestGate", "make", "(LRequestGate$Tickets;IZ)I"⟩, 19), (⟨"RequestGate$PlainPath", "decode", "(LRequestGate$Text;II)Z"⟩, 1), (⟨"RequestGate$PlainPath", "place", "(Z)Z"⟩, 1), (⟨"RequestGate", "subjectOf", "(LRequestGate$Ticket;)I"⟩, 19), (⟨"RequestGate", "subjectBySeries", "(II)I"⟩, 19), (⟨"RequestGate", "decide", "(II)I"⟩, 19)]
theorem lw_r1 : ∀ q ∈ lw_privs_1, lw_okq q := List.forall_mem_cons.mpr ⟨lw_p0, List.forall_mem_cons.mpr ⟨lw_p1, List.forall_mem_cons.mpr ⟨lw_p2, List.forall_mem_cons.mpr ⟨lw_p3, List.forall_mem_cons.mpr ⟨lw_p4, List.forall_mem_cons.mpr ⟨lw_p5, List.forall_mem_cons.mpr ⟨lw_p6, List.forall_mem_cons.mpr ⟨lw_p7, List.forall_mem_cons.mpr ⟨lw_p8, List.forall_mem_cons.mpr ⟨lw_p9, List.forall_mem_cons.mpr ⟨lw_p10, List.forall_mem_cons.mpr ⟨lw_p11, List.forall_mem_cons.mpr ⟨lw_p12, List.forall_mem_cons.mpr ⟨lw_p13, List.forall_mem_cons.mpr ⟨lw_p14, List.forall_mem_cons.mpr ⟨lw_p15, fun _ h => absurd h List.not_mem_nil⟩⟩⟩⟩⟩⟩⟩⟩⟩⟩⟩⟩⟩⟩⟩⟩
theorem lw_p16 : lw_okq (⟨"RequestGate", "firstRuleThatFits", "(I)I"⟩, 19) := ⟨⟨by decide +kernel, by decide +kernel⟩, List.mem_of_getElem? (i := 24) (by decide +kernel), List.mem_of_getElem? (i := 687) (by decide +kernel), List.mem_of_getElem? (i := 688) (by decide +kernel)⟩
theorem lw_p17 : lw_okq (⟨"RequestGate$Layer", "layOnOne", "(LRequestGate$Pieces;ILRequestGate$Pieces;)V"⟩, 2) := ⟨⟨by decide +kernel, by decide +kernel⟩, List.mem_of_getElem? (i := 88) (by decide +kernel), List.mem_of_getElem? (i := 717) (by decide +kernel), List.mem_of_getElem? (i := 718) (by decide +kernel)⟩
theorem lw_p18 : lw_okq (⟨"RequestGate$Layer", "covers", "(LRequestGate$Pieces;ILRequestGate$Pieces;I)Z"⟩, 2) := ⟨⟨by decide +kernel, by decide +kernel⟩, List.mem_of_getElem? (i := 88) (by decide +kernel), List.mem_of_getElem? (i := 721) (by decide +kernel), List.mem_of_getElem? (i := 722) (by decide +kernel)⟩
theorem lw_p19 : lw_okq (⟨"RequestGate", "isTrue", "(III)Z"⟩, 19) := ⟨⟨by decide +kernel, by decide +kernel⟩, List.mem_of_getElem? (i := 24) (by decide +kernel), List.mem_of_getElem? (i := 727) (by decide +kernel), List.mem_of_getElem? (i := 728) (by decide +kernel)⟩
theorem lw_p20 : lw_okq (⟨"RequestGate$Conditions", "jointValue", "(I)I"⟩, 5) := ⟨⟨by decide +kernel, by decide +kernel⟩, List.mem_of_getElem? (i := 102) (by decide +kernel), List.mem_of_getElem? (i := 739) (by decide +kernel), List.mem_of_getElem? (i := 740) (by decide +kernel)⟩
theorem lw_p21 : lw_okq (⟨"RequestGate$Conditions", "singleValue", "(IIII)I"⟩, 5) := ⟨⟨by decide +kernel, by decide +kernel⟩, List.mem_of_getElem? (i := 102) (by decide +kernel), List.mem_of_getElem? (i := 746) (by decide +kernel), List.mem_of_getElem? (i := 747) (by decide +kernel)⟩
theorem lw_p22 : lw_okq (⟨"RequestGate", "typeThatDeclares", "(II)I"⟩, 19) := ⟨⟨by decide +kernel, by decide +kernel⟩, List.mem_of_getElem? (i := 24) (by decide +kernel), List.mem_of_getElem? (i := 755) (by decide +kernel), List.mem_of_getElem? (i := 756) (by decide +kernel)⟩
theorem lw_p23 : lw_okq (⟨"RequestGate", "conditionAt", "(II)I"⟩, 19) := ⟨⟨by decide +kernel, by decide +kernel⟩, List.mem_of_getElem? (i := 24) (by decide +kernel), List.mem_of_getElem? (i := 763) (by decide +kernel), List.mem_of_getElem? (i := 764) (by decide +kernel)⟩
theorem lw_p24 : lw_okq (⟨"RequestGate", "conditionByInterfaces", "(II)I"⟩, 19) := ⟨⟨by decide +kernel, by decide +kernel⟩, List.mem_of_getElem? (i := 24) (by decide +kernel), List.mem_of_getElem? (i := 772) (by decide +kernel), List.mem_of_getElem? (i := 773) (by decide +kernel)⟩
theorem lw_p25 : lw_okq (⟨"RequestGateModel", "isExpression", "(I)Z"⟩, 56) := ⟨⟨by decide +kernel, by decide +kernel⟩, List.mem_of_getElem? (i := 805) (by decide +kernel), List.mem_of_getElem? (i := 992) (by decide +kernel), List.mem_of_getElem? (i := 993) (by decide +kernel)⟩
theorem lw_p26 : lw_okq (⟨"RequestGateModel", "included", "(I)I"⟩, 56) := ⟨⟨by decide +kernel, by decide +kernel⟩, List.mem_of_getElem? (i := 805) (by decide +kernel), List.mem_of_getElem? (i := 1000) (by decide +kernel), List.mem_of_getElem? (i := 1001) (by decide +kernel)⟩
theorem lw_p27 : lw_okq (⟨"RequestGateModel", "isPattern", "()Z"⟩, 56) := ⟨⟨by decide +kernel, by decide +kernel⟩, List.mem_of_getElem? (i := 805) (by decide +kernel), List.mem_of_getElem? (i := 1008) (by decide +kernel), List.mem_of_getElem? (i := 1009) (by decide +kernel)⟩
theorem lw_p28 : lw_okq (⟨"RequestGateModel", "draw", "()I"⟩, 56) := ⟨⟨by decide +kernel, by decide +kernel⟩, List.mem_of_getElem? (i := 805) (by decide +kernel), List.mem_of_getElem? (i := 1019) (by decide +kernel), List.mem_of_getElem? (i := 1020) (by decide +kernel)⟩
theorem lw_p29 : lw_okq (⟨"RequestGateModel", "isUser", "(I)Z"⟩, 56) := ⟨⟨by decide +kernel, by decide +kernel⟩, List.mem_of_getElem? (i := 805) (by decide +kernel), List.mem_of_getElem? (i := 1030) (by decide +kernel), List.mem_of_getElem? (i := 1031) (by decide +kernel)⟩
theorem lw_p30 : lw_okq (⟨"RequestGateModel", "sessionBy", "(I)I"⟩, 56) := ⟨⟨by decide +kernel, by decide +kernel⟩, List.mem_of_getElem? (i := 805) (by decide +kernel), List.mem_of_getElem? (i := 1034) (by decide +kernel), List.mem_of_getElem? (i := 1035) (by decide +kernel)⟩
theorem lw_p31 : lw_okq (⟨"RequestGateModel", "live", "(I)Z"⟩, 56) := ⟨⟨by decide +kernel, by decide +kernel⟩, List.mem_of_getElem? (i := 805) (by decide +kernel), List.mem_of_getElem? (i := 1038) (by decide +kernel), List.mem_of_getElem? (i := 1039) (by decide +kernel)⟩
def lw_privs_2 : List (MethodName × Nat) := [(⟨"RequestGate", "firstRuleThatFits", "(I)I"⟩, 19), (⟨"RequestGate$Layer", "layOnOne", "(LRequestGate$Pieces;ILRequestGate$Pieces;)V"⟩, 2), (⟨"RequestGate$Layer", "covers", "(LRequestGate$Pieces;ILRequestGate$Pieces;I)Z"⟩, 2), (⟨"RequestGate", "isTrue", "(III)Z"⟩, 19), (⟨"RequestGate$Conditions", "jointValue", "(I)I"⟩, 5), (⟨"RequestGate$Conditions", "singleValue", "(IIII)I"⟩, 5), (⟨"RequestGate", "typeThatDeclares", "(II)I"⟩, 19), (⟨"RequestGate", "conditionAt", "(II)I"⟩, 19), (⟨"RequestGate", "conditionByInterfaces", "(II)I"⟩, 19), (⟨"RequestGateModel", "isExpression", "(I)Z"⟩, 56), (⟨"RequestGateModel", "included", "(I)I"⟩, 56), (⟨"RequestGateModel", "isPattern", "()Z"⟩, 56), (⟨"RequestGateModel", "draw", "()I"⟩, 56), (⟨"RequestGateModel", "isUser", "(I)Z"⟩, 56), (⟨"RequestGateModel", "sessionBy", "(I)I"⟩, 56), (⟨"RequestGateModel", "live", "(I)Z"⟩, 56)]
theorem lw_r2 : ∀ q ∈ lw_privs_2, lw_okq q := List.forall_mem_cons.mpr ⟨lw_p16, List.forall_mem_cons.mpr ⟨lw_p17, List.forall_mem_cons.mpr ⟨lw_p18, List.forall_mem_cons.mpr ⟨lw_p19, List.forall_mem_cons.mpr ⟨lw_p20, List.forall_mem_cons.mpr ⟨lw_p21, List.forall_mem_cons.mpr ⟨lw_p22, List.forall_mem_cons.mpr ⟨lw_p23, List.forall_mem_cons.mpr ⟨lw_p24, List.forall_mem_cons.mpr ⟨lw_p25, List.forall_mem_cons.mpr ⟨lw_p26, List.forall_mem_cons.mpr ⟨lw_p27, List.forall_mem_cons.mpr ⟨lw_p28, List.forall_mem_cons.mpr ⟨lw_p29, List.forall_mem_cons.mpr ⟨lw_p30, List.forall_mem_cons.mpr ⟨lw_p31, fun _ h => absurd h List.not_mem_nil⟩⟩⟩⟩⟩⟩⟩⟩⟩⟩⟩⟩⟩⟩⟩⟩
theorem lw_p32 : lw_okq (⟨"RequestGateModel", "makeSession", "(IZ)I"⟩, 56) := ⟨⟨by decide +kernel, by decide +kernel⟩, List.mem_of_getElem? (i := 805) (by decide +kernel), List.mem_of_getElem? (i := 1042) (by decide +kernel), List.mem_of_getElem? (i := 1043) (by decide +kernel)⟩
theorem lw_p33 : lw_okq (⟨"RequestGateModel", "makeSeries", "(I)V"⟩, 56) := ⟨⟨by decide +kernel, by decide +kernel⟩, List.mem_of_getElem? (i := 805) (by decide +kernel), List.mem_of_getElem? (i := 1046) (by decide +kernel), List.mem_of_getElem? (i := 1047) (by decide +kernel)⟩
theorem lw_p34 : lw_okq (⟨"RequestGateModel", "endSeries", "(I)V"⟩, 56) := ⟨⟨by decide +kernel, by decide +kernel⟩, List.mem_of_getElem? (i := 805) (by decide +kernel), List.mem_of_getElem? (i := 1054) (by decide +kernel), List.mem_of_getElem? (i := 1055) (by decide +kernel)⟩
theorem lw_p35 : lw_okq (⟨"RequestGateModel", "mayBe", "(II)Z"⟩, 56) := ⟨⟨by decide +kernel, by decide +kernel⟩, List.mem_of_getElem? (i := 805) (by decide +kernel), List.mem_of_getElem? (i := 1066) (by decide +kernel), List.mem_of_getElem? (i := 1067) (by decide +kernel)⟩
theorem lw_p36 : lw_okq (⟨"RequestGateModel", "guard", "(III)I"⟩, 56) := ⟨⟨by decide +kernel, by decide +kernel⟩, List.mem_of_getElem? (i := 805) (by decide +kernel), List.mem_of_getElem? (i := 1078) (by decide +kernel), List.mem_of_getElem? (i := 1079) (by decide +kernel)⟩
theorem lw_p37 : lw_okq (⟨"RequestGateModel", "valueOf", "(IIZI)I"⟩, 56) := ⟨⟨by decide +kernel, by decide +kernel⟩, List.mem_of_getElem? (i := 805) (by decide +kernel), List.mem_of_getElem? (i := 1082) (by decide +kernel), List.mem_of_getElem? (i := 1083) (by decide +kernel)⟩
theorem lw_p38 : lw_okq (⟨"RequestGateModel", "simple", "(IIZI)I"⟩, 56) := ⟨⟨by decide +kernel, by decide +kernel⟩, List.mem_of_getElem? (i := 805) (by decide +kernel), List.mem_of_getElem? (i := 1086) (by decide +kernel), List.mem_of_getElem? (i := 1087) (by decide +kernel)⟩
theorem lw_p39 : lw_okq (⟨"RequestGateModel", "read", "()Z"⟩, 56) := ⟨⟨by decide +kernel, by decide +kernel⟩, List.mem_of_getElem? (i := 805) (by decide +kernel), List.mem_of_getElem? (i := 1097) (by decide +kernel), List.mem_of_getElem? (i := 1098) (by decide +kernel)⟩
theorem lw_p40 : lw_okq (⟨"RequestGateModel", "settle", "(I)Z"⟩, 56) := ⟨⟨by decide +kernel, by decide +kernel⟩, List.mem_of_getElem? (i := 805) (by decide +kernel), List.mem_of_getElem? (i := 1104) (by decide +kernel), List.mem_of_getElem? (i := 1105) (by decide +kernel)⟩
theorem lw_p41 : lw_okq (⟨"RequestGateModel", "dots", "(II)Z"⟩, 56) := ⟨⟨by decide +kernel, by decide +kernel⟩, List.mem_of_getElem? (i := 805) (by decide +kernel), List.mem_of_getElem? (i := 1108) (by decide +kernel), List.mem_of_getElem? (i := 1109) (by decide +kernel)⟩
theorem lw_p42 : lw_okq (⟨"RequestGateModel", "ask", "(III)I"⟩, 56) := ⟨⟨by decide +kernel, by decide +kernel⟩, List.mem_of_getElem? (i := 805) (by decide +kernel), List.mem_of_getElem? (i := 1112) (by decide +kernel), List.mem_of_getElem? (i := 1113) (by decide +kernel)⟩
theorem lw_p43 : lw_okq (⟨"RequestGateModel", "seriesBy", "(I)I"⟩, 56) := ⟨⟨by decide +kernel, by decide +kernel⟩, List.mem_of_getElem? (i := 805) (by decide +kernel), List.mem_of_getElem? (i := 1116) (by decide +kernel), List.mem_of_getElem? (i := 1117) (by decide +kernel)⟩
theorem lw_p44 : lw_okq (⟨"RequestGateModel", "ruleFits", "(I)Z"⟩, 56) := ⟨⟨by decide +kernel, by decide +kernel⟩, List.mem_of_getElem? (i := 805) (by decide +kernel), List.mem_of_getElem? (i := 1120) (by decide +kernel), List.mem_of_getElem? (i := 1121) (by decide +kernel)⟩
theorem lw_p45 : lw_okq (⟨"RequestGateModel", "pieceFits", "(III)Z"⟩, 56) := ⟨⟨by decide +kernel, by decide +kernel⟩, List.mem_of_getElem? (i := 805) (by decide +kernel), List.mem_of_getElem? (i := 1124) (by decide +kernel), List.mem_of_getElem? (i := 1125) (by decide +kernel)⟩
def lw_privs_3 : List (MethodName × Nat) := [(⟨"RequestGateModel", "makeSession", "(IZ)I"⟩, 56), (⟨"RequestGateModel", "makeSeries", "(I)V"⟩, 56), (⟨"RequestGateModel", "endSeries", "(I)V"⟩, 56), (⟨"RequestGateModel", "mayBe", "(II)Z"⟩, 56), (⟨"RequestGateModel", "guard", "(III)I"⟩, 56), (⟨"RequestGateModel", "valueOf", "(IIZI)I"⟩, 56), (⟨"RequestGateModel", "simple", "(IIZI)I"⟩, 56), (⟨"RequestGateModel", "read", "()Z"⟩, 56), (⟨"RequestGateModel", "settle", "(I)Z"⟩, 56), (⟨"RequestGateModel", "dots", "(II)Z"⟩, 56), (⟨"RequestGateModel", "ask", "(III)I"⟩, 56), (⟨"RequestGateModel", "seriesBy", "(I)I"⟩, 56), (⟨"RequestGateModel", "ruleFits", "(I)Z"⟩, 56), (⟨"RequestGateModel", "pieceFits", "(III)Z"⟩, 56)]
theorem lw_r3 : ∀ q ∈ lw_privs_3, lw_okq q := List.forall_mem_cons.mpr ⟨lw_p32, List.forall_mem_cons.mpr ⟨lw_p33, List.forall_mem_cons.mpr ⟨lw_p34, List.forall_mem_cons.mpr ⟨lw_p35, List.forall_mem_cons.mpr ⟨lw_p36, List.forall_mem_cons.mpr ⟨lw_p37, List.forall_mem_cons.mpr ⟨lw_p38, List.forall_mem_cons.mpr ⟨lw_p39, List.forall_mem_cons.mpr ⟨lw_p40, List.forall_mem_cons.mpr ⟨lw_p41, List.forall_mem_cons.mpr ⟨lw_p42, List.forall_mem_cons.mpr ⟨lw_p43, List.forall_mem_cons.mpr ⟨lw_p44, List.forall_mem_cons.mpr ⟨lw_p45, fun _ h => absurd h List.not_mem_nil⟩⟩⟩⟩⟩⟩⟩⟩⟩⟩⟩⟩⟩⟩
def lw_privs : List (MethodName × Nat) := lw_privs_1 ++ (lw_privs_2 ++ (lw_privs_3))
def lw_tbl : List Cond := k2_sels lw_privs ++ tables_1
theorem lw_privs_ok : ∀ q ∈ lw_privs, lw_okq q := by
  show ∀ q ∈ lw_privs_1 ++ (lw_privs_2 ++ (lw_privs_3)), lw_okq q
  exact List.forall_mem_append.mpr ⟨lw_r1, List.forall_mem_append.mpr ⟨lw_r2, lw_r3⟩⟩
end
section
/-! names, laid out by a program of mine from the Statement: classes, fields, methods, words -/
def zz_ws : List Cond := lw_tbl.filter goodWord
theorem zz_wsG : GoodIn zz_ws zz_ws := fun _ hw => ⟨hw, good_of_word (List.mem_filter.mp hw).2⟩
theorem zz_in {w : Cond} (h : w ∈ tables_1) (hg : goodWord w = true) : w ∈ zz_ws := List.mem_filter.mpr ⟨List.mem_append_right _ h, hg⟩
theorem zz_inp {y : MethodName} {n : Nat} (h : (y, n) ∈ lw_privs) : Cond.selects y.cls y y ∈ zz_ws := List.mem_filter.mpr ⟨List.mem_append_left _ (List.mem_map.mpr ⟨(y, n), h, rfl⟩), rfl⟩
def fF_0 : u_T := fun k => match k with
  | 0 => ("RequestGate", "buffer", "LRequestGate$Text;", true)
  | 1 => ("RequestGate", "path", "LRequestGate$PlainPath;", true)
  | 2 => ("RequestGate", "layer", "LRequestGate$Layer;", true)
  | 3 => ("RequestGate", "conditions", "LRequestGate$Conditions;", true)
  | 4 => ("RequestGate", "inclusions", "LRequestGate$Roles;", true)
  | 5 => ("RequestGate", "rules", "Ljava/util/ArrayList;", true)
  | 6 => ("RequestGate", "users", "Ljava/util/ArrayList;", true)
  | 7 => ("RequestGate", "services", "Ljava/util/ArrayList;", true)
  | 8 => ("RequestGate", "sessions", "LRequestGate$Tickets;", true)
  | 9 => ("RequestGate", "memory", "LRequestGate$Tickets;", true)
  | 10 => ("RequestGate", "subject", "I", false)
  | 11 => ("RequestGate", "requestIsOpen", "Z", false)
  | 12 => ("RequestGate", "time", "I", false)
  | 13 => ("RequestGate", "drawn", "I", false)
  | 14 => ("RequestGate", "opened", "I", false)
  | 15 => ("RequestGate", "bodiesRun", "I", false)
  | 16 => ("RequestGate", "bodiesBarred", "I", false)
  | 17 => ("RequestGate", "thefts", "I", false)
  | _ => ("RequestGate", "lockings", "I", false)
def fF_1 : u_T := fun k => match k with
  | 0 => ("RequestGate$Text", "characters", "[C", true)
  | _ => ("RequestGate$Text", "length", "I", false)
def fF_2 : u_T := fun k => match k with
  | 0 => ("RequestGate$Pieces", "characters", "[C", true)
  | 1 => ("RequestGate$Pieces", "starts", "[I", true)
  | 2 => ("RequestGate$Pieces", "ends", "[I", true)
  | 3 => ("RequestGate$Pieces", "begun", "I", false)
  | 4 => ("RequestGate$Pieces", "written", "I", false)
  | _ => ("RequestGate$Pieces", "size", "I", false)
def fF_3 : u_T := fun k => match k with
  | _ => ("RequestGate$PlainPath", "segments", "LRequestGate$Pieces;", true)
def fF_4 : u_T := fun k => match k with
  | 0 => ("RequestGate$Layer", "laid", "[Z", true)
  | _ => ("RequestGate$Layer", "reached", "[Z", true)
def fF_5 : u_T := fun k => match k with
  | 0 => ("RequestGate$Rule", "pattern", "LRequestGate$Pieces;", true)
  | 1 => ("RequestGate$Rule", "expression", "I", true)
  | _ => ("RequestGate$Rule", "methods", "I", true)
def fF_6 : u_T := fun k => match k with
  | _ => ("RequestGate$Roles", "included", "[I", true)
def fF_7 : u_T := fun k => match k with
  | 0 => ("RequestGate$Conditions", "ops", "[I", true)
  | 1 => ("RequestGate$Conditions", "firsts", "[I", true)
  | 2 => ("RequestGate$Conditions", "seconds", "[I", true)
  | 3 => ("RequestGate$Conditions", "values", "[I", true)
  | _ => ("RequestGate$Conditions", "size", "I", false)
def fF_8 : u_T := fun k => match k with
  | 0 => ("RequestGate$User", "given", "I", true)
  | 1 => ("RequestGate$User", "scheme", "I", false)
  | 2 => ("RequestGate$User", "salt", "I", false)
  | 3 => ("RequestGate$User", "hash", "I", false)
  | 4 => ("RequestGate$User", "wrongTries", "I", false)
  | _ => ("RequestGate$User", "lockedUntil", "I", false)
def fF_9 : u_T := fun k => match k with
  | 0 => ("RequestGate$Ticket", "user", "I", true)
  | 1 => ("RequestGate$Ticket", "id", "I", true)
  | 2 => ("RequestGate$Ticket", "token", "I", false)
  | 3 => ("RequestGate$Ticket", "remembered", "Z", true)
  | 4 => ("RequestGate$Ticket", "made", "I", true)
  | _ => ("RequestGate$Ticket", "lastUsed", "I", false)
def fF_10 : u_T := fun k => match k with
  | _ => ("RequestGate$Tickets", "all", "Ljava/util/ArrayList;", true)
def fF_11 : u_T := fun k => match k with
  | 0 => ("RequestGate$Service", "parent", "I", true)
  | 1 => ("RequestGate$Service", "face", "I", true)
  | 2 => ("RequestGate$Service", "condition", "I", true)
  | 3 => ("RequestGate$Service", "declared", "[Z", true)
  | _ => ("RequestGate$Service", "conditions", "[I", true)
def fF_12 : u_T := fun k => match k with
  | 0 => ("java/util/ArrayList", "elementData", "[Ljava/lang/Object;", false)
  | 1 => ("java/util/ArrayList", "size", "I", false)
  | _ => ("java/util/AbstractList", "modCount", "I", false)
def fF_13 : u_T := fun k => match k with
  | 0 => ("RequestGateModel", "drawn", "I", false)
  | 1 => ("RequestGateModel", "time", "I", false)
  | 2 => ("RequestGateModel", "opened", "I", false)
  | 3 => ("RequestGateModel", "ran", "I", false)
  | 4 => ("RequestGateModel", "kept", "I", false)
  | 5 => ("RequestGateModel", "thefts", "I", false)
  | 6 => ("RequestGateModel", "locks", "I", false)
  | 7 => ("RequestGateModel", "added", "[I", true)
  | 8 => ("RequestGateModel", "users", "I", false)
  | 9 => ("RequestGateModel", "given", "[I", true)
  | 10 => ("RequestGateModel", "scheme", "[I", true)
  | 11 => ("RequestGateModel", "salt", "[I", true)
  | 12 => ("RequestGateModel", "hash", "[I", true)
  | 13 => ("RequestGateModel", "fails", "[I", true)
  | 14 => ("RequestGateModel", "lockedTo", "[I", true)
  | 15 => ("RequestGateModel", "made", "[Z", true)
  | 16 => ("RequestGateModel", "sessionId", "[I", true)
  | 17 => ("RequestGateModel", "sessionToken", "[I", true)
  | 18 => ("RequestGateModel", "remembered", "[Z", true)
  | 19 => ("RequestGateModel", "madeAt", "[I", true)
  | 20 => ("RequestGateModel", "usedAt", "[I", true)
  | 21 => ("RequestGateModel", "lasting", "[Z", true)
  | 22 => ("RequestGateModel", "seriesId", "[I", true)
  | 23 => ("RequestGateModel", "seriesToken", "[I", true)
  | 24 => ("RequestGateModel", "expressions", "I", false)
  | 25 => ("RequestGateModel", "op", "[I", true)
  | 26 => ("RequestGateModel", "one", "[I", true)
  | 27 => ("RequestGateModel", "two", "[I", true)
  | 28 => ("RequestGateModel", "value", "[I", true)
  | 29 => ("RequestGateModel", "size", "I", false)
  | 30 => ("RequestGateModel", "buffer", "[I", true)
  | 31 => ("RequestGateModel", "plain", "[I", true)
  | 32 => ("RequestGateModel", "from", "[I", true)
  | 33 => ("RequestGateModel", "to", "[I", true)
  | 34 => ("RequestGateModel", "segment", "[I", true)
  | 35 => ("RequestGateModel", "segments", "I", false)
  | 36 => ("RequestGateModel", "here", "[Z", true)
  | 37 => ("RequestGateModel", "next", "[Z", true)
  | 38 => ("RequestGateModel", "mark", "[Z", true)
  | 39 => ("RequestGateModel", "beyond", "[Z", true)
  | 40 => ("RequestGateModel", "rules", "I", false)
  | 41 => ("RequestGateModel", "text", "[I", true)
  | 42 => ("RequestGateModel", "length", "[I", true)
  | 43 => ("RequestGateModel", "condition", "[I", true)
  | 44 => ("RequestGateModel", "methods", "[I", true)
  | 45 => ("RequestGateModel", "types", "I", false)
  | 46 => ("RequestGateModel", "parent", "[I", true)
  | 47 => ("RequestGateModel", "face", "[I", true)
  | 48 => ("RequestGateModel", "typeCondition", "[I", true)
  | 49 => ("RequestGateModel", "declares", "[Z", true)
  | 50 => ("RequestGateModel", "declared", "[I", true)
  | 51 => ("RequestGateModel", "isOpen", "Z", false)
  | 52 => ("RequestGateModel", "subject", "I", false)
  | 53 => ("RequestGateModel", "subjectRemembered", "Z", false)
  | 54 => ("RequestGateModel", "asker", "I", false)
  | _ => ("RequestGateModel", "askerRemembered", "Z", false)
abbrev zz_cl : List vw_C := [("RequestGate", fF_0, 19), ("RequestGate$Text", fF_1, 2), ("RequestGate$Pieces", fF_2, 6), ("RequestGate$PlainPath", fF_3, 1), ("RequestGate$Layer", fF_4, 2), ("RequestGate$Rule", fF_5, 3), ("RequestGate$Roles", fF_6, 1), ("RequestGate$Conditions", fF_7, 5), ("RequestGate$User", fF_8, 6), ("RequestGate$Ticket", fF_9, 6), ("RequestGate$Tickets", fF_10, 1), ("RequestGate$Service", fF_11, 5), ("java/util/ArrayList", fF_12, 3), ("RequestGateModel", fF_13, 56)]
def zz_ftl : List (List FieldType) := [[.object "RequestGate$Text", .object "RequestGate$PlainPath", .object "RequestGate$Layer", .object "RequestGate$Conditions", .object "RequestGate$Roles", .object "java/util/ArrayList", .object "java/util/ArrayList", .object "java/util/ArrayList", .object "RequestGate$Tickets", .object "RequestGate$Tickets", .int, .boolean, .int, .int, .int, .int, .int, .int, .int],
  [.array .char, .int],
  [.array .char, .array .int, .array .int, .int, .int, .int],
  [.object "RequestGate$Pieces"],
  [.array .boolean, .array .boolean],
  [.object "RequestGate$Pieces", .int, .int],
  [.array .int],
  [.array .int, .array .int, .array .int, .array .int, .int],
  [.int, .int, .int, .int, .int, .int],
  [.int, .int, .int, .boolean, .int, .int],
  [.object "java/util/ArrayList"],
  [.int, .int, .int, .array .boolean, .array .int],
  [.array (.object "java/lang/Object"), .int, .int],
  [.int, .int, .int, .int, .int, .int, .int, .array .int, .int, .array .int, .array .int, .array .int, .array .int, .array .int, .array .int, .array .boolean, .array .int, .array .int, .array .boolean, .array .int, .array .int, .array .boolean, .array .int, .array .int, .int, .array .int, .array .int, .array .int, .array .int, .int, .array .int, .array .int, .array .int, .array .int, .array .int, .int, .array .boolean, .array .boolean, .array .boolean, .array .boolean, .int, .array .int, .array .int, .array .int, .array .int, .int, .array .int, .array .int, .array .int, .array .boolean, .array .int, .boolean, .int, .boolean, .int, .boolean]]
def zz_fty (ci k : Nat) : FieldType := (zz_ftl.getD ci []).getD k .int
def zz_nl : List (String × Nat × MethodName × String) := [("RequestGate", 11, ⟨"RequestGate$Text", "<init>", "()V"⟩, "RequestGate"), ("RequestGate", 18, ⟨"RequestGate$PlainPath", "<init>", "()V"⟩, "RequestGate"), ("RequestGate$PlainPath", 11, ⟨"RequestGate$Pieces", "<init>", "()V"⟩, "RequestGate"), ("RequestGate", 25, ⟨"RequestGate$Layer", "<init>", "()V"⟩, "RequestGate"), ("RequestGate", 32, ⟨"RequestGate$Conditions", "<init>", "()V"⟩, "RequestGate"), ("RequestGate", 59, ⟨"RequestGate$Tickets", "<init>", "()V"⟩, "RequestGate"), ("RequestGate$Rule", 9, ⟨"RequestGate$Pieces", "<init>", "()V"⟩, "RequestGate"), ("RequestGate$Service", 29, ⟨"RequestGate", "isOperation", "(I)Z"⟩, "RequestGate")]
def zz_ca : List (String × String) := [("RequestGate$Service", "RequestGate$Service"), ("RequestGate$Ticket", "RequestGate$Ticket"), ("RequestGate$User", "RequestGate$User"), ("RequestGate$Rule", "RequestGate$Rule"), ("RequestGate", "java/lang/Object"), ("RequestGate$Text", "java/lang/Object"), ("RequestGate$PlainPath", "java/lang/Object"), ("RequestGate$Pieces", "java/lang/Object"), ("RequestGate$Layer", "java/lang/Object"), ("RequestGate$Conditions", "java/lang/Object"), ("RequestGate$Roles", "java/lang/Object"), ("RequestGate$Tickets", "java/lang/Object"), ("RequestGateModel", "java/lang/Object"), ("RequestGate$Rule", "java/lang/Object"), ("RequestGate$User", "java/lang/Object"), ("RequestGate$Service", "java/lang/Object"), ("RequestGate$Ticket", "java/lang/Object")]
theorem zw_0 : Cond.initialized "RequestGateLaw" ∈ zz_ws := zz_in (List.mem_of_getElem? (i := 0) (by decide +kernel)) rfl
theorem zw_1 : Cond.initialized "RequestGate" ∈ zz_ws := zz_in (List.mem_of_getElem? (i := 1) (by decide +kernel)) rfl
theorem zw_2 : Cond.initialized "RequestGate$Text" ∈ zz_ws := zz_in (List.mem_of_getElem? (i := 2) (by decide +kernel)) rfl
theorem zw_3 : Cond.initialized "RequestGate$PlainPath" ∈ zz_ws := zz_in (List.mem_of_getElem? (i := 3) (by decide +kernel)) rfl
theorem zw_4 : Cond.initialized "RequestGate$Pieces" ∈ zz_ws := zz_in (List.mem_of_getElem? (i := 4) (by decide +kernel)) rfl
theorem zw_5 : Cond.initialized "RequestGate$Layer" ∈ zz_ws := zz_in (List.mem_of_getElem? (i := 5) (by decide +kernel)) rfl
theorem zw_6 : Cond.initialized "RequestGate$Conditions" ∈ zz_ws := zz_in (List.mem_of_getElem? (i := 6) (by decide +kernel)) rfl
theorem zw_7 : Cond.initialized "RequestGate$Roles" ∈ zz_ws := zz_in (List.mem_of_getElem? (i := 7) (by decide +kernel)) rfl
theorem zw_8 : Cond.initialized "java/util/AbstractCollection" ∈ zz_ws := zz_in (List.mem_of_getElem? (i := 8) (by decide +kernel)) rfl
theorem zw_9 : Cond.initialized "java/util/AbstractList" ∈ zz_ws := zz_in (List.mem_of_getElem? (i := 9) (by decide +kernel)) rfl
theorem zw_10 : Cond.initialized "java/util/ArrayList" ∈ zz_ws := zz_in (List.mem_of_getElem? (i := 10) (by decide +kernel)) rfl
theorem zw_11 : Cond.initialized "RequestGate$Tickets" ∈ zz_ws := zz_in (List.mem_of_getElem? (i := 11) (by decide +kernel)) rfl
theorem zw_12 : Cond.initialized "RequestGateModel" ∈ zz_ws := zz_in (List.mem_of_getElem? (i := 12) (by decide +kernel)) rfl
theorem zw_13 : Cond.initialized "RequestGate$Rule" ∈ zz_ws := zz_in (List.mem_of_getElem? (i := 13) (by decide +kernel)) rfl
theorem zw_14 : Cond.initialized "jdk/internal/util/ArraysSupport" ∈ zz_ws := zz_in (List.mem_of_getElem? (i := 14) (by decide +kernel)) rfl
theorem zw_15 : Cond.initialized "java/lang/Math" ∈ zz_ws := zz_in (List.mem_of_getElem? (i := 15) (by decide +kernel)) rfl
theorem zw_16 : Cond.initialized "java/util/Arrays" ∈ zz_ws := zz_in (List.mem_of_getElem? (i := 16) (by decide +kernel)) rfl
theorem zw_17 : Cond.initialized "java/lang/System" ∈ zz_ws := zz_in (List.mem_of_getElem? (i := 17) (by decide +kernel)) rfl
theorem zw_18 : Cond.initialized "RequestGate$User" ∈ zz_ws := zz_in (List.mem_of_getElem? (i := 18) (by decide +kernel)) rfl
theorem zw_19 : Cond.initialized "RequestGate$Service" ∈ zz_ws := zz_in (List.mem_of_getElem? (i := 19) (by decide +kernel)) rfl
theorem zw_20 : Cond.initialized "java/util/Objects" ∈ zz_ws := zz_in (List.mem_of_getElem? (i := 20) (by decide +kernel)) rfl
theorem zw_21 : Cond.initialized "jdk/internal/util/Preconditions" ∈ zz_ws := zz_in (List.mem_of_getElem? (i := 21) (by decide +kernel)) rfl
theorem zw_22 : Cond.initialized "RequestGate$Ticket" ∈ zz_ws := zz_in (List.mem_of_getElem? (i := 22) (by decide +kernel)) rfl
theorem zw_23 : Cond.classLink "RequestGateLaw" (7 : Nat) "RequestGate" ∈ zz_ws := zz_in (List.mem_of_getElem? (i := 23) (by decide +kernel)) rfl
theorem zw_24 : Cond.instantiable "RequestGate" (19 : Nat) ∈ zz_ws := zz_in (List.mem_of_getElem? (i := 24) (by decide +kernel)) rfl
theorem zw_25 : Cond.methodLink "RequestGateLaw" (9 : Nat) ({ cls := "RequestGate", name := "<init>", desc := "()V" } : MethodName) ∈ zz_ws := zz_in (List.mem_of_getElem? (i := 25) (by decide +kernel)) rfl
theorem zw_26 : Cond.instanceMethod ({ cls := "RequestGate", name := "<init>", desc := "()V" } : MethodName) ∈ zz_ws := zz_in (List.mem_of_getElem? (i := 26) (by decide +kernel)) rfl
theorem zw_27 : Cond.code ({ cls := "RequestGate", name := "<init>", desc := "()V" } : MethodName) prog_1_method_1_code (1 : Nat) (none : Option FieldType) ∈ zz_ws := zz_in (List.mem_of_getElem? (i := 27) (by decide +kernel)) rfl
theorem zw_28 : Cond.methodLink "RequestGate" (3 : Nat) ({ cls := "java/lang/Object", name := "<init>", desc := "()V" } : MethodName) ∈ zz_ws := zz_in (List.mem_of_getElem? (i := 28) (by decide +kernel)) rfl
theorem zw_29 : Cond.instanceMethod ({ cls := "java/lang/Object", name := "<init>", desc := "()V" } : MethodName) ∈ zz_ws := zz_in (List.mem_of_getElem? (i := 29) (by decide +kernel)) rfl
theorem zw_30 : Cond.code ({ cls := "java/lang/Object", name := "<init>", desc := "()V" } : MethodName) object_method_1_code (1 : Nat) (none : Option FieldType) ∈ zz_ws := zz_in (List.mem_of_getElem? (i := 30) (by decide +kernel)) rfl
theorem zw_31 : Cond.classLink "RequestGate" (9 : Nat) "RequestGate$Text" ∈ zz_ws := zz_in (List.mem_of_getElem? (i := 31) (by decide +kernel)) rfl
theorem zw_32 : Cond.instantiable "RequestGate$Text" (2 : Nat) ∈ zz_ws := zz_in (List.mem_of_getElem? (i := 32) (by decide +kernel)) rfl
theorem zw_34 : Cond.instanceMethod ({ cls := "RequestGate$Text", name := "<init>", desc := "()V" } : MethodName) ∈ zz_ws := zz_in (List.mem_of_getElem? (i := 34) (by decide +kernel)) rfl
theorem zw_35 : Cond.code ({ cls := "RequestGate$Text", name := "<init>", desc := "()V" } : MethodName) prog_9_method_1_code (1 : Nat) (none : Option FieldType) ∈ zz_ws := zz_in (List.mem_of_getElem? (i := 35) (by decide +kernel)) rfl
theorem zw_36 : Cond.methodLink "RequestGate$Text" (3 : Nat) ({ cls := "java/lang/Object", name := "<init>", desc := "()V" } : MethodName) ∈ zz_ws := zz_in (List.mem_of_getElem? (i := 36) (by decide +kernel)) rfl
theorem zw_37 : Cond.fieldLink "RequestGate$Text" (9 : Nat) "RequestGate$Text" "characters" "[C" ∈ zz_ws := zz_in (List.mem_of_getElem? (i := 37) (by decide +kernel)) rfl
theorem zw_38 : Cond.fieldLink "RequestGate$Rule" (23 : Nat) "RequestGate$Text" "length" "I" ∈ zz_ws := zz_in (List.mem_of_getElem? (i := 38) (by decide +kernel)) rfl
theorem zw_39 : Cond.fieldLink "RequestGate$PlainPath" (31 : Nat) "RequestGate$Text" "length" "I" ∈ zz_ws := zz_in (List.mem_of_getElem? (i := 39) (by decide +kernel)) rfl
theorem zw_40 : Cond.fieldLink "RequestGate$Text" (19 : Nat) "RequestGate$Text" "length" "I" ∈ zz_ws := zz_in (List.mem_of_getElem? (i := 40) (by decide +kernel)) rfl
theorem zw_41 : Cond.laysFinal "RequestGate$Text" "RequestGate$Text" "characters" "[C" ∈ zz_ws := zz_in (List.mem_of_getElem? (i := 41) (by decide +kernel)) rfl
theorem zw_43 : Cond.lays "RequestGate$Text" "RequestGate$Text" "length" "I" ∈ zz_ws := zz_in (List.mem_of_getElem? (i := 43) (by decide +kernel)) rfl
theorem zw_46 : Cond.arrayClass FieldType.char ∈ zz_ws := zz_in (List.mem_of_getElem? (i := 46) (by decide +kernel)) rfl
theorem zw_47 : Cond.classLink "RequestGate" (16 : Nat) "RequestGate$PlainPath" ∈ zz_ws := zz_in (List.mem_of_getElem? (i := 47) (by decide +kernel)) rfl
theorem zw_48 : Cond.instantiable "RequestGate$PlainPath" (1 : Nat) ∈ zz_ws := zz_in (List.mem_of_getElem? (i := 48) (by decide +kernel)) rfl
theorem zw_50 : Cond.instanceMethod ({ cls := "RequestGate$PlainPath", name := "<init>", desc := "()V" } : MethodName) ∈ zz_ws := zz_in (List.mem_of_getElem? (i := 50) (by decide +kernel)) rfl
theorem zw_51 : Cond.code ({ cls := "RequestGate$PlainPath", name := "<init>", desc := "()V" } : MethodName) prog_5_method_1_code (1 : Nat) (none : Option FieldType) ∈ zz_ws := zz_in (List.mem_of_getElem? (i := 51) (by decide +kernel)) rfl
theorem zw_52 : Cond.methodLink "RequestGate$PlainPath" (3 : Nat) ({ cls := "java/lang/Object", name := "<init>", desc := "()V" } : MethodName) ∈ zz_ws := zz_in (List.mem_of_getElem? (i := 52) (by decide +kernel)) rfl
theorem zw_53 : Cond.classLink "RequestGate$PlainPath" (9 : Nat) "RequestGate$Pieces" ∈ zz_ws := zz_in (List.mem_of_getElem? (i := 53) (by decide +kernel)) rfl
theorem zw_54 : Cond.instantiable "RequestGate$Pieces" (6 : Nat) ∈ zz_ws := zz_in (List.mem_of_getElem? (i := 54) (by decide +kernel)) rfl
theorem zw_56 : Cond.instanceMethod ({ cls := "RequestGate$Pieces", name := "<init>", desc := "()V" } : MethodName) ∈ zz_ws := zz_in (List.mem_of_getElem? (i := 56) (by decide +kernel)) rfl
theorem zw_57 : Cond.code ({ cls := "RequestGate$Pieces", name := "<init>", desc := "()V" } : MethodName) prog_4_method_1_code (1 : Nat) (none : Option FieldType) ∈ zz_ws := zz_in (List.mem_of_getElem? (i := 57) (by decide +kernel)) rfl
theorem zw_58 : Cond.methodLink "RequestGate$Pieces" (3 : Nat) ({ cls := "java/lang/Object", name := "<init>", desc := "()V" } : MethodName) ∈ zz_ws := zz_in (List.mem_of_getElem? (i := 58) (by decide +kernel)) rfl
theorem zw_59 : Cond.fieldLink "RequestGate$Pieces" (9 : Nat) "RequestGate$Pieces" "characters" "[C" ∈ zz_ws := zz_in (List.mem_of_getElem? (i := 59) (by decide +kernel)) rfl
theorem zw_60 : Cond.fieldLink "RequestGate$Pieces" (15 : Nat) "RequestGate$Pieces" "starts" "[I" ∈ zz_ws := zz_in (List.mem_of_getElem? (i := 60) (by decide +kernel)) rfl
theorem zw_61 : Cond.fieldLink "RequestGate$Pieces" (19 : Nat) "RequestGate$Pieces" "ends" "[I" ∈ zz_ws := zz_in (List.mem_of_getElem? (i := 61) (by decide +kernel)) rfl
theorem zw_62 : Cond.fieldLink "RequestGate$Pieces" (22 : Nat) "RequestGate$Pieces" "begun" "I" ∈ zz_ws := zz_in (List.mem_of_getElem? (i := 62) (by decide +kernel)) rfl
theorem zw_63 : Cond.fieldLink "RequestGate$Pieces" (26 : Nat) "RequestGate$Pieces" "written" "I" ∈ zz_ws := zz_in (List.mem_of_getElem? (i := 63) (by decide +kernel)) rfl
theorem zw_64 : Cond.fieldLink "RequestGate$Layer" (22 : Nat) "RequestGate$Pieces" "size" "I" ∈ zz_ws := zz_in (List.mem_of_getElem? (i := 64) (by decide +kernel)) rfl
theorem zw_65 : Cond.fieldLink "RequestGate$Pieces" (29 : Nat) "RequestGate$Pieces" "size" "I" ∈ zz_ws := zz_in (List.mem_of_getElem? (i := 65) (by decide +kernel)) rfl
theorem zw_66 : Cond.fieldLink "RequestGate$PlainPath" (76 : Nat) "RequestGate$Pieces" "size" "I" ∈ zz_ws := zz_in (List.mem_of_getElem? (i := 66) (by decide +kernel)) rfl
theorem zw_67 : Cond.fieldLink "RequestGate" (275 : Nat) "RequestGate$Pieces" "size" "I" ∈ zz_ws := zz_in (List.mem_of_getElem? (i := 67) (by decide +kernel)) rfl
theorem zw_68 : Cond.laysFinal "RequestGate$Pieces" "RequestGate$Pieces" "characters" "[C" ∈ zz_ws := zz_in (List.mem_of_getElem? (i := 68) (by decide +kernel)) rfl
theorem zw_70 : Cond.laysFinal "RequestGate$Pieces" "RequestGate$Pieces" "starts" "[I" ∈ zz_ws := zz_in (List.mem_of_getElem? (i := 70) (by decide +kernel)) rfl
theorem zw_72 : Cond.laysFinal "RequestGate$Pieces" "RequestGate$Pieces" "ends" "[I" ∈ zz_ws := zz_in (List.mem_of_getElem? (i := 72) (by decide +kernel)) rfl
theorem zw_74 : Cond.lays "RequestGate$Pieces" "RequestGate$Pieces" "begun" "I" ∈ zz_ws := zz_in (List.mem_of_getElem? (i := 74) (by decide +kernel)) rfl
theorem zw_76 : Cond.lays "RequestGate$Pieces" "RequestGate$Pieces" "written" "I" ∈ zz_ws := zz_in (List.mem_of_getElem? (i := 76) (by decide +kernel)) rfl
theorem zw_78 : Cond.lays "RequestGate$Pieces" "RequestGate$Pieces" "size" "I" ∈ zz_ws := zz_in (List.mem_of_getElem? (i := 78) (by decide +kernel)) rfl
theorem zw_81 : Cond.arrayClass FieldType.int ∈ zz_ws := zz_in (List.mem_of_getElem? (i := 81) (by decide +kernel)) rfl
theorem zw_82 : Cond.fieldLink "RequestGate$PlainPath" (12 : Nat) "RequestGate$PlainPath" "segments" "LRequestGate$Pieces;" ∈ zz_ws := zz_in (List.mem_of_getElem? (i := 82) (by decide +kernel)) rfl
theorem zw_83 : Cond.fieldLink "RequestGate" (230 : Nat) "RequestGate$PlainPath" "segments" "LRequestGate$Pieces;" ∈ zz_ws := zz_in (List.mem_of_getElem? (i := 83) (by decide +kernel)) rfl
theorem zw_84 : Cond.laysFinal "RequestGate$PlainPath" "RequestGate$PlainPath" "segments" "LRequestGate$Pieces;" ∈ zz_ws := zz_in (List.mem_of_getElem? (i := 84) (by decide +kernel)) rfl
theorem zw_87 : Cond.classLink "RequestGate" (23 : Nat) "RequestGate$Layer" ∈ zz_ws := zz_in (List.mem_of_getElem? (i := 87) (by decide +kernel)) rfl
theorem zw_88 : Cond.instantiable "RequestGate$Layer" (2 : Nat) ∈ zz_ws := zz_in (List.mem_of_getElem? (i := 88) (by decide +kernel)) rfl
theorem zw_90 : Cond.instanceMethod ({ cls := "RequestGate$Layer", name := "<init>", desc := "()V" } : MethodName) ∈ zz_ws := zz_in (List.mem_of_getElem? (i := 90) (by decide +kernel)) rfl
theorem zw_91 : Cond.code ({ cls := "RequestGate$Layer", name := "<init>", desc := "()V" } : MethodName) prog_3_method_1_code (1 : Nat) (none : Option FieldType) ∈ zz_ws := zz_in (List.mem_of_getElem? (i := 91) (by decide +kernel)) rfl
theorem zw_92 : Cond.methodLink "RequestGate$Layer" (3 : Nat) ({ cls := "java/lang/Object", name := "<init>", desc := "()V" } : MethodName) ∈ zz_ws := zz_in (List.mem_of_getElem? (i := 92) (by decide +kernel)) rfl
theorem zw_93 : Cond.fieldLink "RequestGate$Layer" (9 : Nat) "RequestGate$Layer" "laid" "[Z" ∈ zz_ws := zz_in (List.mem_of_getElem? (i := 93) (by decide +kernel)) rfl
theorem zw_94 : Cond.fieldLink "RequestGate$Layer" (15 : Nat) "RequestGate$Layer" "reached" "[Z" ∈ zz_ws := zz_in (List.mem_of_getElem? (i := 94) (by decide +kernel)) rfl
theorem zw_95 : Cond.laysFinal "RequestGate$Layer" "RequestGate$Layer" "laid" "[Z" ∈ zz_ws := zz_in (List.mem_of_getElem? (i := 95) (by decide +kernel)) rfl
theorem zw_97 : Cond.laysFinal "RequestGate$Layer" "RequestGate$Layer" "reached" "[Z" ∈ zz_ws := zz_in (List.mem_of_getElem? (i := 97) (by decide +kernel)) rfl
theorem zw_100 : Cond.arrayClass FieldType.boolean ∈ zz_ws := zz_in (List.mem_of_getElem? (i := 100) (by decide +kernel)) rfl
theorem zw_101 : Cond.classLink "RequestGate" (30 : Nat) "RequestGate$Conditions" ∈ zz_ws := zz_in (List.mem_of_getElem? (i := 101) (by decide +kernel)) rfl
theorem zw_102 : Cond.instantiable "RequestGate$Conditions" (5 : Nat) ∈ zz_ws := zz_in (List.mem_of_getElem? (i := 102) (by decide +kernel)) rfl
theorem zw_104 : Cond.instanceMethod ({ cls := "RequestGate$Conditions", name := "<init>", desc := "()V" } : MethodName) ∈ zz_ws := zz_in (List.mem_of_getElem? (i := 104) (by decide +kernel)) rfl
theorem zw_105 : Cond.code ({ cls := "RequestGate$Conditions", name := "<init>", desc := "()V" } : MethodName) prog_2_method_1_code (1 : Nat) (none : Option FieldType) ∈ zz_ws := zz_in (List.mem_of_getElem? (i := 105) (by decide +kernel)) rfl
theorem zw_106 : Cond.methodLink "RequestGate$Conditions" (3 : Nat) ({ cls := "java/lang/Object", name := "<init>", desc := "()V" } : MethodName) ∈ zz_ws := zz_in (List.mem_of_getElem? (i := 106) (by decide +kernel)) rfl
theorem zw_107 : Cond.fieldLink "RequestGate$Conditions" (9 : Nat) "RequestGate$Conditions" "ops" "[I" ∈ zz_ws := zz_in (List.mem_of_getElem? (i := 107) (by decide +kernel)) rfl
theorem zw_108 : Cond.fieldLink "RequestGate$Conditions" (15 : Nat) "RequestGate$Conditions" "firsts" "[I" ∈ zz_ws := zz_in (List.mem_of_getElem? (i := 108) (by decide +kernel)) rfl
theorem zw_109 : Cond.fieldLink "RequestGate$Conditions" (18 : Nat) "RequestGate$Conditions" "seconds" "[I" ∈ zz_ws := zz_in (List.mem_of_getElem? (i := 109) (by decide +kernel)) rfl
theorem zw_110 : Cond.fieldLink "RequestGate$Conditions" (21 : Nat) "RequestGate$Conditions" "values" "[I" ∈ zz_ws := zz_in (List.mem_of_getElem? (i := 110) (by decide +kernel)) rfl
theorem zw_111 : Cond.fieldLink "RequestGate$Conditions" (24 : Nat) "RequestGate$Conditions" "size" "I" ∈ zz_ws := zz_in (List.mem_of_getElem? (i := 111) (by decide +kernel)) rfl
theorem zw_112 : Cond.laysFinal "RequestGate$Conditions" "RequestGate$Conditions" "ops" "[I" ∈ zz_ws := zz_in (List.mem_of_getElem? (i := 112) (by decide +kernel)) rfl
theorem zw_114 : Cond.laysFinal "RequestGate$Conditions" "RequestGate$Conditions" "firsts" "[I" ∈ zz_ws := zz_in (List.mem_of_getElem? (i := 114) (by decide +kernel)) rfl
theorem zw_116 : Cond.laysFinal "RequestGate$Conditions" "RequestGate$Conditions" "seconds" "[I" ∈ zz_ws := zz_in (List.mem_of_getElem? (i := 116) (by decide +kernel)) rfl
theorem zw_118 : Cond.laysFinal "RequestGate$Conditions" "RequestGate$Conditions" "values" "[I" ∈ zz_ws := zz_in (List.mem_of_getElem? (i := 118) (by decide +kernel)) rfl
theorem zw_120 : Cond.lays "RequestGate$Conditions" "RequestGate$Conditions" "size" "I" ∈ zz_ws := zz_in (List.mem_of_getElem? (i := 120) (by decide +kernel)) rfl
theorem zw_123 : Cond.classLink "RequestGate" (37 : Nat) "RequestGate$Roles" ∈ zz_ws := zz_in (List.mem_of_getElem? (i := 123) (by decide +kernel)) rfl
theorem zw_124 : Cond.instantiable "RequestGate$Roles" (1 : Nat) ∈ zz_ws := zz_in (List.mem_of_getElem? (i := 124) (by decide +kernel)) rfl
theorem zw_125 : Cond.methodLink "RequestGate" (39 : Nat) ({ cls := "RequestGate$Roles", name := "<init>", desc := "()V" } : MethodName) ∈ zz_ws := zz_in (List.mem_of_getElem? (i := 125) (by decide +kernel)) rfl
theorem zw_126 : Cond.instanceMethod ({ cls := "RequestGate$Roles", name := "<init>", desc := "()V" } : MethodName) ∈ zz_ws := zz_in (List.mem_of_getElem? (i := 126) (by decide +kernel)) rfl
theorem zw_127 : Cond.code ({ cls := "RequestGate$Roles", name := "<init>", desc := "()V" } : MethodName) prog_6_method_1_code (2 : Nat) (none : Option FieldType) ∈ zz_ws := zz_in (List.mem_of_getElem? (i := 127) (by decide +kernel)) rfl
theorem zw_128 : Cond.methodLink "RequestGate$Roles" (3 : Nat) ({ cls := "java/lang/Object", name := "<init>", desc := "()V" } : MethodName) ∈ zz_ws := zz_in (List.mem_of_getElem? (i := 128) (by decide +kernel)) rfl
theorem zw_129 : Cond.fieldLink "RequestGate$Roles" (9 : Nat) "RequestGate$Roles" "included" "[I" ∈ zz_ws := zz_in (List.mem_of_getElem? (i := 129) (by decide +kernel)) rfl
theorem zw_130 : Cond.laysFinal "RequestGate$Roles" "RequestGate$Roles" "included" "[I" ∈ zz_ws := zz_in (List.mem_of_getElem? (i := 130) (by decide +kernel)) rfl
theorem zw_133 : Cond.classLink "RequestGate" (44 : Nat) "java/util/ArrayList" ∈ zz_ws := zz_in (List.mem_of_getElem? (i := 133) (by decide +kernel)) rfl
theorem zw_134 : Cond.instantiable "java/util/ArrayList" (3 : Nat) ∈ zz_ws := zz_in (List.mem_of_getElem? (i := 134) (by decide +kernel)) rfl
theorem zw_135 : Cond.methodLink "RequestGate" (46 : Nat) ({ cls := "java/util/ArrayList", name := "<init>", desc := "()V" } : MethodName) ∈ zz_ws := zz_in (List.mem_of_getElem? (i := 135) (by decide +kernel)) rfl
theorem zw_136 : Cond.instanceMethod ({ cls := "java/util/ArrayList", name := "<init>", desc := "()V" } : MethodName) ∈ zz_ws := zz_in (List.mem_of_getElem? (i := 136) (by decide +kernel)) rfl
theorem zw_137 : Cond.code ({ cls := "java/util/ArrayList", name := "<init>", desc := "()V" } : MethodName) prog_22_method_2_code (1 : Nat) (none : Option FieldType) ∈ zz_ws := zz_in (List.mem_of_getElem? (i := 137) (by decide +kernel)) rfl
theorem zw_138 : Cond.methodLink "java/util/ArrayList" (1 : Nat) ({ cls := "java/util/AbstractList", name := "<init>", desc := "()V" } : MethodName) ∈ zz_ws := zz_in (List.mem_of_getElem? (i := 138) (by decide +kernel)) rfl
theorem zw_139 : Cond.instanceMethod ({ cls := "java/util/AbstractList", name := "<init>", desc := "()V" } : MethodName) ∈ zz_ws := zz_in (List.mem_of_getElem? (i := 139) (by decide +kernel)) rfl
theorem zw_140 : Cond.code ({ cls := "java/util/AbstractList", name := "<init>", desc := "()V" } : MethodName) prog_21_method_1_code (1 : Nat) (none : Option FieldType) ∈ zz_ws := zz_in (List.mem_of_getElem? (i := 140) (by decide +kernel)) rfl
theorem zw_141 : Cond.methodLink "java/util/AbstractList" (1 : Nat) ({ cls := "java/util/AbstractCollection", name := "<init>", desc := "()V" } : MethodName) ∈ zz_ws := zz_in (List.mem_of_getElem? (i := 141) (by decide +kernel)) rfl
theorem zw_142 : Cond.instanceMethod ({ cls := "java/util/AbstractCollection", name := "<init>", desc := "()V" } : MethodName) ∈ zz_ws := zz_in (List.mem_of_getElem? (i := 142) (by decide +kernel)) rfl
theorem zw_143 : Cond.code ({ cls := "java/util/AbstractCollection", name := "<init>", desc := "()V" } : MethodName) prog_20_method_1_code (1 : Nat) (none : Option FieldType) ∈ zz_ws := zz_in (List.mem_of_getElem? (i := 143) (by decide +kernel)) rfl
theorem zw_144 : Cond.methodLink "java/util/AbstractCollection" (1 : Nat) ({ cls := "java/lang/Object", name := "<init>", desc := "()V" } : MethodName) ∈ zz_ws := zz_in (List.mem_of_getElem? (i := 144) (by decide +kernel)) rfl
theorem zw_145 : Cond.fieldLink "java/util/ArrayList" (39 : Nat) "java/util/ArrayList" "DEFAULTCAPACITY_EMPTY_ELEMENTDATA" "[Ljava/lang/Object;" ∈ zz_ws := zz_in (List.mem_of_getElem? (i := 145) (by decide +kernel)) rfl
theorem zw_147 : Cond.fieldLink "java/util/ArrayList" (9 : Nat) "java/util/ArrayList" "elementData" "[Ljava/lang/Object;" ∈ zz_ws := zz_in (List.mem_of_getElem? (i := 147) (by decide +kernel)) rfl
theorem zw_148 : Cond.fieldLink "java/util/ArrayList" (48 : Nat) "java/util/ArrayList" "size" "I" ∈ zz_ws := zz_in (List.mem_of_getElem? (i := 148) (by decide +kernel)) rfl
theorem zw_149 : Cond.fieldLink "java/util/AbstractList" (7 : Nat) "java/util/AbstractList" "modCount" "I" ∈ zz_ws := zz_in (List.mem_of_getElem? (i := 149) (by decide +kernel)) rfl
theorem zw_150 : Cond.fieldLink "java/util/ArrayList" (63 : Nat) "java/util/ArrayList" "modCount" "I" ∈ zz_ws := zz_in (List.mem_of_getElem? (i := 150) (by decide +kernel)) rfl
theorem zw_151 : Cond.sameField "java/util/ArrayList" "java/util/AbstractList" "modCount" "I" ∈ zz_ws := zz_in (List.mem_of_getElem? (i := 151) (by decide +kernel)) rfl
theorem zw_152 : Cond.lays "java/util/ArrayList" "java/util/ArrayList" "elementData" "[Ljava/lang/Object;" ∈ zz_ws := zz_in (List.mem_of_getElem? (i := 152) (by decide +kernel)) rfl
theorem zw_154 : Cond.lays "java/util/ArrayList" "java/util/ArrayList" "size" "I" ∈ zz_ws := zz_in (List.mem_of_getElem? (i := 154) (by decide +kernel)) rfl
theorem zw_156 : Cond.lays "java/util/ArrayList" "java/util/AbstractList" "modCount" "I" ∈ zz_ws := zz_in (List.mem_of_getElem? (i := 156) (by decide +kernel)) rfl
theorem zw_159 : Cond.classLink "RequestGate" (57 : Nat) "RequestGate$Tickets" ∈ zz_ws := zz_in (List.mem_of_getElem? (i := 159) (by decide +kernel)) rfl
theorem zw_160 : Cond.instantiable "RequestGate$Tickets" (1 : Nat) ∈ zz_ws := zz_in (List.mem_of_getElem? (i := 160) (by decide +kernel)) rfl
theorem zw_162 : Cond.instanceMethod ({ cls := "RequestGate$Tickets", name := "<init>", desc := "()V" } : MethodName) ∈ zz_ws := zz_in (List.mem_of_getElem? (i := 162) (by decide +kernel)) rfl
theorem zw_163 : Cond.code ({ cls := "RequestGate$Tickets", name := "<init>", desc := "()V" } : MethodName) prog_11_method_1_code (1 : Nat) (none : Option FieldType) ∈ zz_ws := zz_in (List.mem_of_getElem? (i := 163) (by decide +kernel)) rfl
theorem zw_164 : Cond.methodLink "RequestGate$Tickets" (1 : Nat) ({ cls := "java/lang/Object", name := "<init>", desc := "()V" } : MethodName) ∈ zz_ws := zz_in (List.mem_of_getElem? (i := 164) (by decide +kernel)) rfl
theorem zw_165 : Cond.classLink "RequestGate$Tickets" (7 : Nat) "java/util/ArrayList" ∈ zz_ws := zz_in (List.mem_of_getElem? (i := 165) (by decide +kernel)) rfl
theorem zw_166 : Cond.methodLink "RequestGate$Tickets" (9 : Nat) ({ cls := "java/util/ArrayList", name := "<init>", desc := "()V" } : MethodName) ∈ zz_ws := zz_in (List.mem_of_getElem? (i := 166) (by decide +kernel)) rfl
theorem zw_167 : Cond.fieldLink "RequestGate$Tickets" (10 : Nat) "RequestGate$Tickets" "all" "Ljava/util/ArrayList;" ∈ zz_ws := zz_in (List.mem_of_getElem? (i := 167) (by decide +kernel)) rfl
theorem zw_168 : Cond.laysFinal "RequestGate$Tickets" "RequestGate$Tickets" "all" "Ljava/util/ArrayList;" ∈ zz_ws := zz_in (List.mem_of_getElem? (i := 168) (by decide +kernel)) rfl
theorem zw_171 : Cond.fieldLink "RequestGate" (12 : Nat) "RequestGate" "buffer" "LRequestGate$Text;" ∈ zz_ws := zz_in (List.mem_of_getElem? (i := 171) (by decide +kernel)) rfl
theorem zw_172 : Cond.fieldLink "RequestGate" (19 : Nat) "RequestGate" "path" "LRequestGate$PlainPath;" ∈ zz_ws := zz_in (List.mem_of_getElem? (i := 172) (by decide +kernel)) rfl
theorem zw_173 : Cond.fieldLink "RequestGate" (26 : Nat) "RequestGate" "layer" "LRequestGate$Layer;" ∈ zz_ws := zz_in (List.mem_of_getElem? (i := 173) (by decide +kernel)) rfl
theorem zw_174 : Cond.fieldLink "RequestGate" (33 : Nat) "RequestGate" "conditions" "LRequestGate$Conditions;" ∈ zz_ws := zz_in (List.mem_of_getElem? (i := 174) (by decide +kernel)) rfl
theorem zw_175 : Cond.fieldLink "RequestGate" (40 : Nat) "RequestGate" "inclusions" "LRequestGate$Roles;" ∈ zz_ws := zz_in (List.mem_of_getElem? (i := 175) (by decide +kernel)) rfl
theorem zw_176 : Cond.fieldLink "RequestGate" (47 : Nat) "RequestGate" "rules" "Ljava/util/ArrayList;" ∈ zz_ws := zz_in (List.mem_of_getElem? (i := 176) (by decide +kernel)) rfl
theorem zw_177 : Cond.fieldLink "RequestGate" (51 : Nat) "RequestGate" "users" "Ljava/util/ArrayList;" ∈ zz_ws := zz_in (List.mem_of_getElem? (i := 177) (by decide +kernel)) rfl
theorem zw_178 : Cond.fieldLink "RequestGate" (54 : Nat) "RequestGate" "services" "Ljava/util/ArrayList;" ∈ zz_ws := zz_in (List.mem_of_getElem? (i := 178) (by decide +kernel)) rfl
theorem zw_179 : Cond.fieldLink "RequestGate" (60 : Nat) "RequestGate" "sessions" "LRequestGate$Tickets;" ∈ zz_ws := zz_in (List.mem_of_getElem? (i := 179) (by decide +kernel)) rfl
theorem zw_180 : Cond.fieldLink "RequestGate" (64 : Nat) "RequestGate" "memory" "LRequestGate$Tickets;" ∈ zz_ws := zz_in (List.mem_of_getElem? (i := 180) (by decide +kernel)) rfl
theorem zw_181 : Cond.fieldLink "RequestGate" (67 : Nat) "RequestGate" "subject" "I" ∈ zz_ws := zz_in (List.mem_of_getElem? (i := 181) (by decide +kernel)) rfl
theorem zw_182 : Cond.fieldLink "RequestGate" (186 : Nat) "RequestGate" "requestIsOpen" "Z" ∈ zz_ws := zz_in (List.mem_of_getElem? (i := 182) (by decide +kernel)) rfl
theorem zw_183 : Cond.fieldLink "RequestGate" (134 : Nat) "RequestGate" "time" "I" ∈ zz_ws := zz_in (List.mem_of_getElem? (i := 183) (by decide +kernel)) rfl
theorem zw_184 : Cond.fieldLink "RequestGate" (256 : Nat) "RequestGate" "drawn" "I" ∈ zz_ws := zz_in (List.mem_of_getElem? (i := 184) (by decide +kernel)) rfl
theorem zw_185 : Cond.fieldLink "RequestGate" (250 : Nat) "RequestGate" "opened" "I" ∈ zz_ws := zz_in (List.mem_of_getElem? (i := 185) (by decide +kernel)) rfl
theorem zw_186 : Cond.fieldLink "RequestGate" (220 : Nat) "RequestGate" "bodiesRun" "I" ∈ zz_ws := zz_in (List.mem_of_getElem? (i := 186) (by decide +kernel)) rfl
theorem zw_187 : Cond.fieldLink "RequestGate" (223 : Nat) "RequestGate" "bodiesBarred" "I" ∈ zz_ws := zz_in (List.mem_of_getElem? (i := 187) (by decide +kernel)) rfl
theorem zw_188 : Cond.fieldLink "RequestGate" (253 : Nat) "RequestGate" "thefts" "I" ∈ zz_ws := zz_in (List.mem_of_getElem? (i := 188) (by decide +kernel)) rfl
theorem zw_189 : Cond.fieldLink "RequestGate" (153 : Nat) "RequestGate" "lockings" "I" ∈ zz_ws := zz_in (List.mem_of_getElem? (i := 189) (by decide +kernel)) rfl
theorem zw_190 : Cond.laysFinal "RequestGate" "RequestGate" "buffer" "LRequestGate$Text;" ∈ zz_ws := zz_in (List.mem_of_getElem? (i := 190) (by decide +kernel)) rfl
theorem zw_192 : Cond.laysFinal "RequestGate" "RequestGate" "path" "LRequestGate$PlainPath;" ∈ zz_ws := zz_in (List.mem_of_getElem? (i := 192) (by decide +kernel)) rfl
theorem zw_194 : Cond.laysFinal "RequestGate" "RequestGate" "layer" "LRequestGate$Layer;" ∈ zz_ws := zz_in (List.mem_of_getElem? (i := 194) (by decide +kernel)) rfl
theorem zw_196 : Cond.laysFinal "RequestGate" "RequestGate" "conditions" "LRequestGate$Conditions;" ∈ zz_ws := zz_in (List.mem_of_getElem? (i := 196) (by decide +kernel)) rfl
theorem zw_198 : Cond.laysFinal "RequestGate" "RequestGate" "inclusions" "LRequestGate$Roles;" ∈ zz_ws := zz_in (List.mem_of_getElem? (i := 198) (by decide +kernel)) rfl
theorem zw_200 : Cond.laysFinal "RequestGate" "RequestGate" "rules" "Ljava/util/ArrayList;" ∈ zz_ws := zz_in (List.mem_of_getElem? (i := 200) (by decide +kernel)) rfl
theorem zw_202 : Cond.laysFinal "RequestGate" "RequestGate" "users" "Ljava/util/ArrayList;" ∈ zz_ws := zz_in (List.mem_of_getElem? (i := 202) (by decide +kernel)) rfl
theorem zw_204 : Cond.laysFinal "RequestGate" "RequestGate" "services" "Ljava/util/ArrayList;" ∈ zz_ws := zz_in (List.mem_of_getElem? (i := 204) (by decide +kernel)) rfl
theorem zw_206 : Cond.laysFinal "RequestGate" "RequestGate" "sessions" "LRequestGate$Tickets;" ∈ zz_ws := zz_in (List.mem_of_getElem? (i := 206) (by decide +kernel)) rfl
theorem zw_208 : Cond.laysFinal "RequestGate" "RequestGate" "memory" "LRequestGate$Tickets;" ∈ zz_ws := zz_in (List.mem_of_getElem? (i := 208) (by decide +kernel)) rfl
theorem zw_210 : Cond.lays "RequestGate" "RequestGate" "subject" "I" ∈ zz_ws := zz_in (List.mem_of_getElem? (i := 210) (by decide +kernel)) rfl
theorem zw_212 : Cond.lays "RequestGate" "RequestGate" "requestIsOpen" "Z" ∈ zz_ws := zz_in (List.mem_of_getElem? (i := 212) (by decide +kernel)) rfl
theorem zw_214 : Cond.lays "RequestGate" "RequestGate" "time" "I" ∈ zz_ws := zz_in (List.mem_of_getElem? (i := 214) (by decide +kernel)) rfl
theorem zw_216 : Cond.lays "RequestGate" "RequestGate" "drawn" "I" ∈ zz_ws := zz_in (List.mem_of_getElem? (i := 216) (by decide +kernel)) rfl
theorem zw_218 : Cond.lays "RequestGate" "RequestGate" "opened" "I" ∈ zz_ws := zz_in (List.mem_of_getElem? (i := 218) (by decide +kernel)) rfl
theorem zw_220 : Cond.lays "RequestGate" "RequestGate" "bodiesRun" "I" ∈ zz_ws := zz_in (List.mem_of_getElem? (i := 220) (by decide +kernel)) rfl
theorem zw_222 : Cond.lays "RequestGate" "RequestGate" "bodiesBarred" "I" ∈ zz_ws := zz_in (List.mem_of_getElem? (i := 222) (by decide +kernel)) rfl
theorem zw_224 : Cond.lays "RequestGate" "RequestGate" "thefts" "I" ∈ zz_ws := zz_in (List.mem_of_getElem? (i := 224) (by decide +kernel)) rfl
theorem zw_226 : Cond.lays "RequestGate" "RequestGate" "lockings" "I" ∈ zz_ws := zz_in (List.mem_of_getElem? (i := 226) (by decide +kernel)) rfl
theorem zw_229 : Cond.methodLink "RequestGateLaw" (13 : Nat) ({ cls := "RequestGate", name := "type", desc := "(I)Z" } : MethodName) ∈ zz_ws := zz_in (List.mem_of_getElem? (i := 229) (by decide +kernel)) rfl
theorem zw_230 : Cond.instanceMethod ({ cls := "RequestGate", name := "type", desc := "(I)Z" } : MethodName) ∈ zz_ws := zz_in (List.mem_of_getElem? (i := 230) (by decide +kernel)) rfl
theorem zw_231 : Cond.selects "RequestGate" ({ cls := "RequestGate", name := "type", desc := "(I)Z" } : MethodName) ({ cls := "RequestGate", name := "type", desc := "(I)Z" } : MethodName) ∈ zz_ws := zz_in (List.mem_of_getElem? (i := 231) (by decide +kernel)) rfl
theorem zw_232 : Cond.code ({ cls := "RequestGate", name := "type", desc := "(I)Z" } : MethodName) prog_1_method_2_code (2 : Nat) (Option.some FieldType.boolean) ∈ zz_ws := zz_in (List.mem_of_getElem? (i := 232) (by decide +kernel)) rfl
theorem zw_233 : Cond.methodLink "RequestGate" (71 : Nat) ({ cls := "RequestGate$Text", name := "append", desc := "(I)Z" } : MethodName) ∈ zz_ws := zz_in (List.mem_of_getElem? (i := 233) (by decide +kernel)) rfl
theorem zw_234 : Cond.instanceMethod ({ cls := "RequestGate$Text", name := "append", desc := "(I)Z" } : MethodName) ∈ zz_ws := zz_in (List.mem_of_getElem? (i := 234) (by decide +kernel)) rfl
theorem zw_235 : Cond.selects "RequestGate$Text" ({ cls := "RequestGate$Text", name := "append", desc := "(I)Z" } : MethodName) ({ cls := "RequestGate$Text", name := "append", desc := "(I)Z" } : MethodName) ∈ zz_ws := zz_in (List.mem_of_getElem? (i := 235) (by decide +kernel)) rfl
theorem zw_236 : Cond.code ({ cls := "RequestGate$Text", name := "append", desc := "(I)Z" } : MethodName) prog_9_method_3_code (2 : Nat) (Option.some FieldType.boolean) ∈ zz_ws := zz_in (List.mem_of_getElem? (i := 236) (by decide +kernel)) rfl
theorem zw_237 : Cond.methodLink "RequestGate$Text" (15 : Nat) ({ cls := "RequestGate$Text", name := "isCode", desc := "(I)Z" } : MethodName) ∈ zz_ws := zz_in (List.mem_of_getElem? (i := 237) (by decide +kernel)) rfl
theorem zw_238 : Cond.static ({ cls := "RequestGate$Text", name := "isCode", desc := "(I)Z" } : MethodName) ∈ zz_ws := zz_in (List.mem_of_getElem? (i := 238) (by decide +kernel)) rfl
theorem zw_239 : Cond.code ({ cls := "RequestGate$Text", name := "isCode", desc := "(I)Z" } : MethodName) prog_9_method_2_code (1 : Nat) (Option.some FieldType.boolean) ∈ zz_ws := zz_in (List.mem_of_getElem? (i := 239) (by decide +kernel)) rfl
theorem zw_240 : Cond.methodLink "RequestGateLaw" (18 : Nat) ({ cls := "RequestGate", name := "clear", desc := "()V" } : MethodName) ∈ zz_ws := zz_in (List.mem_of_getElem? (i := 240) (by decide +kernel)) rfl
theorem zw_241 : Cond.instanceMethod ({ cls := "RequestGate", name := "clear", desc := "()V" } : MethodName) ∈ zz_ws := zz_in (List.mem_of_getElem? (i := 241) (by decide +kernel)) rfl
theorem zw_242 : Cond.selects "RequestGate" ({ cls := "RequestGate", name := "clear", desc := "()V" } : MethodName) ({ cls := "RequestGate", name := "clear", desc := "()V" } : MethodName) ∈ zz_ws := zz_in (List.mem_of_getElem? (i := 242) (by decide +kernel)) rfl
theorem zw_243 : Cond.code ({ cls := "RequestGate", name := "clear", desc := "()V" } : MethodName) prog_1_method_3_code (1 : Nat) (none : Option FieldType) ∈ zz_ws := zz_in (List.mem_of_getElem? (i := 243) (by decide +kernel)) rfl
theorem zw_244 : Cond.methodLink "RequestGate" (75 : Nat) ({ cls := "RequestGate$Text", name := "empty", desc := "()V" } : MethodName) ∈ zz_ws := zz_in (List.mem_of_getElem? (i := 244) (by decide +kernel)) rfl
theorem zw_245 : Cond.instanceMethod ({ cls := "RequestGate$Text", name := "empty", desc := "()V" } : MethodName) ∈ zz_ws := zz_in (List.mem_of_getElem? (i := 245) (by decide +kernel)) rfl
theorem zw_246 : Cond.selects "RequestGate$Text" ({ cls := "RequestGate$Text", name := "empty", desc := "()V" } : MethodName) ({ cls := "RequestGate$Text", name := "empty", desc := "()V" } : MethodName) ∈ zz_ws := zz_in (List.mem_of_getElem? (i := 246) (by decide +kernel)) rfl
theorem zw_247 : Cond.code ({ cls := "RequestGate$Text", name := "empty", desc := "()V" } : MethodName) prog_9_method_4_code (1 : Nat) (none : Option FieldType) ∈ zz_ws := zz_in (List.mem_of_getElem? (i := 247) (by decide +kernel)) rfl
theorem zw_248 : Cond.methodLink "RequestGateLaw" (22 : Nat) ({ cls := "RequestGate", name := "expression", desc := "(III)I" } : MethodName) ∈ zz_ws := zz_in (List.mem_of_getElem? (i := 248) (by decide +kernel)) rfl
theorem zw_249 : Cond.instanceMethod ({ cls := "RequestGate", name := "expression", desc := "(III)I" } : MethodName) ∈ zz_ws := zz_in (List.mem_of_getElem? (i := 249) (by decide +kernel)) rfl
theorem zw_250 : Cond.selects "RequestGate" ({ cls := "RequestGate", name := "expression", desc := "(III)I" } : MethodName) ({ cls := "RequestGate", name := "expression", desc := "(III)I" } : MethodName) ∈ zz_ws := zz_in (List.mem_of_getElem? (i := 250) (by decide +kernel)) rfl
theorem zw_251 : Cond.code ({ cls := "RequestGate", name := "expression", desc := "(III)I" } : MethodName) prog_1_method_4_code (4 : Nat) (Option.some FieldType.int) ∈ zz_ws := zz_in (List.mem_of_getElem? (i := 251) (by decide +kernel)) rfl
theorem zw_252 : Cond.methodLink "RequestGate" (78 : Nat) ({ cls := "RequestGate$Conditions", name := "add", desc := "(III)I" } : MethodName) ∈ zz_ws := zz_in (List.mem_of_getElem? (i := 252) (by decide +kernel)) rfl
theorem zw_253 : Cond.instanceMethod ({ cls := "RequestGate$Conditions", name := "add", desc := "(III)I" } : MethodName) ∈ zz_ws := zz_in (List.mem_of_getElem? (i := 253) (by decide +kernel)) rfl
theorem zw_254 : Cond.selects "RequestGate$Conditions" ({ cls := "RequestGate$Conditions", name := "add", desc := "(III)I" } : MethodName) ({ cls := "RequestGate$Conditions", name := "add", desc := "(III)I" } : MethodName) ∈ zz_ws := zz_in (List.mem_of_getElem? (i := 254) (by decide +kernel)) rfl
theorem zw_255 : Cond.code ({ cls := "RequestGate$Conditions", name := "add", desc := "(III)I" } : MethodName) prog_2_method_3_code (4 : Nat) (Option.some FieldType.int) ∈ zz_ws := zz_in (List.mem_of_getElem? (i := 255) (by decide +kernel)) rfl
theorem zw_256 : Cond.methodLink "RequestGate$Conditions" (28 : Nat) ({ cls := "RequestGate$Conditions", name := "canTake", desc := "(III)Z" } : MethodName) ∈ zz_ws := zz_in (List.mem_of_getElem? (i := 256) (by decide +kernel)) rfl
theorem zw_258 : Cond.instanceMethod ({ cls := "RequestGate$Conditions", name := "canTake", desc := "(III)Z" } : MethodName) ∈ zz_ws := zz_in (List.mem_of_getElem? (i := 258) (by decide +kernel)) rfl
theorem zw_259 : Cond.code ({ cls := "RequestGate$Conditions", name := "canTake", desc := "(III)Z" } : MethodName) prog_2_method_4_code (4 : Nat) (Option.some FieldType.boolean) ∈ zz_ws := zz_in (List.mem_of_getElem? (i := 259) (by decide +kernel)) rfl
theorem zw_260 : Cond.methodLink "RequestGate$Conditions" (32 : Nat) ({ cls := "RequestGate$Roles", name := "isRole", desc := "(I)Z" } : MethodName) ∈ zz_ws := zz_in (List.mem_of_getElem? (i := 260) (by decide +kernel)) rfl
theorem zw_261 : Cond.static ({ cls := "RequestGate$Roles", name := "isRole", desc := "(I)Z" } : MethodName) ∈ zz_ws := zz_in (List.mem_of_getElem? (i := 261) (by decide +kernel)) rfl
theorem zw_262 : Cond.code ({ cls := "RequestGate$Roles", name := "isRole", desc := "(I)Z" } : MethodName) prog_6_method_2_code (1 : Nat) (Option.some FieldType.boolean) ∈ zz_ws := zz_in (List.mem_of_getElem? (i := 262) (by decide +kernel)) rfl
theorem zw_263 : Cond.methodLink "RequestGate$Conditions" (38 : Nat) ({ cls := "RequestGate$Conditions", name := "has", desc := "(I)Z" } : MethodName) ∈ zz_ws := zz_in (List.mem_of_getElem? (i := 263) (by decide +kernel)) rfl
theorem zw_264 : Cond.instanceMethod ({ cls := "RequestGate$Conditions", name := "has", desc := "(I)Z" } : MethodName) ∈ zz_ws := zz_in (List.mem_of_getElem? (i := 264) (by decide +kernel)) rfl
theorem zw_265 : Cond.selects "RequestGate$Conditions" ({ cls := "RequestGate$Conditions", name := "has", desc := "(I)Z" } : MethodName) ({ cls := "RequestGate$Conditions", name := "has", desc := "(I)Z" } : MethodName) ∈ zz_ws := zz_in (List.mem_of_getElem? (i := 265) (by decide +kernel)) rfl
theorem zw_266 : Cond.code ({ cls := "RequestGate$Conditions", name := "has", desc := "(I)Z" } : MethodName) prog_2_method_2_code (2 : Nat) (Option.some FieldType.boolean) ∈ zz_ws := zz_in (List.mem_of_getElem? (i := 266) (by decide +kernel)) rfl
theorem zw_267 : Cond.methodLink "RequestGateLaw" (27 : Nat) ({ cls := "RequestGate", name := "rule", desc := "(II)I" } : MethodName) ∈ zz_ws := zz_in (List.mem_of_getElem? (i := 267) (by decide +kernel)) rfl
theorem zw_268 : Cond.instanceMethod ({ cls := "RequestGate", name := "rule", desc := "(II)I" } : MethodName) ∈ zz_ws := zz_in (List.mem_of_getElem? (i := 268) (by decide +kernel)) rfl
theorem zw_269 : Cond.selects "RequestGate" ({ cls := "RequestGate", name := "rule", desc := "(II)I" } : MethodName) ({ cls := "RequestGate", name := "rule", desc := "(II)I" } : MethodName) ∈ zz_ws := zz_in (List.mem_of_getElem? (i := 269) (by decide +kernel)) rfl
theorem zw_270 : Cond.code ({ cls := "RequestGate", name := "rule", desc := "(II)I" } : MethodName) prog_1_method_5_code (3 : Nat) (Option.some FieldType.int) ∈ zz_ws := zz_in (List.mem_of_getElem? (i := 270) (by decide +kernel)) rfl
theorem zw_271 : Cond.methodLink "RequestGate" (82 : Nat) ({ cls := "java/util/ArrayList", name := "size", desc := "()I" } : MethodName) ∈ zz_ws := zz_in (List.mem_of_getElem? (i := 271) (by decide +kernel)) rfl
theorem zw_272 : Cond.instanceMethod ({ cls := "java/util/ArrayList", name := "size", desc := "()I" } : MethodName) ∈ zz_ws := zz_in (List.mem_of_getElem? (i := 272) (by decide +kernel)) rfl
theorem zw_273 : Cond.selects "java/util/ArrayList" ({ cls := "java/util/ArrayList", name := "size", desc := "()I" } : MethodName) ({ cls := "java/util/ArrayList", name := "size", desc := "()I" } : MethodName) ∈ zz_ws := zz_in (List.mem_of_getElem? (i := 273) (by decide +kernel)) rfl
theorem zw_274 : Cond.code ({ cls := "java/util/ArrayList", name := "size", desc := "()I" } : MethodName) prog_22_method_8_code (1 : Nat) (Option.some FieldType.int) ∈ zz_ws := zz_in (List.mem_of_getElem? (i := 274) (by decide +kernel)) rfl
theorem zw_275 : Cond.methodLink "RequestGate" (86 : Nat) ({ cls := "RequestGate$Conditions", name := "has", desc := "(I)Z" } : MethodName) ∈ zz_ws := zz_in (List.mem_of_getElem? (i := 275) (by decide +kernel)) rfl
theorem zw_276 : Cond.methodLink "RequestGate" (89 : Nat) ({ cls := "RequestGate$Rule", name := "isPattern", desc := "(LRequestGate$Text;)Z" } : MethodName) ∈ zz_ws := zz_in (List.mem_of_getElem? (i := 276) (by decide +kernel)) rfl
theorem zw_277 : Cond.static ({ cls := "RequestGate$Rule", name := "isPattern", desc := "(LRequestGate$Text;)Z" } : MethodName) ∈ zz_ws := zz_in (List.mem_of_getElem? (i := 277) (by decide +kernel)) rfl
theorem zw_278 : Cond.code ({ cls := "RequestGate$Rule", name := "isPattern", desc := "(LRequestGate$Text;)Z" } : MethodName) prog_7_method_3_code (3 : Nat) (Option.some FieldType.boolean) ∈ zz_ws := zz_in (List.mem_of_getElem? (i := 278) (by decide +kernel)) rfl
theorem zw_279 : Cond.methodLink "RequestGate$Rule" (32 : Nat) ({ cls := "RequestGate$Text", name := "at", desc := "(I)C" } : MethodName) ∈ zz_ws := zz_in (List.mem_of_getElem? (i := 279) (by decide +kernel)) rfl
theorem zw_280 : Cond.instanceMethod ({ cls := "RequestGate$Text", name := "at", desc := "(I)C" } : MethodName) ∈ zz_ws := zz_in (List.mem_of_getElem? (i := 280) (by decide +kernel)) rfl
theorem zw_281 : Cond.selects "RequestGate$Text" ({ cls := "RequestGate$Text", name := "at", desc := "(I)C" } : MethodName) ({ cls := "RequestGate$Text", name := "at", desc := "(I)C" } : MethodName) ∈ zz_ws := zz_in (List.mem_of_getElem? (i := 281) (by decide +kernel)) rfl
theorem zw_282 : Cond.code ({ cls := "RequestGate$Text", name := "at", desc := "(I)C" } : MethodName) prog_9_method_5_code (2 : Nat) (Option.some FieldType.char) ∈ zz_ws := zz_in (List.mem_of_getElem? (i := 282) (by decide +kernel)) rfl
theorem zw_283 : Cond.methodLink "RequestGate$Rule" (43 : Nat) ({ cls := "RequestGate$Text", name := "holds", desc := "(C)Z" } : MethodName) ∈ zz_ws := zz_in (List.mem_of_getElem? (i := 283) (by decide +kernel)) rfl
theorem zw_284 : Cond.instanceMethod ({ cls := "RequestGate$Text", name := "holds", desc := "(C)Z" } : MethodName) ∈ zz_ws := zz_in (List.mem_of_getElem? (i := 284) (by decide +kernel)) rfl
theorem zw_285 : Cond.selects "RequestGate$Text" ({ cls := "RequestGate$Text", name := "holds", desc := "(C)Z" } : MethodName) ({ cls := "RequestGate$Text", name := "holds", desc := "(C)Z" } : MethodName) ∈ zz_ws := zz_in (List.mem_of_getElem? (i := 285) (by decide +kernel)) rfl
theorem zw_286 : Cond.code ({ cls := "RequestGate$Text", name := "holds", desc := "(C)Z" } : MethodName) prog_9_method_7_code (2 : Nat) (Option.some FieldType.boolean) ∈ zz_ws := zz_in (List.mem_of_getElem? (i := 286) (by decide +kernel)) rfl
theorem zw_287 : Cond.methodLink "RequestGate$Text" (27 : Nat) ({ cls := "RequestGate$Text", name := "find", desc := "(CII)I" } : MethodName) ∈ zz_ws := zz_in (List.mem_of_getElem? (i := 287) (by decide +kernel)) rfl
theorem zw_288 : Cond.instanceMethod ({ cls := "RequestGate$Text", name := "find", desc := "(CII)I" } : MethodName) ∈ zz_ws := zz_in (List.mem_of_getElem? (i := 288) (by decide +kernel)) rfl
theorem zw_289 : Cond.selects "RequestGate$Text" ({ cls := "RequestGate$Text", name := "find", desc := "(CII)I" } : MethodName) ({ cls := "RequestGate$Text", name := "find", desc := "(CII)I" } : MethodName) ∈ zz_ws := zz_in (List.mem_of_getElem? (i := 289) (by decide +kernel)) rfl
theorem zw_290 : Cond.code ({ cls := "RequestGate$Text", name := "find", desc := "(CII)I" } : MethodName) prog_9_method_6_code (5 : Nat) (Option.some FieldType.int) ∈ zz_ws := zz_in (List.mem_of_getElem? (i := 290) (by decide +kernel)) rfl
theorem zw_291 : Cond.methodLink "RequestGate$Text" (23 : Nat) ({ cls := "RequestGate$Text", name := "at", desc := "(I)C" } : MethodName) ∈ zz_ws := zz_in (List.mem_of_getElem? (i := 291) (by decide +kernel)) rfl
theorem zw_292 : Cond.methodLink "RequestGate$Rule" (28 : Nat) ({ cls := "RequestGate$Text", name := "endsPieceAt", desc := "(I)Z" } : MethodName) ∈ zz_ws := zz_in (List.mem_of_getElem? (i := 292) (by decide +kernel)) rfl
theorem zw_293 : Cond.instanceMethod ({ cls := "RequestGate$Text", name := "endsPieceAt", desc := "(I)Z" } : MethodName) ∈ zz_ws := zz_in (List.mem_of_getElem? (i := 293) (by decide +kernel)) rfl
theorem zw_294 : Cond.selects "RequestGate$Text" ({ cls := "RequestGate$Text", name := "endsPieceAt", desc := "(I)Z" } : MethodName) ({ cls := "RequestGate$Text", name := "endsPieceAt", desc := "(I)Z" } : MethodName) ∈ zz_ws := zz_in (List.mem_of_getElem? (i := 294) (by decide +kernel)) rfl
theorem zw_295 : Cond.code ({ cls := "RequestGate$Text", name := "endsPieceAt", desc := "(I)Z" } : MethodName) prog_9_method_8_code (2 : Nat) (Option.some FieldType.boolean) ∈ zz_ws := zz_in (List.mem_of_getElem? (i := 295) (by decide +kernel)) rfl
theorem zw_296 : Cond.methodLink "RequestGate$Rule" (47 : Nat) ({ cls := "RequestGate$Rule", name := "isPiece", desc := "(LRequestGate$Text;II)Z" } : MethodName) ∈ zz_ws := zz_in (List.mem_of_getElem? (i := 296) (by decide +kernel)) rfl
theorem zw_297 : Cond.static ({ cls := "RequestGate$Rule", name := "isPiece", desc := "(LRequestGate$Text;II)Z" } : MethodName) ∈ zz_ws := zz_in (List.mem_of_getElem? (i := 297) (by decide +kernel)) rfl
theorem zw_298 : Cond.code ({ cls := "RequestGate$Rule", name := "isPiece", desc := "(LRequestGate$Text;II)Z" } : MethodName) prog_7_method_4_code (4 : Nat) (Option.some FieldType.boolean) ∈ zz_ws := zz_in (List.mem_of_getElem? (i := 298) (by decide +kernel)) rfl
theorem zw_299 : Cond.classLink "RequestGate" (90 : Nat) "RequestGate$Rule" ∈ zz_ws := zz_in (List.mem_of_getElem? (i := 299) (by decide +kernel)) rfl
theorem zw_300 : Cond.instantiable "RequestGate$Rule" (3 : Nat) ∈ zz_ws := zz_in (List.mem_of_getElem? (i := 300) (by decide +kernel)) rfl
theorem zw_301 : Cond.methodLink "RequestGate" (95 : Nat) ({ cls := "RequestGate$Rule", name := "<init>", desc := "(LRequestGate$Text;II)V" } : MethodName) ∈ zz_ws := zz_in (List.mem_of_getElem? (i := 301) (by decide +kernel)) rfl
theorem zw_302 : Cond.instanceMethod ({ cls := "RequestGate$Rule", name := "<init>", desc := "(LRequestGate$Text;II)V" } : MethodName) ∈ zz_ws := zz_in (List.mem_of_getElem? (i := 302) (by decide +kernel)) rfl
theorem zw_303 : Cond.code ({ cls := "RequestGate$Rule", name := "<init>", desc := "(LRequestGate$Text;II)V" } : MethodName) prog_7_method_1_code (5 : Nat) (none : Option FieldType) ∈ zz_ws := zz_in (List.mem_of_getElem? (i := 303) (by decide +kernel)) rfl
theorem zw_304 : Cond.methodLink "RequestGate$Rule" (1 : Nat) ({ cls := "java/lang/Object", name := "<init>", desc := "()V" } : MethodName) ∈ zz_ws := zz_in (List.mem_of_getElem? (i := 304) (by decide +kernel)) rfl
theorem zw_305 : Cond.classLink "RequestGate$Rule" (7 : Nat) "RequestGate$Pieces" ∈ zz_ws := zz_in (List.mem_of_getElem? (i := 305) (by decide +kernel)) rfl
theorem zw_307 : Cond.methodLink "RequestGate$Rule" (36 : Nat) ({ cls := "RequestGate$Pieces", name := "write", desc := "(I)V" } : MethodName) ∈ zz_ws := zz_in (List.mem_of_getElem? (i := 307) (by decide +kernel)) rfl
theorem zw_308 : Cond.instanceMethod ({ cls := "RequestGate$Pieces", name := "write", desc := "(I)V" } : MethodName) ∈ zz_ws := zz_in (List.mem_of_getElem? (i := 308) (by decide +kernel)) rfl
theorem zw_309 : Cond.selects "RequestGate$Pieces" ({ cls := "RequestGate$Pieces", name := "write", desc := "(I)V" } : MethodName) ({ cls := "RequestGate$Pieces", name := "write", desc := "(I)V" } : MethodName) ∈ zz_ws := zz_in (List.mem_of_getElem? (i := 309) (by decide +kernel)) rfl
theorem zw_310 : Cond.code ({ cls := "RequestGate$Pieces", name := "write", desc := "(I)V" } : MethodName) prog_4_method_3_code (2 : Nat) (none : Option FieldType) ∈ zz_ws := zz_in (List.mem_of_getElem? (i := 310) (by decide +kernel)) rfl
theorem zw_311 : Cond.methodLink "RequestGate$Rule" (40 : Nat) ({ cls := "RequestGate$Pieces", name := "keepWritten", desc := "()V" } : MethodName) ∈ zz_ws := zz_in (List.mem_of_getElem? (i := 311) (by decide +kernel)) rfl
theorem zw_312 : Cond.instanceMethod ({ cls := "RequestGate$Pieces", name := "keepWritten", desc := "()V" } : MethodName) ∈ zz_ws := zz_in (List.mem_of_getElem? (i := 312) (by decide +kernel)) rfl
theorem zw_313 : Cond.selects "RequestGate$Pieces" ({ cls := "RequestGate$Pieces", name := "keepWritten", desc := "()V" } : MethodName) ({ cls := "RequestGate$Pieces", name := "keepWritten", desc := "()V" } : MethodName) ∈ zz_ws := zz_in (List.mem_of_getElem? (i := 313) (by decide +kernel)) rfl
theorem zw_314 : Cond.code ({ cls := "RequestGate$Pieces", name := "keepWritten", desc := "()V" } : MethodName) prog_4_method_6_code (1 : Nat) (none : Option FieldType) ∈ zz_ws := zz_in (List.mem_of_getElem? (i := 314) (by decide +kernel)) rfl
theorem zw_315 : Cond.fieldLink "RequestGate$Rule" (10 : Nat) "RequestGate$Rule" "pattern" "LRequestGate$Pieces;" ∈ zz_ws := zz_in (List.mem_of_getElem? (i := 315) (by decide +kernel)) rfl
theorem zw_316 : Cond.fieldLink "RequestGate" (226 : Nat) "RequestGate$Rule" "pattern" "LRequestGate$Pieces;" ∈ zz_ws := zz_in (List.mem_of_getElem? (i := 316) (by decide +kernel)) rfl
theorem zw_317 : Cond.fieldLink "RequestGate$Rule" (16 : Nat) "RequestGate$Rule" "expression" "I" ∈ zz_ws := zz_in (List.mem_of_getElem? (i := 317) (by decide +kernel)) rfl
theorem zw_318 : Cond.fieldLink "RequestGate" (272 : Nat) "RequestGate$Rule" "expression" "I" ∈ zz_ws := zz_in (List.mem_of_getElem? (i := 318) (by decide +kernel)) rfl
theorem zw_319 : Cond.fieldLink "RequestGate$Rule" (20 : Nat) "RequestGate$Rule" "methods" "I" ∈ zz_ws := zz_in (List.mem_of_getElem? (i := 319) (by decide +kernel)) rfl
theorem zw_320 : Cond.laysFinal "RequestGate$Rule" "RequestGate$Rule" "pattern" "LRequestGate$Pieces;" ∈ zz_ws := zz_in (List.mem_of_getElem? (i := 320) (by decide +kernel)) rfl
theorem zw_322 : Cond.laysFinal "RequestGate$Rule" "RequestGate$Rule" "expression" "I" ∈ zz_ws := zz_in (List.mem_of_getElem? (i := 322) (by decide +kernel)) rfl
theorem zw_324 : Cond.laysFinal "RequestGate$Rule" "RequestGate$Rule" "methods" "I" ∈ zz_ws := zz_in (List.mem_of_getElem? (i := 324) (by decide +kernel)) rfl
theorem zw_327 : Cond.methodLink "RequestGate" (98 : Nat) ({ cls := "java/util/ArrayList", name := "add", desc := "(Ljava/lang/Object;)Z" } : MethodName) ∈ zz_ws := zz_in (List.mem_of_getElem? (i := 327) (by decide +kernel)) rfl
theorem zw_328 : Cond.instanceMethod ({ cls := "java/util/ArrayList", name := "add", desc := "(Ljava/lang/Object;)Z" } : MethodName) ∈ zz_ws := zz_in (List.mem_of_getElem? (i := 328) (by decide +kernel)) rfl
theorem zw_329 : Cond.selects "java/util/ArrayList" ({ cls := "java/util/ArrayList", name := "add", desc := "(Ljava/lang/Object;)Z" } : MethodName) ({ cls := "java/util/ArrayList", name := "add", desc := "(Ljava/lang/Object;)Z" } : MethodName) ∈ zz_ws := zz_in (List.mem_of_getElem? (i := 329) (by decide +kernel)) rfl
theorem zw_330 : Cond.code ({ cls := "java/util/ArrayList", name := "add", desc := "(Ljava/lang/Object;)Z" } : MethodName) prog_22_method_25_code (2 : Nat) (Option.some FieldType.boolean) ∈ zz_ws := zz_in (List.mem_of_getElem? (i := 330) (by decide +kernel)) rfl
theorem zw_331 : Cond.methodLink "java/util/ArrayList" (131 : Nat) ({ cls := "java/util/ArrayList", name := "add", desc := "(Ljava/lang/Object;[Ljava/lang/Object;I)V" } : MethodName) ∈ zz_ws := zz_in (List.mem_of_getElem? (i := 331) (by decide +kernel)) rfl
theorem zw_333 : Cond.instanceMethod ({ cls := "java/util/ArrayList", name := "add", desc := "(Ljava/lang/Object;[Ljava/lang/Object;I)V" } : MethodName) ∈ zz_ws := zz_in (List.mem_of_getElem? (i := 333) (by decide +kernel)) rfl
theorem zw_334 : Cond.code ({ cls := "java/util/ArrayList", name := "add", desc := "(Ljava/lang/Object;[Ljava/lang/Object;I)V" } : MethodName) prog_22_method_24_code (4 : Nat) (none : Option FieldType) ∈ zz_ws := zz_in (List.mem_of_getElem? (i := 334) (by decide +kernel)) rfl
theorem zw_335 : Cond.methodLink "java/util/ArrayList" (129 : Nat) ({ cls := "java/util/ArrayList", name := "grow", desc := "()[Ljava/lang/Object;" } : MethodName) ∈ zz_ws := zz_in (List.mem_of_getElem? (i := 335) (by decide +kernel)) rfl
theorem zw_337 : Cond.instanceMethod ({ cls := "java/util/ArrayList", name := "grow", desc := "()[Ljava/lang/Object;" } : MethodName) ∈ zz_ws := zz_in (List.mem_of_getElem? (i := 337) (by decide +kernel)) rfl
theorem zw_338 : Cond.code ({ cls := "java/util/ArrayList", name := "grow", desc := "()[Ljava/lang/Object;" } : MethodName) prog_22_method_7_code (1 : Nat) (Option.some (FieldType.array (FieldType.object "java/lang/Object"))) ∈ zz_ws := zz_in (List.mem_of_getElem? (i := 338) (by decide +kernel)) rfl
theorem zw_339 : Cond.methodLink "java/util/ArrayList" (69 : Nat) ({ cls := "java/util/ArrayList", name := "grow", desc := "(I)[Ljava/lang/Object;" } : MethodName) ∈ zz_ws := zz_in (List.mem_of_getElem? (i := 339) (by decide +kernel)) rfl
theorem zw_341 : Cond.instanceMethod ({ cls := "java/util/ArrayList", name := "grow", desc := "(I)[Ljava/lang/Object;" } : MethodName) ∈ zz_ws := zz_in (List.mem_of_getElem? (i := 341) (by decide +kernel)) rfl
theorem zw_342 : Cond.code ({ cls := "java/util/ArrayList", name := "grow", desc := "(I)[Ljava/lang/Object;" } : MethodName) prog_22_method_6_code (4 : Nat) (Option.some (FieldType.array (FieldType.object "java/lang/Object"))) ∈ zz_ws := zz_in (List.mem_of_getElem? (i := 342) (by decide +kernel)) rfl
theorem zw_343 : Cond.methodLink "java/util/ArrayList" (73 : Nat) ({ cls := "jdk/internal/util/ArraysSupport", name := "newLength", desc := "(III)I" } : MethodName) ∈ zz_ws := zz_in (List.mem_of_getElem? (i := 343) (by decide +kernel)) rfl
theorem zw_344 : Cond.static ({ cls := "jdk/internal/util/ArraysSupport", name := "newLength", desc := "(III)I" } : MethodName) ∈ zz_ws := zz_in (List.mem_of_getElem? (i := 344) (by decide +kernel)) rfl
theorem zw_345 : Cond.code ({ cls := "jdk/internal/util/ArraysSupport", name := "newLength", desc := "(III)I" } : MethodName) prog_29_method_27_code (4 : Nat) (Option.some FieldType.int) ∈ zz_ws := zz_in (List.mem_of_getElem? (i := 345) (by decide +kernel)) rfl
theorem zw_346 : Cond.methodLink "jdk/internal/util/ArraysSupport" (194 : Nat) ({ cls := "java/lang/Math", name := "max", desc := "(II)I" } : MethodName) ∈ zz_ws := zz_in (List.mem_of_getElem? (i := 346) (by decide +kernel)) rfl
theorem zw_347 : Cond.static ({ cls := "java/lang/Math", name := "max", desc := "(II)I" } : MethodName) ∈ zz_ws := zz_in (List.mem_of_getElem? (i := 347) (by decide +kernel)) rfl
theorem zw_348 : Cond.code ({ cls := "java/lang/Math", name := "max", desc := "(II)I" } : MethodName) prog_18_method_65_code (2 : Nat) (Option.some FieldType.int) ∈ zz_ws := zz_in (List.mem_of_getElem? (i := 348) (by decide +kernel)) rfl
theorem zw_349 : Cond.constant "jdk/internal/util/ArraysSupport" (200 : Nat) (2147483639 : Int32) ∈ zz_ws := zz_in (List.mem_of_getElem? (i := 349) (by decide +kernel)) rfl
theorem zw_350 : Cond.methodLink "jdk/internal/util/ArraysSupport" (201 : Nat) ({ cls := "jdk/internal/util/ArraysSupport", name := "hugeLength", desc := "(II)I" } : MethodName) ∈ zz_ws := zz_in (List.mem_of_getElem? (i := 350) (by decide +kernel)) rfl
theorem zw_351 : Cond.static ({ cls := "jdk/internal/util/ArraysSupport", name := "hugeLength", desc := "(II)I" } : MethodName) ∈ zz_ws := zz_in (List.mem_of_getElem? (i := 351) (by decide +kernel)) rfl
theorem zw_352 : Cond.code ({ cls := "jdk/internal/util/ArraysSupport", name := "hugeLength", desc := "(II)I" } : MethodName) prog_29_method_28_code (3 : Nat) (Option.some FieldType.int) ∈ zz_ws := zz_in (List.mem_of_getElem? (i := 352) (by decide +kernel)) rfl
theorem zw_353 : Cond.methodLink "java/util/ArrayList" (66 : Nat) ({ cls := "java/util/Arrays", name := "copyOf", desc := "([Ljava/lang/Object;I)[Ljava/lang/Object;" } : MethodName) ∈ zz_ws := zz_in (List.mem_of_getElem? (i := 353) (by decide +kernel)) rfl
theorem zw_354 : Cond.static ({ cls := "java/util/Arrays", name := "copyOf", desc := "([Ljava/lang/Object;I)[Ljava/lang/Object;" } : MethodName) ∈ zz_ws := zz_in (List.mem_of_getElem? (i := 354) (by decide +kernel)) rfl
theorem zw_355 : Cond.code ({ cls := "java/util/Arrays", name := "copyOf", desc := "([Ljava/lang/Object;I)[Ljava/lang/Object;" } : MethodName) prog_23_method_119_code (2 : Nat) (Option.some (FieldType.array (FieldType.object "java/lang/Object"))) ∈ zz_ws := zz_in (List.mem_of_getElem? (i := 355) (by decide +kernel)) rfl
theorem zw_356 : Cond.methodLink "java/util/Arrays" (86 : Nat) ({ cls := "java/lang/Object", name := "getClass", desc := "()Ljava/lang/Class;" } : MethodName) ∈ zz_ws := zz_in (List.mem_of_getElem? (i := 356) (by decide +kernel)) rfl
theorem zw_357 : Cond.instanceMethod ({ cls := "java/lang/Object", name := "getClass", desc := "()Ljava/lang/Class;" } : MethodName) ∈ zz_ws := zz_in (List.mem_of_getElem? (i := 357) (by decide +kernel)) rfl
theorem zw_359 : Cond.selects "RequestGate" ({ cls := "java/lang/Object", name := "getClass", desc := "()Ljava/lang/Class;" } : MethodName) ({ cls := "java/lang/Object", name := "getClass", desc := "()Ljava/lang/Class;" } : MethodName) ∈ zz_ws := zz_in (List.mem_of_getElem? (i := 359) (by decide +kernel)) rfl
theorem zw_360 : Cond.selects "RequestGate$Conditions" ({ cls := "java/lang/Object", name := "getClass", desc := "()Ljava/lang/Class;" } : MethodName) ({ cls := "java/lang/Object", name := "getClass", desc := "()Ljava/lang/Class;" } : MethodName) ∈ zz_ws := zz_in (List.mem_of_getElem? (i := 360) (by decide +kernel)) rfl
theorem zw_361 : Cond.selects "RequestGate$Layer" ({ cls := "java/lang/Object", name := "getClass", desc := "()Ljava/lang/Class;" } : MethodName) ({ cls := "java/lang/Object", name := "getClass", desc := "()Ljava/lang/Class;" } : MethodName) ∈ zz_ws := zz_in (List.mem_of_getElem? (i := 361) (by decide +kernel)) rfl
theorem zw_362 : Cond.selects "RequestGate$Pieces" ({ cls := "java/lang/Object", name := "getClass", desc := "()Ljava/lang/Class;" } : MethodName) ({ cls := "java/lang/Object", name := "getClass", desc := "()Ljava/lang/Class;" } : MethodName) ∈ zz_ws := zz_in (List.mem_of_getElem? (i := 362) (by decide +kernel)) rfl
theorem zw_363 : Cond.selects "RequestGate$PlainPath" ({ cls := "java/lang/Object", name := "getClass", desc := "()Ljava/lang/Class;" } : MethodName) ({ cls := "java/lang/Object", name := "getClass", desc := "()Ljava/lang/Class;" } : MethodName) ∈ zz_ws := zz_in (List.mem_of_getElem? (i := 363) (by decide +kernel)) rfl
theorem zw_364 : Cond.selects "RequestGate$Roles" ({ cls := "java/lang/Object", name := "getClass", desc := "()Ljava/lang/Class;" } : MethodName) ({ cls := "java/lang/Object", name := "getClass", desc := "()Ljava/lang/Class;" } : MethodName) ∈ zz_ws := zz_in (List.mem_of_getElem? (i := 364) (by decide +kernel)) rfl
theorem zw_365 : Cond.selects "RequestGate$Rule" ({ cls := "java/lang/Object", name := "getClass", desc := "()Ljava/lang/Class;" } : MethodName) ({ cls := "java/lang/Object", name := "getClass", desc := "()Ljava/lang/Class;" } : MethodName) ∈ zz_ws := zz_in (List.mem_of_getElem? (i := 365) (by decide +kernel)) rfl
theorem zw_366 : Cond.selects "RequestGate$Service" ({ cls := "java/lang/Object", name := "getClass", desc := "()Ljava/lang/Class;" } : MethodName) ({ cls := "java/lang/Object", name := "getClass", desc := "()Ljava/lang/Class;" } : MethodName) ∈ zz_ws := zz_in (List.mem_of_getElem? (i := 366) (by decide +kernel)) rfl
theorem zw_367 : Cond.selects "RequestGate$Text" ({ cls := "java/lang/Object", name := "getClass", desc := "()Ljava/lang/Class;" } : MethodName) ({ cls := "java/lang/Object", name := "getClass", desc := "()Ljava/lang/Class;" } : MethodName) ∈ zz_ws := zz_in (List.mem_of_getElem? (i := 367) (by decide +kernel)) rfl
theorem zw_368 : Cond.selects "RequestGate$Ticket" ({ cls := "java/lang/Object", name := "getClass", desc := "()Ljava/lang/Class;" } : MethodName) ({ cls := "java/lang/Object", name := "getClass", desc := "()Ljava/lang/Class;" } : MethodName) ∈ zz_ws := zz_in (List.mem_of_getElem? (i := 368) (by decide +kernel)) rfl
theorem zw_369 : Cond.selects "RequestGate$Tickets" ({ cls := "java/lang/Object", name := "getClass", desc := "()Ljava/lang/Class;" } : MethodName) ({ cls := "java/lang/Object", name := "getClass", desc := "()Ljava/lang/Class;" } : MethodName) ∈ zz_ws := zz_in (List.mem_of_getElem? (i := 369) (by decide +kernel)) rfl
theorem zw_370 : Cond.selects "RequestGate$User" ({ cls := "java/lang/Object", name := "getClass", desc := "()Ljava/lang/Class;" } : MethodName) ({ cls := "java/lang/Object", name := "getClass", desc := "()Ljava/lang/Class;" } : MethodName) ∈ zz_ws := zz_in (List.mem_of_getElem? (i := 370) (by decide +kernel)) rfl
theorem zw_371 : Cond.selects "RequestGateModel" ({ cls := "java/lang/Object", name := "getClass", desc := "()Ljava/lang/Class;" } : MethodName) ({ cls := "java/lang/Object", name := "getClass", desc := "()Ljava/lang/Class;" } : MethodName) ∈ zz_ws := zz_in (List.mem_of_getElem? (i := 371) (by decide +kernel)) rfl
theorem zw_372 : Cond.selects "java/util/ArrayList" ({ cls := "java/lang/Object", name := "getClass", desc := "()Ljava/lang/Class;" } : MethodName) ({ cls := "java/lang/Object", name := "getClass", desc := "()Ljava/lang/Class;" } : MethodName) ∈ zz_ws := zz_in (List.mem_of_getElem? (i := 372) (by decide +kernel)) rfl
theorem zw_373 : Cond.native ({ cls := "java/lang/Object", name := "getClass", desc := "()Ljava/lang/Class;" } : MethodName) ∈ zz_ws := zz_in (List.mem_of_getElem? (i := 373) (by decide +kernel)) rfl
theorem zw_374 : Cond.methodLink "java/util/Arrays" (300 : Nat) ({ cls := "java/util/Arrays", name := "copyOf", desc := "([Ljava/lang/Object;ILjava/lang/Class;)[Ljava/lang/Object;" } : MethodName) ∈ zz_ws := zz_in (List.mem_of_getElem? (i := 374) (by decide +kernel)) rfl
theorem zw_375 : Cond.static ({ cls := "java/util/Arrays", name := "copyOf", desc := "([Ljava/lang/Object;ILjava/lang/Class;)[Ljava/lang/Object;" } : MethodName) ∈ zz_ws := zz_in (List.mem_of_getElem? (i := 375) (by decide +kernel)) rfl
theorem zw_376 : Cond.code ({ cls := "java/util/Arrays", name := "copyOf", desc := "([Ljava/lang/Object;ILjava/lang/Class;)[Ljava/lang/Object;" } : MethodName) prog_23_method_120_code (4 : Nat) (Option.some (FieldType.array (FieldType.object "java/lang/Object"))) ∈ zz_ws := zz_in (List.mem_of_getElem? (i := 376) (by decide +kernel)) rfl
theorem zw_377 : Cond.classLink "java/util/Arrays" (110 : Nat) "[Ljava/lang/Object;" ∈ zz_ws := zz_in (List.mem_of_getElem? (i := 377) (by decide +kernel)) rfl
theorem zw_379 : Cond.classLink "java/util/Arrays" (2 : Nat) "java/lang/Object" ∈ zz_ws := zz_in (List.mem_of_getElem? (i := 379) (by decide +kernel)) rfl
theorem zw_380 : Cond.methodLink "java/util/Arrays" (304 : Nat) ({ cls := "java/lang/Math", name := "min", desc := "(II)I" } : MethodName) ∈ zz_ws := zz_in (List.mem_of_getElem? (i := 380) (by decide +kernel)) rfl
theorem zw_381 : Cond.static ({ cls := "java/lang/Math", name := "min", desc := "(II)I" } : MethodName) ∈ zz_ws := zz_in (List.mem_of_getElem? (i := 381) (by decide +kernel)) rfl
theorem zw_382 : Cond.code ({ cls := "java/lang/Math", name := "min", desc := "(II)I" } : MethodName) prog_18_method_69_code (2 : Nat) (Option.some FieldType.int) ∈ zz_ws := zz_in (List.mem_of_getElem? (i := 382) (by decide +kernel)) rfl
theorem zw_383 : Cond.methodLink "java/util/Arrays" (150 : Nat) ({ cls := "java/lang/System", name := "arraycopy", desc := "(Ljava/lang/Object;ILjava/lang/Object;II)V" } : MethodName) ∈ zz_ws := zz_in (List.mem_of_getElem? (i := 383) (by decide +kernel)) rfl
theorem zw_384 : Cond.static ({ cls := "java/lang/System", name := "arraycopy", desc := "(Ljava/lang/Object;ILjava/lang/Object;II)V" } : MethodName) ∈ zz_ws := zz_in (List.mem_of_getElem? (i := 384) (by decide +kernel)) rfl
theorem zw_385 : Cond.native ({ cls := "java/lang/System", name := "arraycopy", desc := "(Ljava/lang/Object;ILjava/lang/Object;II)V" } : MethodName) ∈ zz_ws := zz_in (List.mem_of_getElem? (i := 385) (by decide +kernel)) rfl
theorem zw_386 : Cond.methodLink "java/util/ArrayList" (79 : Nat) ({ cls := "java/lang/Math", name := "max", desc := "(II)I" } : MethodName) ∈ zz_ws := zz_in (List.mem_of_getElem? (i := 386) (by decide +kernel)) rfl
theorem zw_387 : Cond.classLink "java/util/ArrayList" (7 : Nat) "java/lang/Object" ∈ zz_ws := zz_in (List.mem_of_getElem? (i := 387) (by decide +kernel)) rfl
theorem zw_388 : Cond.methodLink "RequestGateLaw" (32 : Nat) ({ cls := "RequestGate", name := "role", desc := "(II)Z" } : MethodName) ∈ zz_ws := zz_in (List.mem_of_getElem? (i := 388) (by decide +kernel)) rfl
theorem zw_389 : Cond.instanceMethod ({ cls := "RequestGate", name := "role", desc := "(II)Z" } : MethodName) ∈ zz_ws := zz_in (List.mem_of_getElem? (i := 389) (by decide +kernel)) rfl
theorem zw_390 : Cond.selects "RequestGate" ({ cls := "RequestGate", name := "role", desc := "(II)Z" } : MethodName) ({ cls := "RequestGate", name := "role", desc := "(II)Z" } : MethodName) ∈ zz_ws := zz_in (List.mem_of_getElem? (i := 390) (by decide +kernel)) rfl
theorem zw_391 : Cond.code ({ cls := "RequestGate", name := "role", desc := "(II)Z" } : MethodName) prog_1_method_6_code (3 : Nat) (Option.some FieldType.boolean) ∈ zz_ws := zz_in (List.mem_of_getElem? (i := 391) (by decide +kernel)) rfl
theorem zw_392 : Cond.methodLink "RequestGate" (101 : Nat) ({ cls := "RequestGate$Roles", name := "add", desc := "(II)Z" } : MethodName) ∈ zz_ws := zz_in (List.mem_of_getElem? (i := 392) (by decide +kernel)) rfl
theorem zw_393 : Cond.instanceMethod ({ cls := "RequestGate$Roles", name := "add", desc := "(II)Z" } : MethodName) ∈ zz_ws := zz_in (List.mem_of_getElem? (i := 393) (by decide +kernel)) rfl
theorem zw_394 : Cond.selects "RequestGate$Roles" ({ cls := "RequestGate$Roles", name := "add", desc := "(II)Z" } : MethodName) ({ cls := "RequestGate$Roles", name := "add", desc := "(II)Z" } : MethodName) ∈ zz_ws := zz_in (List.mem_of_getElem? (i := 394) (by decide +kernel)) rfl
theorem zw_395 : Cond.code ({ cls := "RequestGate$Roles", name := "add", desc := "(II)Z" } : MethodName) prog_6_method_4_code (4 : Nat) (Option.some FieldType.boolean) ∈ zz_ws := zz_in (List.mem_of_getElem? (i := 395) (by decide +kernel)) rfl
theorem zw_396 : Cond.methodLink "RequestGate$Roles" (15 : Nat) ({ cls := "RequestGate$Roles", name := "isRole", desc := "(I)Z" } : MethodName) ∈ zz_ws := zz_in (List.mem_of_getElem? (i := 396) (by decide +kernel)) rfl
theorem zw_397 : Cond.methodLink "RequestGate$Roles" (19 : Nat) ({ cls := "RequestGate$Roles", name := "contains", desc := "(II)Z" } : MethodName) ∈ zz_ws := zz_in (List.mem_of_getElem? (i := 397) (by decide +kernel)) rfl
theorem zw_398 : Cond.static ({ cls := "RequestGate$Roles", name := "contains", desc := "(II)Z" } : MethodName) ∈ zz_ws := zz_in (List.mem_of_getElem? (i := 398) (by decide +kernel)) rfl
theorem zw_399 : Cond.code ({ cls := "RequestGate$Roles", name := "contains", desc := "(II)Z" } : MethodName) prog_6_method_3_code (2 : Nat) (Option.some FieldType.boolean) ∈ zz_ws := zz_in (List.mem_of_getElem? (i := 399) (by decide +kernel)) rfl
theorem zw_400 : Cond.methodLink "RequestGateLaw" (37 : Nat) ({ cls := "RequestGate", name := "user", desc := "(III)I" } : MethodName) ∈ zz_ws := zz_in (List.mem_of_getElem? (i := 400) (by decide +kernel)) rfl
theorem zw_401 : Cond.instanceMethod ({ cls := "RequestGate", name := "user", desc := "(III)I" } : MethodName) ∈ zz_ws := zz_in (List.mem_of_getElem? (i := 401) (by decide +kernel)) rfl
theorem zw_402 : Cond.selects "RequestGate" ({ cls := "RequestGate", name := "user", desc := "(III)I" } : MethodName) ({ cls := "RequestGate", name := "user", desc := "(III)I" } : MethodName) ∈ zz_ws := zz_in (List.mem_of_getElem? (i := 402) (by decide +kernel)) rfl
theorem zw_403 : Cond.code ({ cls := "RequestGate", name := "user", desc := "(III)I" } : MethodName) prog_1_method_7_code (4 : Nat) (Option.some FieldType.int) ∈ zz_ws := zz_in (List.mem_of_getElem? (i := 403) (by decide +kernel)) rfl
theorem zw_404 : Cond.classLink "RequestGate" (104 : Nat) "RequestGate$User" ∈ zz_ws := zz_in (List.mem_of_getElem? (i := 404) (by decide +kernel)) rfl
theorem zw_405 : Cond.instantiable "RequestGate$User" (6 : Nat) ∈ zz_ws := zz_in (List.mem_of_getElem? (i := 405) (by decide +kernel)) rfl
theorem zw_406 : Cond.methodLink "RequestGate" (106 : Nat) ({ cls := "RequestGate", name := "draw", desc := "()I" } : MethodName) ∈ zz_ws := zz_in (List.mem_of_getElem? (i := 406) (by decide +kernel)) rfl
theorem zw_408 : Cond.instanceMethod ({ cls := "RequestGate", name := "draw", desc := "()I" } : MethodName) ∈ zz_ws := zz_in (List.mem_of_getElem? (i := 408) (by decide +kernel)) rfl
theorem zw_409 : Cond.code ({ cls := "RequestGate", name := "draw", desc := "()I" } : MethodName) prog_1_method_27_code (1 : Nat) (Option.some FieldType.int) ∈ zz_ws := zz_in (List.mem_of_getElem? (i := 409) (by decide +kernel)) rfl
theorem zw_410 : Cond.methodLink "RequestGate" (109 : Nat) ({ cls := "RequestGate$User", name := "<init>", desc := "(IIII)V" } : MethodName) ∈ zz_ws := zz_in (List.mem_of_getElem? (i := 410) (by decide +kernel)) rfl
theorem zw_411 : Cond.instanceMethod ({ cls := "RequestGate$User", name := "<init>", desc := "(IIII)V" } : MethodName) ∈ zz_ws := zz_in (List.mem_of_getElem? (i := 411) (by decide +kernel)) rfl
theorem zw_412 : Cond.code ({ cls := "RequestGate$User", name := "<init>", desc := "(IIII)V" } : MethodName) prog_12_method_1_code (5 : Nat) (none : Option FieldType) ∈ zz_ws := zz_in (List.mem_of_getElem? (i := 412) (by decide +kernel)) rfl
theorem zw_413 : Cond.methodLink "RequestGate$User" (1 : Nat) ({ cls := "java/lang/Object", name := "<init>", desc := "()V" } : MethodName) ∈ zz_ws := zz_in (List.mem_of_getElem? (i := 413) (by decide +kernel)) rfl
theorem zw_414 : Cond.methodLink "RequestGate$User" (19 : Nat) ({ cls := "RequestGate$User", name := "hashOf", desc := "(III)I" } : MethodName) ∈ zz_ws := zz_in (List.mem_of_getElem? (i := 414) (by decide +kernel)) rfl
theorem zw_415 : Cond.static ({ cls := "RequestGate$User", name := "hashOf", desc := "(III)I" } : MethodName) ∈ zz_ws := zz_in (List.mem_of_getElem? (i := 415) (by decide +kernel)) rfl
theorem zw_416 : Cond.code ({ cls := "RequestGate$User", name := "hashOf", desc := "(III)I" } : MethodName) prog_12_method_2_code (6 : Nat) (Option.some FieldType.int) ∈ zz_ws := zz_in (List.mem_of_getElem? (i := 416) (by decide +kernel)) rfl
theorem zw_417 : Cond.fieldLink "RequestGate$User" (7 : Nat) "RequestGate$User" "given" "I" ∈ zz_ws := zz_in (List.mem_of_getElem? (i := 417) (by decide +kernel)) rfl
theorem zw_418 : Cond.fieldLink "RequestGate" (282 : Nat) "RequestGate$User" "given" "I" ∈ zz_ws := zz_in (List.mem_of_getElem? (i := 418) (by decide +kernel)) rfl
theorem zw_419 : Cond.fieldLink "RequestGate$User" (13 : Nat) "RequestGate$User" "scheme" "I" ∈ zz_ws := zz_in (List.mem_of_getElem? (i := 419) (by decide +kernel)) rfl
theorem zw_420 : Cond.fieldLink "RequestGate$User" (16 : Nat) "RequestGate$User" "salt" "I" ∈ zz_ws := zz_in (List.mem_of_getElem? (i := 420) (by decide +kernel)) rfl
theorem zw_421 : Cond.fieldLink "RequestGate$User" (23 : Nat) "RequestGate$User" "hash" "I" ∈ zz_ws := zz_in (List.mem_of_getElem? (i := 421) (by decide +kernel)) rfl
theorem zw_422 : Cond.fieldLink "RequestGate" (247 : Nat) "RequestGate$User" "hash" "I" ∈ zz_ws := zz_in (List.mem_of_getElem? (i := 422) (by decide +kernel)) rfl
theorem zw_423 : Cond.fieldLink "RequestGate$User" (29 : Nat) "RequestGate$User" "wrongTries" "I" ∈ zz_ws := zz_in (List.mem_of_getElem? (i := 423) (by decide +kernel)) rfl
theorem zw_424 : Cond.fieldLink "RequestGate$User" (26 : Nat) "RequestGate$User" "lockedUntil" "I" ∈ zz_ws := zz_in (List.mem_of_getElem? (i := 424) (by decide +kernel)) rfl
theorem zw_425 : Cond.laysFinal "RequestGate$User" "RequestGate$User" "given" "I" ∈ zz_ws := zz_in (List.mem_of_getElem? (i := 425) (by decide +kernel)) rfl
theorem zw_427 : Cond.lays "RequestGate$User" "RequestGate$User" "scheme" "I" ∈ zz_ws := zz_in (List.mem_of_getElem? (i := 427) (by decide +kernel)) rfl
theorem zw_429 : Cond.lays "RequestGate$User" "RequestGate$User" "salt" "I" ∈ zz_ws := zz_in (List.mem_of_getElem? (i := 429) (by decide +kernel)) rfl
theorem zw_431 : Cond.lays "RequestGate$User" "RequestGate$User" "hash" "I" ∈ zz_ws := zz_in (List.mem_of_getElem? (i := 431) (by decide +kernel)) rfl
theorem zw_433 : Cond.lays "RequestGate$User" "RequestGate$User" "wrongTries" "I" ∈ zz_ws := zz_in (List.mem_of_getElem? (i := 433) (by decide +kernel)) rfl
theorem zw_435 : Cond.lays "RequestGate$User" "RequestGate$User" "lockedUntil" "I" ∈ zz_ws := zz_in (List.mem_of_getElem? (i := 435) (by decide +kernel)) rfl
theorem zw_438 : Cond.methodLink "RequestGateLaw" (41 : Nat) ({ cls := "RequestGate", name := "service", desc := "(III)I" } : MethodName) ∈ zz_ws := zz_in (List.mem_of_getElem? (i := 438) (by decide +kernel)) rfl
theorem zw_439 : Cond.instanceMethod ({ cls := "RequestGate", name := "service", desc := "(III)I" } : MethodName) ∈ zz_ws := zz_in (List.mem_of_getElem? (i := 439) (by decide +kernel)) rfl
theorem zw_440 : Cond.selects "RequestGate" ({ cls := "RequestGate", name := "service", desc := "(III)I" } : MethodName) ({ cls := "RequestGate", name := "service", desc := "(III)I" } : MethodName) ∈ zz_ws := zz_in (List.mem_of_getElem? (i := 440) (by decide +kernel)) rfl
theorem zw_441 : Cond.code ({ cls := "RequestGate", name := "service", desc := "(III)I" } : MethodName) prog_1_method_8_code (4 : Nat) (Option.some FieldType.int) ∈ zz_ws := zz_in (List.mem_of_getElem? (i := 441) (by decide +kernel)) rfl
theorem zw_442 : Cond.methodLink "RequestGate" (112 : Nat) ({ cls := "RequestGate", name := "isConditionOrNone", desc := "(I)Z" } : MethodName) ∈ zz_ws := zz_in (List.mem_of_getElem? (i := 442) (by decide +kernel)) rfl
theorem zw_444 : Cond.instanceMethod ({ cls := "RequestGate", name := "isConditionOrNone", desc := "(I)Z" } : MethodName) ∈ zz_ws := zz_in (List.mem_of_getElem? (i := 444) (by decide +kernel)) rfl
theorem zw_445 : Cond.code ({ cls := "RequestGate", name := "isConditionOrNone", desc := "(I)Z" } : MethodName) prog_1_method_25_code (2 : Nat) (Option.some FieldType.boolean) ∈ zz_ws := zz_in (List.mem_of_getElem? (i := 445) (by decide +kernel)) rfl
theorem zw_446 : Cond.methodLink "RequestGate" (115 : Nat) ({ cls := "RequestGate", name := "isTypeOrNone", desc := "(I)Z" } : MethodName) ∈ zz_ws := zz_in (List.mem_of_getElem? (i := 446) (by decide +kernel)) rfl
theorem zw_448 : Cond.instanceMethod ({ cls := "RequestGate", name := "isTypeOrNone", desc := "(I)Z" } : MethodName) ∈ zz_ws := zz_in (List.mem_of_getElem? (i := 448) (by decide +kernel)) rfl
theorem zw_449 : Cond.code ({ cls := "RequestGate", name := "isTypeOrNone", desc := "(I)Z" } : MethodName) prog_1_method_24_code (2 : Nat) (Option.some FieldType.boolean) ∈ zz_ws := zz_in (List.mem_of_getElem? (i := 449) (by decide +kernel)) rfl
theorem zw_450 : Cond.methodLink "RequestGate" (123 : Nat) ({ cls := "RequestGate", name := "isType", desc := "(I)Z" } : MethodName) ∈ zz_ws := zz_in (List.mem_of_getElem? (i := 450) (by decide +kernel)) rfl
theorem zw_452 : Cond.instanceMethod ({ cls := "RequestGate", name := "isType", desc := "(I)Z" } : MethodName) ∈ zz_ws := zz_in (List.mem_of_getElem? (i := 452) (by decide +kernel)) rfl
theorem zw_453 : Cond.code ({ cls := "RequestGate", name := "isType", desc := "(I)Z" } : MethodName) prog_1_method_23_code (2 : Nat) (Option.some FieldType.boolean) ∈ zz_ws := zz_in (List.mem_of_getElem? (i := 453) (by decide +kernel)) rfl
theorem zw_454 : Cond.classLink "RequestGate" (118 : Nat) "RequestGate$Service" ∈ zz_ws := zz_in (List.mem_of_getElem? (i := 454) (by decide +kernel)) rfl
theorem zw_455 : Cond.instantiable "RequestGate$Service" (5 : Nat) ∈ zz_ws := zz_in (List.mem_of_getElem? (i := 455) (by decide +kernel)) rfl
theorem zw_456 : Cond.methodLink "RequestGate" (120 : Nat) ({ cls := "RequestGate$Service", name := "<init>", desc := "(III)V" } : MethodName) ∈ zz_ws := zz_in (List.mem_of_getElem? (i := 456) (by decide +kernel)) rfl
theorem zw_457 : Cond.instanceMethod ({ cls := "RequestGate$Service", name := "<init>", desc := "(III)V" } : MethodName) ∈ zz_ws := zz_in (List.mem_of_getElem? (i := 457) (by decide +kernel)) rfl
theorem zw_458 : Cond.code ({ cls := "RequestGate$Service", name := "<init>", desc := "(III)V" } : MethodName) prog_8_method_1_code (4 : Nat) (none : Option FieldType) ∈ zz_ws := zz_in (List.mem_of_getElem? (i := 458) (by decide +kernel)) rfl
theorem zw_459 : Cond.methodLink "RequestGate$Service" (3 : Nat) ({ cls := "java/lang/Object", name := "<init>", desc := "()V" } : MethodName) ∈ zz_ws := zz_in (List.mem_of_getElem? (i := 459) (by decide +kernel)) rfl
theorem zw_460 : Cond.fieldLink "RequestGate$Service" (19 : Nat) "RequestGate$Service" "parent" "I" ∈ zz_ws := zz_in (List.mem_of_getElem? (i := 460) (by decide +kernel)) rfl
theorem zw_461 : Cond.fieldLink "RequestGate" (295 : Nat) "RequestGate$Service" "parent" "I" ∈ zz_ws := zz_in (List.mem_of_getElem? (i := 461) (by decide +kernel)) rfl
theorem zw_462 : Cond.fieldLink "RequestGate$Service" (23 : Nat) "RequestGate$Service" "face" "I" ∈ zz_ws := zz_in (List.mem_of_getElem? (i := 462) (by decide +kernel)) rfl
theorem zw_463 : Cond.fieldLink "RequestGate" (298 : Nat) "RequestGate$Service" "face" "I" ∈ zz_ws := zz_in (List.mem_of_getElem? (i := 463) (by decide +kernel)) rfl
theorem zw_464 : Cond.fieldLink "RequestGate$Service" (26 : Nat) "RequestGate$Service" "condition" "I" ∈ zz_ws := zz_in (List.mem_of_getElem? (i := 464) (by decide +kernel)) rfl
theorem zw_465 : Cond.fieldLink "RequestGate$Service" (9 : Nat) "RequestGate$Service" "declared" "[Z" ∈ zz_ws := zz_in (List.mem_of_getElem? (i := 465) (by decide +kernel)) rfl
theorem zw_466 : Cond.fieldLink "RequestGate$Service" (15 : Nat) "RequestGate$Service" "conditions" "[I" ∈ zz_ws := zz_in (List.mem_of_getElem? (i := 466) (by decide +kernel)) rfl
theorem zw_467 : Cond.laysFinal "RequestGate$Service" "RequestGate$Service" "parent" "I" ∈ zz_ws := zz_in (List.mem_of_getElem? (i := 467) (by decide +kernel)) rfl
theorem zw_469 : Cond.laysFinal "RequestGate$Service" "RequestGate$Service" "face" "I" ∈ zz_ws := zz_in (List.mem_of_getElem? (i := 469) (by decide +kernel)) rfl
theorem zw_471 : Cond.laysFinal "RequestGate$Service" "RequestGate$Service" "condition" "I" ∈ zz_ws := zz_in (List.mem_of_getElem? (i := 471) (by decide +kernel)) rfl
theorem zw_473 : Cond.laysFinal "RequestGate$Service" "RequestGate$Service" "declared" "[Z" ∈ zz_ws := zz_in (List.mem_of_getElem? (i := 473) (by decide +kernel)) rfl
theorem zw_475 : Cond.laysFinal "RequestGate$Service" "RequestGate$Service" "conditions" "[I" ∈ zz_ws := zz_in (List.mem_of_getElem? (i := 475) (by decide +kernel)) rfl
theorem zw_478 : Cond.methodLink "RequestGateLaw" (45 : Nat) ({ cls := "RequestGate", name := "declare", desc := "(III)Z" } : MethodName) ∈ zz_ws := zz_in (List.mem_of_getElem? (i := 478) (by decide +kernel)) rfl
theorem zw_479 : Cond.instanceMethod ({ cls := "RequestGate", name := "declare", desc := "(III)Z" } : MethodName) ∈ zz_ws := zz_in (List.mem_of_getElem? (i := 479) (by decide +kernel)) rfl
theorem zw_480 : Cond.selects "RequestGate" ({ cls := "RequestGate", name := "declare", desc := "(III)Z" } : MethodName) ({ cls := "RequestGate", name := "declare", desc := "(III)Z" } : MethodName) ∈ zz_ws := zz_in (List.mem_of_getElem? (i := 480) (by decide +kernel)) rfl
theorem zw_481 : Cond.code ({ cls := "RequestGate", name := "declare", desc := "(III)Z" } : MethodName) prog_1_method_9_code (4 : Nat) (Option.some FieldType.boolean) ∈ zz_ws := zz_in (List.mem_of_getElem? (i := 481) (by decide +kernel)) rfl
theorem zw_482 : Cond.methodLink "RequestGate" (126 : Nat) ({ cls := "RequestGate", name := "isOperation", desc := "(I)Z" } : MethodName) ∈ zz_ws := zz_in (List.mem_of_getElem? (i := 482) (by decide +kernel)) rfl
theorem zw_483 : Cond.static ({ cls := "RequestGate", name := "isOperation", desc := "(I)Z" } : MethodName) ∈ zz_ws := zz_in (List.mem_of_getElem? (i := 483) (by decide +kernel)) rfl
theorem zw_484 : Cond.code ({ cls := "RequestGate", name := "isOperation", desc := "(I)Z" } : MethodName) prog_1_method_26_code (1 : Nat) (Option.some FieldType.boolean) ∈ zz_ws := zz_in (List.mem_of_getElem? (i := 484) (by decide +kernel)) rfl
theorem zw_485 : Cond.methodLink "RequestGate" (129 : Nat) ({ cls := "java/util/ArrayList", name := "get", desc := "(I)Ljava/lang/Object;" } : MethodName) ∈ zz_ws := zz_in (List.mem_of_getElem? (i := 485) (by decide +kernel)) rfl
theorem zw_486 : Cond.instanceMethod ({ cls := "java/util/ArrayList", name := "get", desc := "(I)Ljava/lang/Object;" } : MethodName) ∈ zz_ws := zz_in (List.mem_of_getElem? (i := 486) (by decide +kernel)) rfl
theorem zw_487 : Cond.selects "java/util/ArrayList" ({ cls := "java/util/ArrayList", name := "get", desc := "(I)Ljava/lang/Object;" } : MethodName) ({ cls := "java/util/ArrayList", name := "get", desc := "(I)Ljava/lang/Object;" } : MethodName) ∈ zz_ws := zz_in (List.mem_of_getElem? (i := 487) (by decide +kernel)) rfl
theorem zw_488 : Cond.code ({ cls := "java/util/ArrayList", name := "get", desc := "(I)Ljava/lang/Object;" } : MethodName) prog_22_method_20_code (2 : Nat) (Option.some (FieldType.object "java/lang/Object")) ∈ zz_ws := zz_in (List.mem_of_getElem? (i := 488) (by decide +kernel)) rfl
theorem zw_489 : Cond.methodLink "java/util/ArrayList" (118 : Nat) ({ cls := "java/util/Objects", name := "checkIndex", desc := "(II)I" } : MethodName) ∈ zz_ws := zz_in (List.mem_of_getElem? (i := 489) (by decide +kernel)) rfl
theorem zw_490 : Cond.static ({ cls := "java/util/Objects", name := "checkIndex", desc := "(II)I" } : MethodName) ∈ zz_ws := zz_in (List.mem_of_getElem? (i := 490) (by decide +kernel)) rfl
theorem zw_491 : Cond.code ({ cls := "java/util/Objects", name := "checkIndex", desc := "(II)I" } : MethodName) prog_26_method_17_code (2 : Nat) (Option.some FieldType.int) ∈ zz_ws := zz_in (List.mem_of_getElem? (i := 491) (by decide +kernel)) rfl
theorem zw_492 : Cond.methodLink "java/util/Objects" (105 : Nat) ({ cls := "jdk/internal/util/Preconditions", name := "checkIndex", desc := "(IILjava/util/function/BiFunction;)I" } : MethodName) ∈ zz_ws := zz_in (List.mem_of_getElem? (i := 492) (by decide +kernel)) rfl
theorem zw_493 : Cond.static ({ cls := "jdk/internal/util/Preconditions", name := "checkIndex", desc := "(IILjava/util/function/BiFunction;)I" } : MethodName) ∈ zz_ws := zz_in (List.mem_of_getElem? (i := 493) (by decide +kernel)) rfl
theorem zw_494 : Cond.code ({ cls := "jdk/internal/util/Preconditions", name := "checkIndex", desc := "(IILjava/util/function/BiFunction;)I" } : MethodName) prog_30_method_11_code (3 : Nat) (Option.some FieldType.int) ∈ zz_ws := zz_in (List.mem_of_getElem? (i := 494) (by decide +kernel)) rfl
theorem zw_495 : Cond.methodLink "java/util/ArrayList" (123 : Nat) ({ cls := "java/util/ArrayList", name := "elementData", desc := "(I)Ljava/lang/Object;" } : MethodName) ∈ zz_ws := zz_in (List.mem_of_getElem? (i := 495) (by decide +kernel)) rfl
theorem zw_496 : Cond.instanceMethod ({ cls := "java/util/ArrayList", name := "elementData", desc := "(I)Ljava/lang/Object;" } : MethodName) ∈ zz_ws := zz_in (List.mem_of_getElem? (i := 496) (by decide +kernel)) rfl
theorem zw_497 : Cond.selects "java/util/ArrayList" ({ cls := "java/util/ArrayList", name := "elementData", desc := "(I)Ljava/lang/Object;" } : MethodName) ({ cls := "java/util/ArrayList", name := "elementData", desc := "(I)Ljava/lang/Object;" } : MethodName) ∈ zz_ws := zz_in (List.mem_of_getElem? (i := 497) (by decide +kernel)) rfl
theorem zw_498 : Cond.code ({ cls := "java/util/ArrayList", name := "elementData", desc := "(I)Ljava/lang/Object;" } : MethodName) prog_22_method_18_code (2 : Nat) (Option.some (FieldType.object "java/lang/Object")) ∈ zz_ws := zz_in (List.mem_of_getElem? (i := 498) (by decide +kernel)) rfl
theorem zw_499 : Cond.methodLink "RequestGate" (133 : Nat) ({ cls := "RequestGate$Service", name := "add", desc := "(II)Z" } : MethodName) ∈ zz_ws := zz_in (List.mem_of_getElem? (i := 499) (by decide +kernel)) rfl
theorem zw_500 : Cond.instanceMethod ({ cls := "RequestGate$Service", name := "add", desc := "(II)Z" } : MethodName) ∈ zz_ws := zz_in (List.mem_of_getElem? (i := 500) (by decide +kernel)) rfl
theorem zw_501 : Cond.selects "RequestGate$Service" ({ cls := "RequestGate$Service", name := "add", desc := "(II)Z" } : MethodName) ({ cls := "RequestGate$Service", name := "add", desc := "(II)Z" } : MethodName) ∈ zz_ws := zz_in (List.mem_of_getElem? (i := 501) (by decide +kernel)) rfl
theorem zw_502 : Cond.code ({ cls := "RequestGate$Service", name := "add", desc := "(II)Z" } : MethodName) prog_8_method_3_code (3 : Nat) (Option.some FieldType.boolean) ∈ zz_ws := zz_in (List.mem_of_getElem? (i := 502) (by decide +kernel)) rfl
theorem zw_504 : Cond.methodLink "RequestGateLaw" (50 : Nat) ({ cls := "RequestGate", name := "tick", desc := "(I)Z" } : MethodName) ∈ zz_ws := zz_in (List.mem_of_getElem? (i := 504) (by decide +kernel)) rfl
theorem zw_505 : Cond.instanceMethod ({ cls := "RequestGate", name := "tick", desc := "(I)Z" } : MethodName) ∈ zz_ws := zz_in (List.mem_of_getElem? (i := 505) (by decide +kernel)) rfl
theorem zw_506 : Cond.selects "RequestGate" ({ cls := "RequestGate", name := "tick", desc := "(I)Z" } : MethodName) ({ cls := "RequestGate", name := "tick", desc := "(I)Z" } : MethodName) ∈ zz_ws := zz_in (List.mem_of_getElem? (i := 506) (by decide +kernel)) rfl
theorem zw_507 : Cond.code ({ cls := "RequestGate", name := "tick", desc := "(I)Z" } : MethodName) prog_1_method_10_code (2 : Nat) (Option.some FieldType.boolean) ∈ zz_ws := zz_in (List.mem_of_getElem? (i := 507) (by decide +kernel)) rfl
theorem zw_508 : Cond.methodLink "RequestGate" (137 : Nat) ({ cls := "RequestGate$Tickets", name := "dropDead", desc := "(I)V" } : MethodName) ∈ zz_ws := zz_in (List.mem_of_getElem? (i := 508) (by decide +kernel)) rfl
theorem zw_509 : Cond.instanceMethod ({ cls := "RequestGate$Tickets", name := "dropDead", desc := "(I)V" } : MethodName) ∈ zz_ws := zz_in (List.mem_of_getElem? (i := 509) (by decide +kernel)) rfl
theorem zw_510 : Cond.selects "RequestGate$Tickets" ({ cls := "RequestGate$Tickets", name := "dropDead", desc := "(I)V" } : MethodName) ({ cls := "RequestGate$Tickets", name := "dropDead", desc := "(I)V" } : MethodName) ∈ zz_ws := zz_in (List.mem_of_getElem? (i := 510) (by decide +kernel)) rfl
theorem zw_511 : Cond.code ({ cls := "RequestGate$Tickets", name := "dropDead", desc := "(I)V" } : MethodName) prog_11_method_7_code (3 : Nat) (none : Option FieldType) ∈ zz_ws := zz_in (List.mem_of_getElem? (i := 511) (by decide +kernel)) rfl
theorem zw_512 : Cond.methodLink "RequestGate$Tickets" (16 : Nat) ({ cls := "java/util/ArrayList", name := "size", desc := "()I" } : MethodName) ∈ zz_ws := zz_in (List.mem_of_getElem? (i := 512) (by decide +kernel)) rfl
theorem zw_513 : Cond.methodLink "RequestGate$Tickets" (20 : Nat) ({ cls := "java/util/ArrayList", name := "get", desc := "(I)Ljava/lang/Object;" } : MethodName) ∈ zz_ws := zz_in (List.mem_of_getElem? (i := 513) (by decide +kernel)) rfl
theorem zw_514 : Cond.classLink "RequestGate$Tickets" (24 : Nat) "RequestGate$Ticket" ∈ zz_ws := zz_in (List.mem_of_getElem? (i := 514) (by decide +kernel)) rfl
theorem zw_515 : Cond.methodLink "RequestGate$Tickets" (51 : Nat) ({ cls := "RequestGate$Ticket", name := "isDead", desc := "(I)Z" } : MethodName) ∈ zz_ws := zz_in (List.mem_of_getElem? (i := 515) (by decide +kernel)) rfl
theorem zw_516 : Cond.instanceMethod ({ cls := "RequestGate$Ticket", name := "isDead", desc := "(I)Z" } : MethodName) ∈ zz_ws := zz_in (List.mem_of_getElem? (i := 516) (by decide +kernel)) rfl
theorem zw_517 : Cond.selects "RequestGate$Ticket" ({ cls := "RequestGate$Ticket", name := "isDead", desc := "(I)Z" } : MethodName) ({ cls := "RequestGate$Ticket", name := "isDead", desc := "(I)Z" } : MethodName) ∈ zz_ws := zz_in (List.mem_of_getElem? (i := 517) (by decide +kernel)) rfl
theorem zw_518 : Cond.code ({ cls := "RequestGate$Ticket", name := "isDead", desc := "(I)Z" } : MethodName) prog_10_method_2_code (2 : Nat) (Option.some FieldType.boolean) ∈ zz_ws := zz_in (List.mem_of_getElem? (i := 518) (by decide +kernel)) rfl
theorem zw_519 : Cond.methodLink "RequestGate$Tickets" (48 : Nat) ({ cls := "java/util/ArrayList", name := "remove", desc := "(I)Ljava/lang/Object;" } : MethodName) ∈ zz_ws := zz_in (List.mem_of_getElem? (i := 519) (by decide +kernel)) rfl
theorem zw_520 : Cond.instanceMethod ({ cls := "java/util/ArrayList", name := "remove", desc := "(I)Ljava/lang/Object;" } : MethodName) ∈ zz_ws := zz_in (List.mem_of_getElem? (i := 520) (by decide +kernel)) rfl
theorem zw_521 : Cond.selects "java/util/ArrayList" ({ cls := "java/util/ArrayList", name := "remove", desc := "(I)Ljava/lang/Object;" } : MethodName) ({ cls := "java/util/ArrayList", name := "remove", desc := "(I)Ljava/lang/Object;" } : MethodName) ∈ zz_ws := zz_in (List.mem_of_getElem? (i := 521) (by decide +kernel)) rfl
theorem zw_522 : Cond.code ({ cls := "java/util/ArrayList", name := "remove", desc := "(I)Ljava/lang/Object;" } : MethodName) prog_22_method_29_code (4 : Nat) (Option.some (FieldType.object "java/lang/Object")) ∈ zz_ws := zz_in (List.mem_of_getElem? (i := 522) (by decide +kernel)) rfl
theorem zw_523 : Cond.methodLink "java/util/ArrayList" (144 : Nat) ({ cls := "java/util/ArrayList", name := "fastRemove", desc := "([Ljava/lang/Object;I)V" } : MethodName) ∈ zz_ws := zz_in (List.mem_of_getElem? (i := 523) (by decide +kernel)) rfl
theorem zw_525 : Cond.instanceMethod ({ cls := "java/util/ArrayList", name := "fastRemove", desc := "([Ljava/lang/Object;I)V" } : MethodName) ∈ zz_ws := zz_in (List.mem_of_getElem? (i := 525) (by decide +kernel)) rfl
theorem zw_526 : Cond.code ({ cls := "java/util/ArrayList", name := "fastRemove", desc := "([Ljava/lang/Object;I)V" } : MethodName) prog_22_method_39_code (4 : Nat) (none : Option FieldType) ∈ zz_ws := zz_in (List.mem_of_getElem? (i := 526) (by decide +kernel)) rfl
theorem zw_527 : Cond.methodLink "java/util/ArrayList" (112 : Nat) ({ cls := "java/lang/System", name := "arraycopy", desc := "(Ljava/lang/Object;ILjava/lang/Object;II)V" } : MethodName) ∈ zz_ws := zz_in (List.mem_of_getElem? (i := 527) (by decide +kernel)) rfl
theorem zw_528 : Cond.methodLink "RequestGateLaw" (54 : Nat) ({ cls := "RequestGate", name := "login", desc := "(IIIZ)I" } : MethodName) ∈ zz_ws := zz_in (List.mem_of_getElem? (i := 528) (by decide +kernel)) rfl
theorem zw_529 : Cond.instanceMethod ({ cls := "RequestGate", name := "login", desc := "(IIIZ)I" } : MethodName) ∈ zz_ws := zz_in (List.mem_of_getElem? (i := 529) (by decide +kernel)) rfl
theorem zw_530 : Cond.selects "RequestGate" ({ cls := "RequestGate", name := "login", desc := "(IIIZ)I" } : MethodName) ({ cls := "RequestGate", name := "login", desc := "(IIIZ)I" } : MethodName) ∈ zz_ws := zz_in (List.mem_of_getElem? (i := 530) (by decide +kernel)) rfl
theorem zw_531 : Cond.code ({ cls := "RequestGate", name := "login", desc := "(IIIZ)I" } : MethodName) prog_1_method_11_code (7 : Nat) (Option.some FieldType.int) ∈ zz_ws := zz_in (List.mem_of_getElem? (i := 531) (by decide +kernel)) rfl
theorem zw_532 : Cond.methodLink "RequestGate" (141 : Nat) ({ cls := "RequestGate", name := "isUser", desc := "(I)Z" } : MethodName) ∈ zz_ws := zz_in (List.mem_of_getElem? (i := 532) (by decide +kernel)) rfl
theorem zw_534 : Cond.instanceMethod ({ cls := "RequestGate", name := "isUser", desc := "(I)Z" } : MethodName) ∈ zz_ws := zz_in (List.mem_of_getElem? (i := 534) (by decide +kernel)) rfl
theorem zw_535 : Cond.code ({ cls := "RequestGate", name := "isUser", desc := "(I)Z" } : MethodName) prog_1_method_22_code (2 : Nat) (Option.some FieldType.boolean) ∈ zz_ws := zz_in (List.mem_of_getElem? (i := 535) (by decide +kernel)) rfl
theorem zw_536 : Cond.methodLink "RequestGate" (144 : Nat) ({ cls := "RequestGate$User", name := "isLocked", desc := "(I)Z" } : MethodName) ∈ zz_ws := zz_in (List.mem_of_getElem? (i := 536) (by decide +kernel)) rfl
theorem zw_537 : Cond.instanceMethod ({ cls := "RequestGate$User", name := "isLocked", desc := "(I)Z" } : MethodName) ∈ zz_ws := zz_in (List.mem_of_getElem? (i := 537) (by decide +kernel)) rfl
theorem zw_538 : Cond.selects "RequestGate$User" ({ cls := "RequestGate$User", name := "isLocked", desc := "(I)Z" } : MethodName) ({ cls := "RequestGate$User", name := "isLocked", desc := "(I)Z" } : MethodName) ∈ zz_ws := zz_in (List.mem_of_getElem? (i := 538) (by decide +kernel)) rfl
theorem zw_539 : Cond.code ({ cls := "RequestGate$User", name := "isLocked", desc := "(I)Z" } : MethodName) prog_12_method_6_code (2 : Nat) (Option.some FieldType.boolean) ∈ zz_ws := zz_in (List.mem_of_getElem? (i := 539) (by decide +kernel)) rfl
theorem zw_540 : Cond.methodLink "RequestGate" (147 : Nat) ({ cls := "RequestGate$User", name := "hasPassword", desc := "(I)Z" } : MethodName) ∈ zz_ws := zz_in (List.mem_of_getElem? (i := 540) (by decide +kernel)) rfl
theorem zw_541 : Cond.instanceMethod ({ cls := "RequestGate$User", name := "hasPassword", desc := "(I)Z" } : MethodName) ∈ zz_ws := zz_in (List.mem_of_getElem? (i := 541) (by decide +kernel)) rfl
theorem zw_542 : Cond.selects "RequestGate$User" ({ cls := "RequestGate$User", name := "hasPassword", desc := "(I)Z" } : MethodName) ({ cls := "RequestGate$User", name := "hasPassword", desc := "(I)Z" } : MethodName) ∈ zz_ws := zz_in (List.mem_of_getElem? (i := 542) (by decide +kernel)) rfl
theorem zw_543 : Cond.code ({ cls := "RequestGate$User", name := "hasPassword", desc := "(I)Z" } : MethodName) prog_12_method_3_code (2 : Nat) (Option.some FieldType.boolean) ∈ zz_ws := zz_in (List.mem_of_getElem? (i := 543) (by decide +kernel)) rfl
theorem zw_544 : Cond.methodLink "RequestGate" (150 : Nat) ({ cls := "RequestGate$User", name := "lockAfterTooManyTries", desc := "(I)Z" } : MethodName) ∈ zz_ws := zz_in (List.mem_of_getElem? (i := 544) (by decide +kernel)) rfl
theorem zw_545 : Cond.instanceMethod ({ cls := "RequestGate$User", name := "lockAfterTooManyTries", desc := "(I)Z" } : MethodName) ∈ zz_ws := zz_in (List.mem_of_getElem? (i := 545) (by decide +kernel)) rfl
theorem zw_546 : Cond.selects "RequestGate$User" ({ cls := "RequestGate$User", name := "lockAfterTooManyTries", desc := "(I)Z" } : MethodName) ({ cls := "RequestGate$User", name := "lockAfterTooManyTries", desc := "(I)Z" } : MethodName) ∈ zz_ws := zz_in (List.mem_of_getElem? (i := 546) (by decide +kernel)) rfl
theorem zw_547 : Cond.code ({ cls := "RequestGate$User", name := "lockAfterTooManyTries", desc := "(I)Z" } : MethodName) prog_12_method_8_code (2 : Nat) (Option.some FieldType.boolean) ∈ zz_ws := zz_in (List.mem_of_getElem? (i := 547) (by decide +kernel)) rfl
theorem zw_548 : Cond.methodLink "RequestGate$User" (32 : Nat) ({ cls := "RequestGate$User", name := "forgetWrongTries", desc := "()V" } : MethodName) ∈ zz_ws := zz_in (List.mem_of_getElem? (i := 548) (by decide +kernel)) rfl
theorem zw_549 : Cond.instanceMethod ({ cls := "RequestGate$User", name := "forgetWrongTries", desc := "()V" } : MethodName) ∈ zz_ws := zz_in (List.mem_of_getElem? (i := 549) (by decide +kernel)) rfl
theorem zw_550 : Cond.selects "RequestGate$User" ({ cls := "RequestGate$User", name := "forgetWrongTries", desc := "()V" } : MethodName) ({ cls := "RequestGate$User", name := "forgetWrongTries", desc := "()V" } : MethodName) ∈ zz_ws := zz_in (List.mem_of_getElem? (i := 550) (by decide +kernel)) rfl
theorem zw_551 : Cond.code ({ cls := "RequestGate$User", name := "forgetWrongTries", desc := "()V" } : MethodName) prog_12_method_7_code (1 : Nat) (none : Option FieldType) ∈ zz_ws := zz_in (List.mem_of_getElem? (i := 551) (by decide +kernel)) rfl
theorem zw_552 : Cond.methodLink "RequestGate" (156 : Nat) ({ cls := "RequestGate$User", name := "forgetWrongTries", desc := "()V" } : MethodName) ∈ zz_ws := zz_in (List.mem_of_getElem? (i := 552) (by decide +kernel)) rfl
theorem zw_553 : Cond.methodLink "RequestGate" (159 : Nat) ({ cls := "RequestGate$User", name := "isOfOldScheme", desc := "()Z" } : MethodName) ∈ zz_ws := zz_in (List.mem_of_getElem? (i := 553) (by decide +kernel)) rfl
theorem zw_554 : Cond.instanceMethod ({ cls := "RequestGate$User", name := "isOfOldScheme", desc := "()Z" } : MethodName) ∈ zz_ws := zz_in (List.mem_of_getElem? (i := 554) (by decide +kernel)) rfl
theorem zw_555 : Cond.selects "RequestGate$User" ({ cls := "RequestGate$User", name := "isOfOldScheme", desc := "()Z" } : MethodName) ({ cls := "RequestGate$User", name := "isOfOldScheme", desc := "()Z" } : MethodName) ∈ zz_ws := zz_in (List.mem_of_getElem? (i := 555) (by decide +kernel)) rfl
theorem zw_556 : Cond.code ({ cls := "RequestGate$User", name := "isOfOldScheme", desc := "()Z" } : MethodName) prog_12_method_4_code (1 : Nat) (Option.some FieldType.boolean) ∈ zz_ws := zz_in (List.mem_of_getElem? (i := 556) (by decide +kernel)) rfl
theorem zw_557 : Cond.methodLink "RequestGate" (163 : Nat) ({ cls := "RequestGate$User", name := "moveToNewScheme", desc := "(II)V" } : MethodName) ∈ zz_ws := zz_in (List.mem_of_getElem? (i := 557) (by decide +kernel)) rfl
theorem zw_558 : Cond.instanceMethod ({ cls := "RequestGate$User", name := "moveToNewScheme", desc := "(II)V" } : MethodName) ∈ zz_ws := zz_in (List.mem_of_getElem? (i := 558) (by decide +kernel)) rfl
theorem zw_559 : Cond.selects "RequestGate$User" ({ cls := "RequestGate$User", name := "moveToNewScheme", desc := "(II)V" } : MethodName) ({ cls := "RequestGate$User", name := "moveToNewScheme", desc := "(II)V" } : MethodName) ∈ zz_ws := zz_in (List.mem_of_getElem? (i := 559) (by decide +kernel)) rfl
theorem zw_560 : Cond.code ({ cls := "RequestGate$User", name := "moveToNewScheme", desc := "(II)V" } : MethodName) prog_12_method_5_code (3 : Nat) (none : Option FieldType) ∈ zz_ws := zz_in (List.mem_of_getElem? (i := 560) (by decide +kernel)) rfl
theorem zw_561 : Cond.methodLink "RequestGate" (167 : Nat) ({ cls := "RequestGate$Tickets", name := "end", desc := "(I)V" } : MethodName) ∈ zz_ws := zz_in (List.mem_of_getElem? (i := 561) (by decide +kernel)) rfl
theorem zw_562 : Cond.instanceMethod ({ cls := "RequestGate$Tickets", name := "end", desc := "(I)V" } : MethodName) ∈ zz_ws := zz_in (List.mem_of_getElem? (i := 562) (by decide +kernel)) rfl
theorem zw_563 : Cond.selects "RequestGate$Tickets" ({ cls := "RequestGate$Tickets", name := "end", desc := "(I)V" } : MethodName) ({ cls := "RequestGate$Tickets", name := "end", desc := "(I)V" } : MethodName) ∈ zz_ws := zz_in (List.mem_of_getElem? (i := 563) (by decide +kernel)) rfl
theorem zw_564 : Cond.code ({ cls := "RequestGate$Tickets", name := "end", desc := "(I)V" } : MethodName) prog_11_method_5_code (3 : Nat) (none : Option FieldType) ∈ zz_ws := zz_in (List.mem_of_getElem? (i := 564) (by decide +kernel)) rfl
theorem zw_565 : Cond.methodLink "RequestGate" (170 : Nat) ({ cls := "RequestGate", name := "make", desc := "(LRequestGate$Tickets;IZ)I" } : MethodName) ∈ zz_ws := zz_in (List.mem_of_getElem? (i := 565) (by decide +kernel)) rfl
theorem zw_567 : Cond.instanceMethod ({ cls := "RequestGate", name := "make", desc := "(LRequestGate$Tickets;IZ)I" } : MethodName) ∈ zz_ws := zz_in (List.mem_of_getElem? (i := 567) (by decide +kernel)) rfl
theorem zw_568 : Cond.code ({ cls := "RequestGate", name := "make", desc := "(LRequestGate$Tickets;IZ)I" } : MethodName) prog_1_method_28_code (6 : Nat) (Option.some FieldType.int) ∈ zz_ws := zz_in (List.mem_of_getElem? (i := 568) (by decide +kernel)) rfl
theorem zw_569 : Cond.classLink "RequestGate" (179 : Nat) "RequestGate$Ticket" ∈ zz_ws := zz_in (List.mem_of_getElem? (i := 569) (by decide +kernel)) rfl
theorem zw_570 : Cond.instantiable "RequestGate$Ticket" (6 : Nat) ∈ zz_ws := zz_in (List.mem_of_getElem? (i := 570) (by decide +kernel)) rfl
theorem zw_571 : Cond.methodLink "RequestGate" (259 : Nat) ({ cls := "RequestGate$Ticket", name := "<init>", desc := "(IIIZI)V" } : MethodName) ∈ zz_ws := zz_in (List.mem_of_getElem? (i := 571) (by decide +kernel)) rfl
theorem zw_572 : Cond.instanceMethod ({ cls := "RequestGate$Ticket", name := "<init>", desc := "(IIIZI)V" } : MethodName) ∈ zz_ws := zz_in (List.mem_of_getElem? (i := 572) (by decide +kernel)) rfl
theorem zw_573 : Cond.code ({ cls := "RequestGate$Ticket", name := "<init>", desc := "(IIIZI)V" } : MethodName) prog_10_method_1_code (6 : Nat) (none : Option FieldType) ∈ zz_ws := zz_in (List.mem_of_getElem? (i := 573) (by decide +kernel)) rfl
theorem zw_574 : Cond.methodLink "RequestGate$Ticket" (1 : Nat) ({ cls := "java/lang/Object", name := "<init>", desc := "()V" } : MethodName) ∈ zz_ws := zz_in (List.mem_of_getElem? (i := 574) (by decide +kernel)) rfl
theorem zw_575 : Cond.fieldLink "RequestGate$Ticket" (7 : Nat) "RequestGate$Ticket" "user" "I" ∈ zz_ws := zz_in (List.mem_of_getElem? (i := 575) (by decide +kernel)) rfl
theorem zw_576 : Cond.fieldLink "RequestGate$Tickets" (30 : Nat) "RequestGate$Ticket" "user" "I" ∈ zz_ws := zz_in (List.mem_of_getElem? (i := 576) (by decide +kernel)) rfl
theorem zw_577 : Cond.fieldLink "RequestGate" (178 : Nat) "RequestGate$Ticket" "user" "I" ∈ zz_ws := zz_in (List.mem_of_getElem? (i := 577) (by decide +kernel)) rfl
theorem zw_578 : Cond.fieldLink "RequestGate$Ticket" (13 : Nat) "RequestGate$Ticket" "id" "I" ∈ zz_ws := zz_in (List.mem_of_getElem? (i := 578) (by decide +kernel)) rfl
theorem zw_579 : Cond.fieldLink "RequestGate$Tickets" (26 : Nat) "RequestGate$Ticket" "id" "I" ∈ zz_ws := zz_in (List.mem_of_getElem? (i := 579) (by decide +kernel)) rfl
theorem zw_580 : Cond.fieldLink "RequestGate" (241 : Nat) "RequestGate$Ticket" "id" "I" ∈ zz_ws := zz_in (List.mem_of_getElem? (i := 580) (by decide +kernel)) rfl
theorem zw_581 : Cond.fieldLink "RequestGate$Ticket" (16 : Nat) "RequestGate$Ticket" "token" "I" ∈ zz_ws := zz_in (List.mem_of_getElem? (i := 581) (by decide +kernel)) rfl
theorem zw_582 : Cond.fieldLink "RequestGate" (201 : Nat) "RequestGate$Ticket" "token" "I" ∈ zz_ws := zz_in (List.mem_of_getElem? (i := 582) (by decide +kernel)) rfl
theorem zw_583 : Cond.fieldLink "RequestGate$Ticket" (19 : Nat) "RequestGate$Ticket" "remembered" "Z" ∈ zz_ws := zz_in (List.mem_of_getElem? (i := 583) (by decide +kernel)) rfl
theorem zw_584 : Cond.fieldLink "RequestGate" (244 : Nat) "RequestGate$Ticket" "remembered" "Z" ∈ zz_ws := zz_in (List.mem_of_getElem? (i := 584) (by decide +kernel)) rfl
theorem zw_585 : Cond.fieldLink "RequestGate$Ticket" (23 : Nat) "RequestGate$Ticket" "made" "I" ∈ zz_ws := zz_in (List.mem_of_getElem? (i := 585) (by decide +kernel)) rfl
theorem zw_586 : Cond.fieldLink "RequestGate$Ticket" (26 : Nat) "RequestGate$Ticket" "lastUsed" "I" ∈ zz_ws := zz_in (List.mem_of_getElem? (i := 586) (by decide +kernel)) rfl
theorem zw_587 : Cond.fieldLink "RequestGate$Tickets" (37 : Nat) "RequestGate$Ticket" "lastUsed" "I" ∈ zz_ws := zz_in (List.mem_of_getElem? (i := 587) (by decide +kernel)) rfl
theorem zw_588 : Cond.fieldLink "RequestGate" (265 : Nat) "RequestGate$Ticket" "lastUsed" "I" ∈ zz_ws := zz_in (List.mem_of_getElem? (i := 588) (by decide +kernel)) rfl
theorem zw_589 : Cond.laysFinal "RequestGate$Ticket" "RequestGate$Ticket" "user" "I" ∈ zz_ws := zz_in (List.mem_of_getElem? (i := 589) (by decide +kernel)) rfl
theorem zw_591 : Cond.laysFinal "RequestGate$Ticket" "RequestGate$Ticket" "id" "I" ∈ zz_ws := zz_in (List.mem_of_getElem? (i := 591) (by decide +kernel)) rfl
theorem zw_593 : Cond.lays "RequestGate$Ticket" "RequestGate$Ticket" "token" "I" ∈ zz_ws := zz_in (List.mem_of_getElem? (i := 593) (by decide +kernel)) rfl
theorem zw_595 : Cond.laysFinal "RequestGate$Ticket" "RequestGate$Ticket" "remembered" "Z" ∈ zz_ws := zz_in (List.mem_of_getElem? (i := 595) (by decide +kernel)) rfl
theorem zw_597 : Cond.laysFinal "RequestGate$Ticket" "RequestGate$Ticket" "made" "I" ∈ zz_ws := zz_in (List.mem_of_getElem? (i := 597) (by decide +kernel)) rfl
theorem zw_599 : Cond.lays "RequestGate$Ticket" "RequestGate$Ticket" "lastUsed" "I" ∈ zz_ws := zz_in (List.mem_of_getElem? (i := 599) (by decide +kernel)) rfl
theorem zw_602 : Cond.methodLink "RequestGate" (262 : Nat) ({ cls := "RequestGate$Tickets", name := "add", desc := "(LRequestGate$Ticket;)V" } : MethodName) ∈ zz_ws := zz_in (List.mem_of_getElem? (i := 602) (by decide +kernel)) rfl
theorem zw_603 : Cond.instanceMethod ({ cls := "RequestGate$Tickets", name := "add", desc := "(LRequestGate$Ticket;)V" } : MethodName) ∈ zz_ws := zz_in (List.mem_of_getElem? (i := 603) (by decide +kernel)) rfl
theorem zw_604 : Cond.selects "RequestGate$Tickets" ({ cls := "RequestGate$Tickets", name := "add", desc := "(LRequestGate$Ticket;)V" } : MethodName) ({ cls := "RequestGate$Tickets", name := "add", desc := "(LRequestGate$Ticket;)V" } : MethodName) ∈ zz_ws := zz_in (List.mem_of_getElem? (i := 604) (by decide +kernel)) rfl
theorem zw_605 : Cond.code ({ cls := "RequestGate$Tickets", name := "add", desc := "(LRequestGate$Ticket;)V" } : MethodName) prog_11_method_4_code (4 : Nat) (none : Option FieldType) ∈ zz_ws := zz_in (List.mem_of_getElem? (i := 605) (by decide +kernel)) rfl
theorem zw_606 : Cond.methodLink "RequestGate$Tickets" (33 : Nat) ({ cls := "RequestGate$Tickets", name := "findOf", desc := "(II)LRequestGate$Ticket;" } : MethodName) ∈ zz_ws := zz_in (List.mem_of_getElem? (i := 606) (by decide +kernel)) rfl
theorem zw_607 : Cond.instanceMethod ({ cls := "RequestGate$Tickets", name := "findOf", desc := "(II)LRequestGate$Ticket;" } : MethodName) ∈ zz_ws := zz_in (List.mem_of_getElem? (i := 607) (by decide +kernel)) rfl
theorem zw_608 : Cond.selects "RequestGate$Tickets" ({ cls := "RequestGate$Tickets", name := "findOf", desc := "(II)LRequestGate$Ticket;" } : MethodName) ({ cls := "RequestGate$Tickets", name := "findOf", desc := "(II)LRequestGate$Ticket;" } : MethodName) ∈ zz_ws := zz_in (List.mem_of_getElem? (i := 608) (by decide +kernel)) rfl
theorem zw_609 : Cond.code ({ cls := "RequestGate$Tickets", name := "findOf", desc := "(II)LRequestGate$Ticket;" } : MethodName) prog_11_method_3_code (6 : Nat) (Option.some (FieldType.object "RequestGate$Ticket")) ∈ zz_ws := zz_in (List.mem_of_getElem? (i := 609) (by decide +kernel)) rfl
theorem zw_610 : Cond.methodLink "RequestGate$Tickets" (40 : Nat) ({ cls := "RequestGate$Tickets", name := "end", desc := "(I)V" } : MethodName) ∈ zz_ws := zz_in (List.mem_of_getElem? (i := 610) (by decide +kernel)) rfl
theorem zw_611 : Cond.methodLink "RequestGate$Tickets" (44 : Nat) ({ cls := "java/util/ArrayList", name := "add", desc := "(Ljava/lang/Object;)Z" } : MethodName) ∈ zz_ws := zz_in (List.mem_of_getElem? (i := 611) (by decide +kernel)) rfl
theorem zw_612 : Cond.methodLink "RequestGateLaw" (59 : Nat) ({ cls := "RequestGate", name := "logout", desc := "(I)Z" } : MethodName) ∈ zz_ws := zz_in (List.mem_of_getElem? (i := 612) (by decide +kernel)) rfl
theorem zw_613 : Cond.instanceMethod ({ cls := "RequestGate", name := "logout", desc := "(I)Z" } : MethodName) ∈ zz_ws := zz_in (List.mem_of_getElem? (i := 613) (by decide +kernel)) rfl
theorem zw_614 : Cond.selects "RequestGate" ({ cls := "RequestGate", name := "logout", desc := "(I)Z" } : MethodName) ({ cls := "RequestGate", name := "logout", desc := "(I)Z" } : MethodName) ∈ zz_ws := zz_in (List.mem_of_getElem? (i := 614) (by decide +kernel)) rfl
theorem zw_615 : Cond.code ({ cls := "RequestGate", name := "logout", desc := "(I)Z" } : MethodName) prog_1_method_12_code (3 : Nat) (Option.some FieldType.boolean) ∈ zz_ws := zz_in (List.mem_of_getElem? (i := 615) (by decide +kernel)) rfl
theorem zw_616 : Cond.methodLink "RequestGate" (174 : Nat) ({ cls := "RequestGate$Tickets", name := "find", desc := "(I)LRequestGate$Ticket;" } : MethodName) ∈ zz_ws := zz_in (List.mem_of_getElem? (i := 616) (by decide +kernel)) rfl
theorem zw_617 : Cond.instanceMethod ({ cls := "RequestGate$Tickets", name := "find", desc := "(I)LRequestGate$Ticket;" } : MethodName) ∈ zz_ws := zz_in (List.mem_of_getElem? (i := 617) (by decide +kernel)) rfl
theorem zw_618 : Cond.selects "RequestGate$Tickets" ({ cls := "RequestGate$Tickets", name := "find", desc := "(I)LRequestGate$Ticket;" } : MethodName) ({ cls := "RequestGate$Tickets", name := "find", desc := "(I)LRequestGate$Ticket;" } : MethodName) ∈ zz_ws := zz_in (List.mem_of_getElem? (i := 618) (by decide +kernel)) rfl
theorem zw_619 : Cond.code ({ cls := "RequestGate$Tickets", name := "find", desc := "(I)LRequestGate$Ticket;" } : MethodName) prog_11_method_2_code (4 : Nat) (Option.some (FieldType.object "RequestGate$Ticket")) ∈ zz_ws := zz_in (List.mem_of_getElem? (i := 619) (by decide +kernel)) rfl
theorem zw_620 : Cond.methodLink "RequestGate" (183 : Nat) ({ cls := "RequestGate$Tickets", name := "endAllOf", desc := "(I)V" } : MethodName) ∈ zz_ws := zz_in (List.mem_of_getElem? (i := 620) (by decide +kernel)) rfl
theorem zw_621 : Cond.instanceMethod ({ cls := "RequestGate$Tickets", name := "endAllOf", desc := "(I)V" } : MethodName) ∈ zz_ws := zz_in (List.mem_of_getElem? (i := 621) (by decide +kernel)) rfl
theorem zw_622 : Cond.selects "RequestGate$Tickets" ({ cls := "RequestGate$Tickets", name := "endAllOf", desc := "(I)V" } : MethodName) ({ cls := "RequestGate$Tickets", name := "endAllOf", desc := "(I)V" } : MethodName) ∈ zz_ws := zz_in (List.mem_of_getElem? (i := 622) (by decide +kernel)) rfl
theorem zw_623 : Cond.code ({ cls := "RequestGate$Tickets", name := "endAllOf", desc := "(I)V" } : MethodName) prog_11_method_6_code (3 : Nat) (none : Option FieldType) ∈ zz_ws := zz_in (List.mem_of_getElem? (i := 623) (by decide +kernel)) rfl
theorem zw_624 : Cond.methodLink "RequestGateLaw" (63 : Nat) ({ cls := "RequestGate", name := "open", desc := "(IIIII)I" } : MethodName) ∈ zz_ws := zz_in (List.mem_of_getElem? (i := 624) (by decide +kernel)) rfl
theorem zw_625 : Cond.instanceMethod ({ cls := "RequestGate", name := "open", desc := "(IIIII)I" } : MethodName) ∈ zz_ws := zz_in (List.mem_of_getElem? (i := 625) (by decide +kernel)) rfl
theorem zw_626 : Cond.selects "RequestGate" ({ cls := "RequestGate", name := "open", desc := "(IIIII)I" } : MethodName) ({ cls := "RequestGate", name := "open", desc := "(IIIII)I" } : MethodName) ∈ zz_ws := zz_in (List.mem_of_getElem? (i := 626) (by decide +kernel)) rfl
theorem zw_627 : Cond.code ({ cls := "RequestGate", name := "open", desc := "(IIIII)I" } : MethodName) prog_1_method_13_code (10 : Nat) (Option.some FieldType.int) ∈ zz_ws := zz_in (List.mem_of_getElem? (i := 627) (by decide +kernel)) rfl
theorem zw_628 : Cond.methodLink "RequestGate" (190 : Nat) ({ cls := "RequestGate$PlainPath", name := "read", desc := "(LRequestGate$Text;)Z" } : MethodName) ∈ zz_ws := zz_in (List.mem_of_getElem? (i := 628) (by decide +kernel)) rfl
theorem zw_629 : Cond.instanceMethod ({ cls := "RequestGate$PlainPath", name := "read", desc := "(LRequestGate$Text;)Z" } : MethodName) ∈ zz_ws := zz_in (List.mem_of_getElem? (i := 629) (by decide +kernel)) rfl
theorem zw_630 : Cond.selects "RequestGate$PlainPath" ({ cls := "RequestGate$PlainPath", name := "read", desc := "(LRequestGate$Text;)Z" } : MethodName) ({ cls := "RequestGate$PlainPath", name := "read", desc := "(LRequestGate$Text;)Z" } : MethodName) ∈ zz_ws := zz_in (List.mem_of_getElem? (i := 630) (by decide +kernel)) rfl
theorem zw_631 : Cond.code ({ cls := "RequestGate$PlainPath", name := "read", desc := "(LRequestGate$Text;)Z" } : MethodName) prog_5_method_2_code (5 : Nat) (Option.some FieldType.boolean) ∈ zz_ws := zz_in (List.mem_of_getElem? (i := 631) (by decide +kernel)) rfl
theorem zw_632 : Cond.methodLink "RequestGate$PlainPath" (18 : Nat) ({ cls := "RequestGate$Pieces", name := "empty", desc := "()V" } : MethodName) ∈ zz_ws := zz_in (List.mem_of_getElem? (i := 632) (by decide +kernel)) rfl
theorem zw_633 : Cond.instanceMethod ({ cls := "RequestGate$Pieces", name := "empty", desc := "()V" } : MethodName) ∈ zz_ws := zz_in (List.mem_of_getElem? (i := 633) (by decide +kernel)) rfl
theorem zw_634 : Cond.selects "RequestGate$Pieces" ({ cls := "RequestGate$Pieces", name := "empty", desc := "()V" } : MethodName) ({ cls := "RequestGate$Pieces", name := "empty", desc := "()V" } : MethodName) ∈ zz_ws := zz_in (List.mem_of_getElem? (i := 634) (by decide +kernel)) rfl
theorem zw_635 : Cond.code ({ cls := "RequestGate$Pieces", name := "empty", desc := "()V" } : MethodName) prog_4_method_2_code (1 : Nat) (none : Option FieldType) ∈ zz_ws := zz_in (List.mem_of_getElem? (i := 635) (by decide +kernel)) rfl
theorem zw_636 : Cond.methodLink "RequestGate$PlainPath" (21 : Nat) ({ cls := "RequestGate$Text", name := "at", desc := "(I)C" } : MethodName) ∈ zz_ws := zz_in (List.mem_of_getElem? (i := 636) (by decide +kernel)) rfl
theorem zw_637 : Cond.methodLink "RequestGate$PlainPath" (27 : Nat) ({ cls := "RequestGate$Text", name := "holds", desc := "(C)Z" } : MethodName) ∈ zz_ws := zz_in (List.mem_of_getElem? (i := 637) (by decide +kernel)) rfl
theorem zw_638 : Cond.methodLink "RequestGate$PlainPath" (35 : Nat) ({ cls := "RequestGate$Text", name := "endsPieceAt", desc := "(I)Z" } : MethodName) ∈ zz_ws := zz_in (List.mem_of_getElem? (i := 638) (by decide +kernel)) rfl
theorem zw_639 : Cond.methodLink "RequestGate$PlainPath" (39 : Nat) ({ cls := "RequestGate$Text", name := "find", desc := "(CII)I" } : MethodName) ∈ zz_ws := zz_in (List.mem_of_getElem? (i := 639) (by decide +kernel)) rfl
theorem zw_640 : Cond.methodLink "RequestGate$PlainPath" (43 : Nat) ({ cls := "RequestGate$PlainPath", name := "decode", desc := "(LRequestGate$Text;II)Z" } : MethodName) ∈ zz_ws := zz_in (List.mem_of_getElem? (i := 640) (by decide +kernel)) rfl
theorem zw_642 : Cond.instanceMethod ({ cls := "RequestGate$PlainPath", name := "decode", desc := "(LRequestGate$Text;II)Z" } : MethodName) ∈ zz_ws := zz_in (List.mem_of_getElem? (i := 642) (by decide +kernel)) rfl
theorem zw_643 : Cond.code ({ cls := "RequestGate$PlainPath", name := "decode", desc := "(LRequestGate$Text;II)Z" } : MethodName) prog_5_method_3_code (6 : Nat) (Option.some FieldType.boolean) ∈ zz_ws := zz_in (List.mem_of_getElem? (i := 643) (by decide +kernel)) rfl
theorem zw_644 : Cond.methodLink "RequestGate$PlainPath" (51 : Nat) ({ cls := "RequestGate$PlainPath", name := "codeOf", desc := "(CC)I" } : MethodName) ∈ zz_ws := zz_in (List.mem_of_getElem? (i := 644) (by decide +kernel)) rfl
theorem zw_645 : Cond.static ({ cls := "RequestGate$PlainPath", name := "codeOf", desc := "(CC)I" } : MethodName) ∈ zz_ws := zz_in (List.mem_of_getElem? (i := 645) (by decide +kernel)) rfl
theorem zw_646 : Cond.code ({ cls := "RequestGate$PlainPath", name := "codeOf", desc := "(CC)I" } : MethodName) prog_5_method_4_code (6 : Nat) (Option.some FieldType.int) ∈ zz_ws := zz_in (List.mem_of_getElem? (i := 646) (by decide +kernel)) rfl
theorem zw_647 : Cond.methodLink "RequestGate$PlainPath" (59 : Nat) ({ cls := "RequestGate$PlainPath", name := "digitOf", desc := "(C)I" } : MethodName) ∈ zz_ws := zz_in (List.mem_of_getElem? (i := 647) (by decide +kernel)) rfl
theorem zw_648 : Cond.static ({ cls := "RequestGate$PlainPath", name := "digitOf", desc := "(C)I" } : MethodName) ∈ zz_ws := zz_in (List.mem_of_getElem? (i := 648) (by decide +kernel)) rfl
theorem zw_649 : Cond.code ({ cls := "RequestGate$PlainPath", name := "digitOf", desc := "(C)I" } : MethodName) prog_5_method_5_code (1 : Nat) (Option.some FieldType.int) ∈ zz_ws := zz_in (List.mem_of_getElem? (i := 649) (by decide +kernel)) rfl
theorem zw_650 : Cond.methodLink "RequestGate$PlainPath" (63 : Nat) ({ cls := "RequestGate$Text", name := "isCode", desc := "(I)Z" } : MethodName) ∈ zz_ws := zz_in (List.mem_of_getElem? (i := 650) (by decide +kernel)) rfl
theorem zw_651 : Cond.methodLink "RequestGate$PlainPath" (55 : Nat) ({ cls := "RequestGate$Pieces", name := "write", desc := "(I)V" } : MethodName) ∈ zz_ws := zz_in (List.mem_of_getElem? (i := 651) (by decide +kernel)) rfl
theorem zw_652 : Cond.methodLink "RequestGate$PlainPath" (47 : Nat) ({ cls := "RequestGate$PlainPath", name := "place", desc := "(Z)Z" } : MethodName) ∈ zz_ws := zz_in (List.mem_of_getElem? (i := 652) (by decide +kernel)) rfl
theorem zw_654 : Cond.instanceMethod ({ cls := "RequestGate$PlainPath", name := "place", desc := "(Z)Z" } : MethodName) ∈ zz_ws := zz_in (List.mem_of_getElem? (i := 654) (by decide +kernel)) rfl
theorem zw_655 : Cond.code ({ cls := "RequestGate$PlainPath", name := "place", desc := "(Z)Z" } : MethodName) prog_5_method_6_code (3 : Nat) (Option.some FieldType.boolean) ∈ zz_ws := zz_in (List.mem_of_getElem? (i := 655) (by decide +kernel)) rfl
theorem zw_656 : Cond.methodLink "RequestGate$PlainPath" (66 : Nat) ({ cls := "RequestGate$Pieces", name := "writtenLength", desc := "()I" } : MethodName) ∈ zz_ws := zz_in (List.mem_of_getElem? (i := 656) (by decide +kernel)) rfl
theorem zw_657 : Cond.instanceMethod ({ cls := "RequestGate$Pieces", name := "writtenLength", desc := "()I" } : MethodName) ∈ zz_ws := zz_in (List.mem_of_getElem? (i := 657) (by decide +kernel)) rfl
theorem zw_658 : Cond.selects "RequestGate$Pieces" ({ cls := "RequestGate$Pieces", name := "writtenLength", desc := "()I" } : MethodName) ({ cls := "RequestGate$Pieces", name := "writtenLength", desc := "()I" } : MethodName) ∈ zz_ws := zz_in (List.mem_of_getElem? (i := 658) (by decide +kernel)) rfl
theorem zw_659 : Cond.code ({ cls := "RequestGate$Pieces", name := "writtenLength", desc := "()I" } : MethodName) prog_4_method_4_code (1 : Nat) (Option.some FieldType.int) ∈ zz_ws := zz_in (List.mem_of_getElem? (i := 659) (by decide +kernel)) rfl
theorem zw_660 : Cond.methodLink "RequestGate$PlainPath" (70 : Nat) ({ cls := "RequestGate$Pieces", name := "wroteDots", desc := "(I)Z" } : MethodName) ∈ zz_ws := zz_in (List.mem_of_getElem? (i := 660) (by decide +kernel)) rfl
theorem zw_661 : Cond.instanceMethod ({ cls := "RequestGate$Pieces", name := "wroteDots", desc := "(I)Z" } : MethodName) ∈ zz_ws := zz_in (List.mem_of_getElem? (i := 661) (by decide +kernel)) rfl
theorem zw_662 : Cond.selects "RequestGate$Pieces" ({ cls := "RequestGate$Pieces", name := "wroteDots", desc := "(I)Z" } : MethodName) ({ cls := "RequestGate$Pieces", name := "wroteDots", desc := "(I)Z" } : MethodName) ∈ zz_ws := zz_in (List.mem_of_getElem? (i := 662) (by decide +kernel)) rfl
theorem zw_663 : Cond.code ({ cls := "RequestGate$Pieces", name := "wroteDots", desc := "(I)Z" } : MethodName) prog_4_method_5_code (3 : Nat) (Option.some FieldType.boolean) ∈ zz_ws := zz_in (List.mem_of_getElem? (i := 663) (by decide +kernel)) rfl
theorem zw_664 : Cond.methodLink "RequestGate$Pieces" (32 : Nat) ({ cls := "RequestGate$Pieces", name := "writtenLength", desc := "()I" } : MethodName) ∈ zz_ws := zz_in (List.mem_of_getElem? (i := 664) (by decide +kernel)) rfl
theorem zw_665 : Cond.methodLink "RequestGate$PlainPath" (73 : Nat) ({ cls := "RequestGate$Pieces", name := "dropWritten", desc := "()V" } : MethodName) ∈ zz_ws := zz_in (List.mem_of_getElem? (i := 665) (by decide +kernel)) rfl
theorem zw_666 : Cond.instanceMethod ({ cls := "RequestGate$Pieces", name := "dropWritten", desc := "()V" } : MethodName) ∈ zz_ws := zz_in (List.mem_of_getElem? (i := 666) (by decide +kernel)) rfl
theorem zw_667 : Cond.selects "RequestGate$Pieces" ({ cls := "RequestGate$Pieces", name := "dropWritten", desc := "()V" } : MethodName) ({ cls := "RequestGate$Pieces", name := "dropWritten", desc := "()V" } : MethodName) ∈ zz_ws := zz_in (List.mem_of_getElem? (i := 667) (by decide +kernel)) rfl
theorem zw_668 : Cond.code ({ cls := "RequestGate$Pieces", name := "dropWritten", desc := "()V" } : MethodName) prog_4_method_7_code (1 : Nat) (none : Option FieldType) ∈ zz_ws := zz_in (List.mem_of_getElem? (i := 668) (by decide +kernel)) rfl
theorem zw_669 : Cond.methodLink "RequestGate$PlainPath" (79 : Nat) ({ cls := "RequestGate$Pieces", name := "dropLastKept", desc := "()V" } : MethodName) ∈ zz_ws := zz_in (List.mem_of_getElem? (i := 669) (by decide +kernel)) rfl
theorem zw_670 : Cond.instanceMethod ({ cls := "RequestGate$Pieces", name := "dropLastKept", desc := "()V" } : MethodName) ∈ zz_ws := zz_in (List.mem_of_getElem? (i := 670) (by decide +kernel)) rfl
theorem zw_671 : Cond.selects "RequestGate$Pieces" ({ cls := "RequestGate$Pieces", name := "dropLastKept", desc := "()V" } : MethodName) ({ cls := "RequestGate$Pieces", name := "dropLastKept", desc := "()V" } : MethodName) ∈ zz_ws := zz_in (List.mem_of_getElem? (i := 671) (by decide +kernel)) rfl
theorem zw_672 : Cond.code ({ cls := "RequestGate$Pieces", name := "dropLastKept", desc := "()V" } : MethodName) prog_4_method_8_code (1 : Nat) (none : Option FieldType) ∈ zz_ws := zz_in (List.mem_of_getElem? (i := 672) (by decide +kernel)) rfl
theorem zw_673 : Cond.methodLink "RequestGate$PlainPath" (82 : Nat) ({ cls := "RequestGate$Pieces", name := "keepWritten", desc := "()V" } : MethodName) ∈ zz_ws := zz_in (List.mem_of_getElem? (i := 673) (by decide +kernel)) rfl
theorem zw_674 : Cond.methodLink "RequestGate" (193 : Nat) ({ cls := "RequestGate", name := "subjectOf", desc := "(LRequestGate$Ticket;)I" } : MethodName) ∈ zz_ws := zz_in (List.mem_of_getElem? (i := 674) (by decide +kernel)) rfl
theorem zw_676 : Cond.instanceMethod ({ cls := "RequestGate", name := "subjectOf", desc := "(LRequestGate$Ticket;)I" } : MethodName) ∈ zz_ws := zz_in (List.mem_of_getElem? (i := 676) (by decide +kernel)) rfl
theorem zw_677 : Cond.code ({ cls := "RequestGate", name := "subjectOf", desc := "(LRequestGate$Ticket;)I" } : MethodName) prog_1_method_29_code (2 : Nat) (Option.some FieldType.int) ∈ zz_ws := zz_in (List.mem_of_getElem? (i := 677) (by decide +kernel)) rfl
theorem zw_678 : Cond.methodLink "RequestGate" (197 : Nat) ({ cls := "RequestGate", name := "subjectBySeries", desc := "(II)I" } : MethodName) ∈ zz_ws := zz_in (List.mem_of_getElem? (i := 678) (by decide +kernel)) rfl
theorem zw_680 : Cond.instanceMethod ({ cls := "RequestGate", name := "subjectBySeries", desc := "(II)I" } : MethodName) ∈ zz_ws := zz_in (List.mem_of_getElem? (i := 680) (by decide +kernel)) rfl
theorem zw_681 : Cond.code ({ cls := "RequestGate", name := "subjectBySeries", desc := "(II)I" } : MethodName) prog_1_method_30_code (4 : Nat) (Option.some FieldType.int) ∈ zz_ws := zz_in (List.mem_of_getElem? (i := 681) (by decide +kernel)) rfl
theorem zw_682 : Cond.methodLink "RequestGate" (204 : Nat) ({ cls := "RequestGate", name := "decide", desc := "(II)I" } : MethodName) ∈ zz_ws := zz_in (List.mem_of_getElem? (i := 682) (by decide +kernel)) rfl
theorem zw_684 : Cond.instanceMethod ({ cls := "RequestGate", name := "decide", desc := "(II)I" } : MethodName) ∈ zz_ws := zz_in (List.mem_of_getElem? (i := 684) (by decide +kernel)) rfl
theorem zw_685 : Cond.code ({ cls := "RequestGate", name := "decide", desc := "(II)I" } : MethodName) prog_1_method_31_code (4 : Nat) (Option.some FieldType.int) ∈ zz_ws := zz_in (List.mem_of_getElem? (i := 685) (by decide +kernel)) rfl
theorem zw_686 : Cond.methodLink "RequestGate" (268 : Nat) ({ cls := "RequestGate", name := "firstRuleThatFits", desc := "(I)I" } : MethodName) ∈ zz_ws := zz_in (List.mem_of_getElem? (i := 686) (by decide +kernel)) rfl
theorem zw_688 : Cond.instanceMethod ({ cls := "RequestGate", name := "firstRuleThatFits", desc := "(I)I" } : MethodName) ∈ zz_ws := zz_in (List.mem_of_getElem? (i := 688) (by decide +kernel)) rfl
theorem zw_689 : Cond.code ({ cls := "RequestGate", name := "firstRuleThatFits", desc := "(I)I" } : MethodName) prog_1_method_32_code (4 : Nat) (Option.some FieldType.int) ∈ zz_ws := zz_in (List.mem_of_getElem? (i := 689) (by decide +kernel)) rfl
theorem zw_690 : Cond.methodLink "RequestGate" (279 : Nat) ({ cls := "RequestGate$Rule", name := "isFor", desc := "(I)Z" } : MethodName) ∈ zz_ws := zz_in (List.mem_of_getElem? (i := 690) (by decide +kernel)) rfl
theorem zw_691 : Cond.instanceMethod ({ cls := "RequestGate$Rule", name := "isFor", desc := "(I)Z" } : MethodName) ∈ zz_ws := zz_in (List.mem_of_getElem? (i := 691) (by decide +kernel)) rfl
theorem zw_692 : Cond.selects "RequestGate$Rule" ({ cls := "RequestGate$Rule", name := "isFor", desc := "(I)Z" } : MethodName) ({ cls := "RequestGate$Rule", name := "isFor", desc := "(I)Z" } : MethodName) ∈ zz_ws := zz_in (List.mem_of_getElem? (i := 692) (by decide +kernel)) rfl
theorem zw_693 : Cond.code ({ cls := "RequestGate$Rule", name := "isFor", desc := "(I)Z" } : MethodName) prog_7_method_2_code (2 : Nat) (Option.some FieldType.boolean) ∈ zz_ws := zz_in (List.mem_of_getElem? (i := 693) (by decide +kernel)) rfl
theorem zw_694 : Cond.methodLink "RequestGate" (233 : Nat) ({ cls := "RequestGate$Layer", name := "canLay", desc := "(LRequestGate$Pieces;LRequestGate$Pieces;)Z" } : MethodName) ∈ zz_ws := zz_in (List.mem_of_getElem? (i := 694) (by decide +kernel)) rfl
theorem zw_695 : Cond.instanceMethod ({ cls := "RequestGate$Layer", name := "canLay", desc := "(LRequestGate$Pieces;LRequestGate$Pieces;)Z" } : MethodName) ∈ zz_ws := zz_in (List.mem_of_getElem? (i := 695) (by decide +kernel)) rfl
theorem zw_696 : Cond.selects "RequestGate$Layer" ({ cls := "RequestGate$Layer", name := "canLay", desc := "(LRequestGate$Pieces;LRequestGate$Pieces;)Z" } : MethodName) ({ cls := "RequestGate$Layer", name := "canLay", desc := "(LRequestGate$Pieces;LRequestGate$Pieces;)Z" } : MethodName) ∈ zz_ws := zz_in (List.mem_of_getElem? (i := 696) (by decide +kernel)) rfl
theorem zw_697 : Cond.code ({ cls := "RequestGate$Layer", name := "canLay", desc := "(LRequestGate$Pieces;LRequestGate$Pieces;)Z" } : MethodName) prog_3_method_2_code (4 : Nat) (Option.some FieldType.boolean) ∈ zz_ws := zz_in (List.mem_of_getElem? (i := 697) (by decide +kernel)) rfl
theorem zw_698 : Cond.methodLink "RequestGate$Layer" (18 : Nat) ({ cls := "RequestGate$Layer", name := "begin", desc := "([Z)V" } : MethodName) ∈ zz_ws := zz_in (List.mem_of_getElem? (i := 698) (by decide +kernel)) rfl
theorem zw_699 : Cond.static ({ cls := "RequestGate$Layer", name := "begin", desc := "([Z)V" } : MethodName) ∈ zz_ws := zz_in (List.mem_of_getElem? (i := 699) (by decide +kernel)) rfl
theorem zw_700 : Cond.code ({ cls := "RequestGate$Layer", name := "begin", desc := "([Z)V" } : MethodName) prog_3_method_5_code (2 : Nat) (none : Option FieldType) ∈ zz_ws := zz_in (List.mem_of_getElem? (i := 700) (by decide +kernel)) rfl
theorem zw_701 : Cond.methodLink "RequestGate$Layer" (28 : Nat) ({ cls := "RequestGate$Pieces", name := "isTwoStars", desc := "(I)Z" } : MethodName) ∈ zz_ws := zz_in (List.mem_of_getElem? (i := 701) (by decide +kernel)) rfl
theorem zw_702 : Cond.instanceMethod ({ cls := "RequestGate$Pieces", name := "isTwoStars", desc := "(I)Z" } : MethodName) ∈ zz_ws := zz_in (List.mem_of_getElem? (i := 702) (by decide +kernel)) rfl
theorem zw_703 : Cond.selects "RequestGate$Pieces" ({ cls := "RequestGate$Pieces", name := "isTwoStars", desc := "(I)Z" } : MethodName) ({ cls := "RequestGate$Pieces", name := "isTwoStars", desc := "(I)Z" } : MethodName) ∈ zz_ws := zz_in (List.mem_of_getElem? (i := 703) (by decide +kernel)) rfl
theorem zw_704 : Cond.code ({ cls := "RequestGate$Pieces", name := "isTwoStars", desc := "(I)Z" } : MethodName) prog_4_method_11_code (2 : Nat) (Option.some FieldType.boolean) ∈ zz_ws := zz_in (List.mem_of_getElem? (i := 704) (by decide +kernel)) rfl
theorem zw_705 : Cond.methodLink "RequestGate$Pieces" (36 : Nat) ({ cls := "RequestGate$Pieces", name := "lengthOf", desc := "(I)I" } : MethodName) ∈ zz_ws := zz_in (List.mem_of_getElem? (i := 705) (by decide +kernel)) rfl
theorem zw_706 : Cond.instanceMethod ({ cls := "RequestGate$Pieces", name := "lengthOf", desc := "(I)I" } : MethodName) ∈ zz_ws := zz_in (List.mem_of_getElem? (i := 706) (by decide +kernel)) rfl
theorem zw_707 : Cond.selects "RequestGate$Pieces" ({ cls := "RequestGate$Pieces", name := "lengthOf", desc := "(I)I" } : MethodName) ({ cls := "RequestGate$Pieces", name := "lengthOf", desc := "(I)I" } : MethodName) ∈ zz_ws := zz_in (List.mem_of_getElem? (i := 707) (by decide +kernel)) rfl
theorem zw_708 : Cond.code ({ cls := "RequestGate$Pieces", name := "lengthOf", desc := "(I)I" } : MethodName) prog_4_method_9_code (2 : Nat) (Option.some FieldType.int) ∈ zz_ws := zz_in (List.mem_of_getElem? (i := 708) (by decide +kernel)) rfl
theorem zw_709 : Cond.methodLink "RequestGate$Pieces" (40 : Nat) ({ cls := "RequestGate$Pieces", name := "at", desc := "(II)C" } : MethodName) ∈ zz_ws := zz_in (List.mem_of_getElem? (i := 709) (by decide +kernel)) rfl
theorem zw_710 : Cond.instanceMethod ({ cls := "RequestGate$Pieces", name := "at", desc := "(II)C" } : MethodName) ∈ zz_ws := zz_in (List.mem_of_getElem? (i := 710) (by decide +kernel)) rfl
theorem zw_711 : Cond.selects "RequestGate$Pieces" ({ cls := "RequestGate$Pieces", name := "at", desc := "(II)C" } : MethodName) ({ cls := "RequestGate$Pieces", name := "at", desc := "(II)C" } : MethodName) ∈ zz_ws := zz_in (List.mem_of_getElem? (i := 711) (by decide +kernel)) rfl
theorem zw_712 : Cond.code ({ cls := "RequestGate$Pieces", name := "at", desc := "(II)C" } : MethodName) prog_4_method_10_code (3 : Nat) (Option.some FieldType.char) ∈ zz_ws := zz_in (List.mem_of_getElem? (i := 712) (by decide +kernel)) rfl
theorem zw_713 : Cond.methodLink "RequestGate$Layer" (32 : Nat) ({ cls := "RequestGate$Layer", name := "spread", desc := "([Z)V" } : MethodName) ∈ zz_ws := zz_in (List.mem_of_getElem? (i := 713) (by decide +kernel)) rfl
theorem zw_714 : Cond.static ({ cls := "RequestGate$Layer", name := "spread", desc := "([Z)V" } : MethodName) ∈ zz_ws := zz_in (List.mem_of_getElem? (i := 714) (by decide +kernel)) rfl
theorem zw_715 : Cond.code ({ cls := "RequestGate$Layer", name := "spread", desc := "([Z)V" } : MethodName) prog_3_method_6_code (2 : Nat) (none : Option FieldType) ∈ zz_ws := zz_in (List.mem_of_getElem? (i := 715) (by decide +kernel)) rfl
theorem zw_716 : Cond.methodLink "RequestGate$Layer" (35 : Nat) ({ cls := "RequestGate$Layer", name := "layOnOne", desc := "(LRequestGate$Pieces;ILRequestGate$Pieces;)V" } : MethodName) ∈ zz_ws := zz_in (List.mem_of_getElem? (i := 716) (by decide +kernel)) rfl
theorem zw_718 : Cond.instanceMethod ({ cls := "RequestGate$Layer", name := "layOnOne", desc := "(LRequestGate$Pieces;ILRequestGate$Pieces;)V" } : MethodName) ∈ zz_ws := zz_in (List.mem_of_getElem? (i := 718) (by decide +kernel)) rfl
theorem zw_719 : Cond.code ({ cls := "RequestGate$Layer", name := "layOnOne", desc := "(LRequestGate$Pieces;ILRequestGate$Pieces;)V" } : MethodName) prog_3_method_3_code (5 : Nat) (none : Option FieldType) ∈ zz_ws := zz_in (List.mem_of_getElem? (i := 719) (by decide +kernel)) rfl
theorem zw_720 : Cond.methodLink "RequestGate$Layer" (39 : Nat) ({ cls := "RequestGate$Layer", name := "covers", desc := "(LRequestGate$Pieces;ILRequestGate$Pieces;I)Z" } : MethodName) ∈ zz_ws := zz_in (List.mem_of_getElem? (i := 720) (by decide +kernel)) rfl
theorem zw_722 : Cond.instanceMethod ({ cls := "RequestGate$Layer", name := "covers", desc := "(LRequestGate$Pieces;ILRequestGate$Pieces;I)Z" } : MethodName) ∈ zz_ws := zz_in (List.mem_of_getElem? (i := 722) (by decide +kernel)) rfl
theorem zw_723 : Cond.code ({ cls := "RequestGate$Layer", name := "covers", desc := "(LRequestGate$Pieces;ILRequestGate$Pieces;I)Z" } : MethodName) prog_3_method_4_code (9 : Nat) (Option.some FieldType.boolean) ∈ zz_ws := zz_in (List.mem_of_getElem? (i := 723) (by decide +kernel)) rfl
theorem zw_724 : Cond.methodLink "RequestGate$Layer" (43 : Nat) ({ cls := "RequestGate$Pieces", name := "lengthOf", desc := "(I)I" } : MethodName) ∈ zz_ws := zz_in (List.mem_of_getElem? (i := 724) (by decide +kernel)) rfl
theorem zw_725 : Cond.methodLink "RequestGate$Layer" (47 : Nat) ({ cls := "RequestGate$Pieces", name := "at", desc := "(II)C" } : MethodName) ∈ zz_ws := zz_in (List.mem_of_getElem? (i := 725) (by decide +kernel)) rfl
theorem zw_726 : Cond.methodLink "RequestGate" (216 : Nat) ({ cls := "RequestGate", name := "isTrue", desc := "(III)Z" } : MethodName) ∈ zz_ws := zz_in (List.mem_of_getElem? (i := 726) (by decide +kernel)) rfl
theorem zw_728 : Cond.instanceMethod ({ cls := "RequestGate", name := "isTrue", desc := "(III)Z" } : MethodName) ∈ zz_ws := zz_in (List.mem_of_getElem? (i := 728) (by decide +kernel)) rfl
theorem zw_729 : Cond.code ({ cls := "RequestGate", name := "isTrue", desc := "(III)Z" } : MethodName) prog_1_method_33_code (6 : Nat) (Option.some FieldType.boolean) ∈ zz_ws := zz_in (List.mem_of_getElem? (i := 729) (by decide +kernel)) rfl
theorem zw_730 : Cond.methodLink "RequestGate" (285 : Nat) ({ cls := "RequestGate$Roles", name := "includedIn", desc := "(I)I" } : MethodName) ∈ zz_ws := zz_in (List.mem_of_getElem? (i := 730) (by decide +kernel)) rfl
theorem zw_731 : Cond.instanceMethod ({ cls := "RequestGate$Roles", name := "includedIn", desc := "(I)I" } : MethodName) ∈ zz_ws := zz_in (List.mem_of_getElem? (i := 731) (by decide +kernel)) rfl
theorem zw_732 : Cond.selects "RequestGate$Roles" ({ cls := "RequestGate$Roles", name := "includedIn", desc := "(I)I" } : MethodName) ({ cls := "RequestGate$Roles", name := "includedIn", desc := "(I)I" } : MethodName) ∈ zz_ws := zz_in (List.mem_of_getElem? (i := 732) (by decide +kernel)) rfl
theorem zw_733 : Cond.code ({ cls := "RequestGate$Roles", name := "includedIn", desc := "(I)I" } : MethodName) prog_6_method_5_code (4 : Nat) (Option.some FieldType.int) ∈ zz_ws := zz_in (List.mem_of_getElem? (i := 733) (by decide +kernel)) rfl
theorem zw_734 : Cond.methodLink "RequestGate" (288 : Nat) ({ cls := "RequestGate$Conditions", name := "isTrueFor", desc := "(IIII)Z" } : MethodName) ∈ zz_ws := zz_in (List.mem_of_getElem? (i := 734) (by decide +kernel)) rfl
theorem zw_735 : Cond.instanceMethod ({ cls := "RequestGate$Conditions", name := "isTrueFor", desc := "(IIII)Z" } : MethodName) ∈ zz_ws := zz_in (List.mem_of_getElem? (i := 735) (by decide +kernel)) rfl
theorem zw_736 : Cond.selects "RequestGate$Conditions" ({ cls := "RequestGate$Conditions", name := "isTrueFor", desc := "(IIII)Z" } : MethodName) ({ cls := "RequestGate$Conditions", name := "isTrueFor", desc := "(IIII)Z" } : MethodName) ∈ zz_ws := zz_in (List.mem_of_getElem? (i := 736) (by decide +kernel)) rfl
theorem zw_737 : Cond.code ({ cls := "RequestGate$Conditions", name := "isTrueFor", desc := "(IIII)Z" } : MethodName) prog_2_method_5_code (7 : Nat) (Option.some FieldType.boolean) ∈ zz_ws := zz_in (List.mem_of_getElem? (i := 737) (by decide +kernel)) rfl
theorem zw_738 : Cond.methodLink "RequestGate$Conditions" (41 : Nat) ({ cls := "RequestGate$Conditions", name := "jointValue", desc := "(I)I" } : MethodName) ∈ zz_ws := zz_in (List.mem_of_getElem? (i := 738) (by decide +kernel)) rfl
theorem zw_740 : Cond.instanceMethod ({ cls := "RequestGate$Conditions", name := "jointValue", desc := "(I)I" } : MethodName) ∈ zz_ws := zz_in (List.mem_of_getElem? (i := 740) (by decide +kernel)) rfl
theorem zw_741 : Cond.code ({ cls := "RequestGate$Conditions", name := "jointValue", desc := "(I)I" } : MethodName) prog_2_method_6_code (4 : Nat) (Option.some FieldType.int) ∈ zz_ws := zz_in (List.mem_of_getElem? (i := 741) (by decide +kernel)) rfl
theorem zw_742 : Cond.methodLink "RequestGate$Conditions" (49 : Nat) ({ cls := "RequestGate$Conditions", name := "truth", desc := "(Z)I" } : MethodName) ∈ zz_ws := zz_in (List.mem_of_getElem? (i := 742) (by decide +kernel)) rfl
theorem zw_743 : Cond.static ({ cls := "RequestGate$Conditions", name := "truth", desc := "(Z)I" } : MethodName) ∈ zz_ws := zz_in (List.mem_of_getElem? (i := 743) (by decide +kernel)) rfl
theorem zw_744 : Cond.code ({ cls := "RequestGate$Conditions", name := "truth", desc := "(Z)I" } : MethodName) prog_2_method_8_code (1 : Nat) (Option.some FieldType.int) ∈ zz_ws := zz_in (List.mem_of_getElem? (i := 744) (by decide +kernel)) rfl
theorem zw_745 : Cond.methodLink "RequestGate$Conditions" (45 : Nat) ({ cls := "RequestGate$Conditions", name := "singleValue", desc := "(IIII)I" } : MethodName) ∈ zz_ws := zz_in (List.mem_of_getElem? (i := 745) (by decide +kernel)) rfl
theorem zw_747 : Cond.instanceMethod ({ cls := "RequestGate$Conditions", name := "singleValue", desc := "(IIII)I" } : MethodName) ∈ zz_ws := zz_in (List.mem_of_getElem? (i := 747) (by decide +kernel)) rfl
theorem zw_748 : Cond.code ({ cls := "RequestGate$Conditions", name := "singleValue", desc := "(IIII)I" } : MethodName) prog_2_method_7_code (7 : Nat) (Option.some FieldType.int) ∈ zz_ws := zz_in (List.mem_of_getElem? (i := 748) (by decide +kernel)) rfl
theorem zw_749 : Cond.methodLink "RequestGate$Conditions" (53 : Nat) ({ cls := "RequestGate$Roles", name := "contains", desc := "(II)Z" } : MethodName) ∈ zz_ws := zz_in (List.mem_of_getElem? (i := 749) (by decide +kernel)) rfl
theorem zw_750 : Cond.methodLink "RequestGateLaw" (68 : Nat) ({ cls := "RequestGate", name := "call", desc := "(III)I" } : MethodName) ∈ zz_ws := zz_in (List.mem_of_getElem? (i := 750) (by decide +kernel)) rfl
theorem zw_751 : Cond.instanceMethod ({ cls := "RequestGate", name := "call", desc := "(III)I" } : MethodName) ∈ zz_ws := zz_in (List.mem_of_getElem? (i := 751) (by decide +kernel)) rfl
theorem zw_752 : Cond.selects "RequestGate" ({ cls := "RequestGate", name := "call", desc := "(III)I" } : MethodName) ({ cls := "RequestGate", name := "call", desc := "(III)I" } : MethodName) ∈ zz_ws := zz_in (List.mem_of_getElem? (i := 752) (by decide +kernel)) rfl
theorem zw_753 : Cond.code ({ cls := "RequestGate", name := "call", desc := "(III)I" } : MethodName) prog_1_method_14_code (6 : Nat) (Option.some FieldType.int) ∈ zz_ws := zz_in (List.mem_of_getElem? (i := 753) (by decide +kernel)) rfl
theorem zw_754 : Cond.methodLink "RequestGate" (207 : Nat) ({ cls := "RequestGate", name := "typeThatDeclares", desc := "(II)I" } : MethodName) ∈ zz_ws := zz_in (List.mem_of_getElem? (i := 754) (by decide +kernel)) rfl
theorem zw_756 : Cond.instanceMethod ({ cls := "RequestGate", name := "typeThatDeclares", desc := "(II)I" } : MethodName) ∈ zz_ws := zz_in (List.mem_of_getElem? (i := 756) (by decide +kernel)) rfl
theorem zw_757 : Cond.code ({ cls := "RequestGate", name := "typeThatDeclares", desc := "(II)I" } : MethodName) prog_1_method_34_code (6 : Nat) (Option.some FieldType.int) ∈ zz_ws := zz_in (List.mem_of_getElem? (i := 757) (by decide +kernel)) rfl
theorem zw_758 : Cond.methodLink "RequestGate" (292 : Nat) ({ cls := "RequestGate$Service", name := "declares", desc := "(I)Z" } : MethodName) ∈ zz_ws := zz_in (List.mem_of_getElem? (i := 758) (by decide +kernel)) rfl
theorem zw_759 : Cond.instanceMethod ({ cls := "RequestGate$Service", name := "declares", desc := "(I)Z" } : MethodName) ∈ zz_ws := zz_in (List.mem_of_getElem? (i := 759) (by decide +kernel)) rfl
theorem zw_760 : Cond.selects "RequestGate$Service" ({ cls := "RequestGate$Service", name := "declares", desc := "(I)Z" } : MethodName) ({ cls := "RequestGate$Service", name := "declares", desc := "(I)Z" } : MethodName) ∈ zz_ws := zz_in (List.mem_of_getElem? (i := 760) (by decide +kernel)) rfl
theorem zw_761 : Cond.code ({ cls := "RequestGate$Service", name := "declares", desc := "(I)Z" } : MethodName) prog_8_method_2_code (2 : Nat) (Option.some FieldType.boolean) ∈ zz_ws := zz_in (List.mem_of_getElem? (i := 761) (by decide +kernel)) rfl
theorem zw_762 : Cond.methodLink "RequestGate" (210 : Nat) ({ cls := "RequestGate", name := "conditionAt", desc := "(II)I" } : MethodName) ∈ zz_ws := zz_in (List.mem_of_getElem? (i := 762) (by decide +kernel)) rfl
theorem zw_764 : Cond.instanceMethod ({ cls := "RequestGate", name := "conditionAt", desc := "(II)I" } : MethodName) ∈ zz_ws := zz_in (List.mem_of_getElem? (i := 764) (by decide +kernel)) rfl
theorem zw_765 : Cond.code ({ cls := "RequestGate", name := "conditionAt", desc := "(II)I" } : MethodName) prog_1_method_36_code (3 : Nat) (Option.some FieldType.int) ∈ zz_ws := zz_in (List.mem_of_getElem? (i := 765) (by decide +kernel)) rfl
theorem zw_766 : Cond.methodLink "RequestGate" (301 : Nat) ({ cls := "RequestGate$Service", name := "conditionOf", desc := "(I)I" } : MethodName) ∈ zz_ws := zz_in (List.mem_of_getElem? (i := 766) (by decide +kernel)) rfl
theorem zw_767 : Cond.instanceMethod ({ cls := "RequestGate$Service", name := "conditionOf", desc := "(I)I" } : MethodName) ∈ zz_ws := zz_in (List.mem_of_getElem? (i := 767) (by decide +kernel)) rfl
theorem zw_768 : Cond.selects "RequestGate$Service" ({ cls := "RequestGate$Service", name := "conditionOf", desc := "(I)I" } : MethodName) ({ cls := "RequestGate$Service", name := "conditionOf", desc := "(I)I" } : MethodName) ∈ zz_ws := zz_in (List.mem_of_getElem? (i := 768) (by decide +kernel)) rfl
theorem zw_769 : Cond.code ({ cls := "RequestGate$Service", name := "conditionOf", desc := "(I)I" } : MethodName) prog_8_method_4_code (2 : Nat) (Option.some FieldType.int) ∈ zz_ws := zz_in (List.mem_of_getElem? (i := 769) (by decide +kernel)) rfl
theorem zw_770 : Cond.methodLink "RequestGate$Service" (33 : Nat) ({ cls := "RequestGate$Service", name := "declares", desc := "(I)Z" } : MethodName) ∈ zz_ws := zz_in (List.mem_of_getElem? (i := 770) (by decide +kernel)) rfl
theorem zw_771 : Cond.methodLink "RequestGate" (213 : Nat) ({ cls := "RequestGate", name := "conditionByInterfaces", desc := "(II)I" } : MethodName) ∈ zz_ws := zz_in (List.mem_of_getElem? (i := 771) (by decide +kernel)) rfl
theorem zw_773 : Cond.instanceMethod ({ cls := "RequestGate", name := "conditionByInterfaces", desc := "(II)I" } : MethodName) ∈ zz_ws := zz_in (List.mem_of_getElem? (i := 773) (by decide +kernel)) rfl
theorem zw_774 : Cond.code ({ cls := "RequestGate", name := "conditionByInterfaces", desc := "(II)I" } : MethodName) prog_1_method_35_code (7 : Nat) (Option.some FieldType.int) ∈ zz_ws := zz_in (List.mem_of_getElem? (i := 774) (by decide +kernel)) rfl
theorem zw_775 : Cond.methodLink "RequestGateLaw" (72 : Nat) ({ cls := "RequestGate", name := "close", desc := "()Z" } : MethodName) ∈ zz_ws := zz_in (List.mem_of_getElem? (i := 775) (by decide +kernel)) rfl
theorem zw_776 : Cond.instanceMethod ({ cls := "RequestGate", name := "close", desc := "()Z" } : MethodName) ∈ zz_ws := zz_in (List.mem_of_getElem? (i := 776) (by decide +kernel)) rfl
theorem zw_777 : Cond.selects "RequestGate" ({ cls := "RequestGate", name := "close", desc := "()Z" } : MethodName) ({ cls := "RequestGate", name := "close", desc := "()Z" } : MethodName) ∈ zz_ws := zz_in (List.mem_of_getElem? (i := 777) (by decide +kernel)) rfl
theorem zw_778 : Cond.code ({ cls := "RequestGate", name := "close", desc := "()Z" } : MethodName) prog_1_method_15_code (1 : Nat) (Option.some FieldType.boolean) ∈ zz_ws := zz_in (List.mem_of_getElem? (i := 778) (by decide +kernel)) rfl
theorem zw_779 : Cond.methodLink "RequestGateLaw" (77 : Nat) ({ cls := "RequestGate", name := "who", desc := "()I" } : MethodName) ∈ zz_ws := zz_in (List.mem_of_getElem? (i := 779) (by decide +kernel)) rfl
theorem zw_780 : Cond.instanceMethod ({ cls := "RequestGate", name := "who", desc := "()I" } : MethodName) ∈ zz_ws := zz_in (List.mem_of_getElem? (i := 780) (by decide +kernel)) rfl
theorem zw_781 : Cond.selects "RequestGate" ({ cls := "RequestGate", name := "who", desc := "()I" } : MethodName) ({ cls := "RequestGate", name := "who", desc := "()I" } : MethodName) ∈ zz_ws := zz_in (List.mem_of_getElem? (i := 781) (by decide +kernel)) rfl
theorem zw_782 : Cond.code ({ cls := "RequestGate", name := "who", desc := "()I" } : MethodName) prog_1_method_16_code (1 : Nat) (Option.some FieldType.int) ∈ zz_ws := zz_in (List.mem_of_getElem? (i := 782) (by decide +kernel)) rfl
theorem zw_783 : Cond.methodLink "RequestGateLaw" (82 : Nat) ({ cls := "RequestGate", name := "fits", desc := "(I)I" } : MethodName) ∈ zz_ws := zz_in (List.mem_of_getElem? (i := 783) (by decide +kernel)) rfl
theorem zw_784 : Cond.instanceMethod ({ cls := "RequestGate", name := "fits", desc := "(I)I" } : MethodName) ∈ zz_ws := zz_in (List.mem_of_getElem? (i := 784) (by decide +kernel)) rfl
theorem zw_785 : Cond.selects "RequestGate" ({ cls := "RequestGate", name := "fits", desc := "(I)I" } : MethodName) ({ cls := "RequestGate", name := "fits", desc := "(I)I" } : MethodName) ∈ zz_ws := zz_in (List.mem_of_getElem? (i := 785) (by decide +kernel)) rfl
theorem zw_786 : Cond.code ({ cls := "RequestGate", name := "fits", desc := "(I)I" } : MethodName) prog_1_method_17_code (2 : Nat) (Option.some FieldType.int) ∈ zz_ws := zz_in (List.mem_of_getElem? (i := 786) (by decide +kernel)) rfl
theorem zw_787 : Cond.methodLink "RequestGateLaw" (87 : Nat) ({ cls := "RequestGate", name := "session", desc := "(III)I" } : MethodName) ∈ zz_ws := zz_in (List.mem_of_getElem? (i := 787) (by decide +kernel)) rfl
theorem zw_788 : Cond.instanceMethod ({ cls := "RequestGate", name := "session", desc := "(III)I" } : MethodName) ∈ zz_ws := zz_in (List.mem_of_getElem? (i := 788) (by decide +kernel)) rfl
theorem zw_789 : Cond.selects "RequestGate" ({ cls := "RequestGate", name := "session", desc := "(III)I" } : MethodName) ({ cls := "RequestGate", name := "session", desc := "(III)I" } : MethodName) ∈ zz_ws := zz_in (List.mem_of_getElem? (i := 789) (by decide +kernel)) rfl
theorem zw_790 : Cond.code ({ cls := "RequestGate", name := "session", desc := "(III)I" } : MethodName) prog_1_method_18_code (5 : Nat) (Option.some FieldType.int) ∈ zz_ws := zz_in (List.mem_of_getElem? (i := 790) (by decide +kernel)) rfl
theorem zw_791 : Cond.methodLink "RequestGate" (237 : Nat) ({ cls := "RequestGate$Tickets", name := "findOf", desc := "(II)LRequestGate$Ticket;" } : MethodName) ∈ zz_ws := zz_in (List.mem_of_getElem? (i := 791) (by decide +kernel)) rfl
theorem zw_792 : Cond.methodLink "RequestGateLaw" (91 : Nat) ({ cls := "RequestGate", name := "series", desc := "(III)I" } : MethodName) ∈ zz_ws := zz_in (List.mem_of_getElem? (i := 792) (by decide +kernel)) rfl
theorem zw_793 : Cond.instanceMethod ({ cls := "RequestGate", name := "series", desc := "(III)I" } : MethodName) ∈ zz_ws := zz_in (List.mem_of_getElem? (i := 793) (by decide +kernel)) rfl
theorem zw_794 : Cond.selects "RequestGate" ({ cls := "RequestGate", name := "series", desc := "(III)I" } : MethodName) ({ cls := "RequestGate", name := "series", desc := "(III)I" } : MethodName) ∈ zz_ws := zz_in (List.mem_of_getElem? (i := 794) (by decide +kernel)) rfl
theorem zw_795 : Cond.code ({ cls := "RequestGate", name := "series", desc := "(III)I" } : MethodName) prog_1_method_19_code (5 : Nat) (Option.some FieldType.int) ∈ zz_ws := zz_in (List.mem_of_getElem? (i := 795) (by decide +kernel)) rfl
theorem zw_796 : Cond.methodLink "RequestGateLaw" (95 : Nat) ({ cls := "RequestGate", name := "hash", desc := "(I)I" } : MethodName) ∈ zz_ws := zz_in (List.mem_of_getElem? (i := 796) (by decide +kernel)) rfl
theorem zw_797 : Cond.instanceMethod ({ cls := "RequestGate", name := "hash", desc := "(I)I" } : MethodName) ∈ zz_ws := zz_in (List.mem_of_getElem? (i := 797) (by decide +kernel)) rfl
theorem zw_798 : Cond.selects "RequestGate" ({ cls := "RequestGate", name := "hash", desc := "(I)I" } : MethodName) ({ cls := "RequestGate", name := "hash", desc := "(I)I" } : MethodName) ∈ zz_ws := zz_in (List.mem_of_getElem? (i := 798) (by decide +kernel)) rfl
theorem zw_799 : Cond.code ({ cls := "RequestGate", name := "hash", desc := "(I)I" } : MethodName) prog_1_method_20_code (2 : Nat) (Option.some FieldType.int) ∈ zz_ws := zz_in (List.mem_of_getElem? (i := 799) (by decide +kernel)) rfl
theorem zw_800 : Cond.methodLink "RequestGateLaw" (99 : Nat) ({ cls := "RequestGate", name := "count", desc := "(I)I" } : MethodName) ∈ zz_ws := zz_in (List.mem_of_getElem? (i := 800) (by decide +kernel)) rfl
theorem zw_801 : Cond.instanceMethod ({ cls := "RequestGate", name := "count", desc := "(I)I" } : MethodName) ∈ zz_ws := zz_in (List.mem_of_getElem? (i := 801) (by decide +kernel)) rfl
theorem zw_802 : Cond.selects "RequestGate" ({ cls := "RequestGate", name := "count", desc := "(I)I" } : MethodName) ({ cls := "RequestGate", name := "count", desc := "(I)I" } : MethodName) ∈ zz_ws := zz_in (List.mem_of_getElem? (i := 802) (by decide +kernel)) rfl
theorem zw_803 : Cond.code ({ cls := "RequestGate", name := "count", desc := "(I)I" } : MethodName) prog_1_method_21_code (2 : Nat) (Option.some FieldType.int) ∈ zz_ws := zz_in (List.mem_of_getElem? (i := 803) (by decide +kernel)) rfl
theorem zw_804 : Cond.classLink "RequestGateLaw" (10 : Nat) "RequestGateModel" ∈ zz_ws := zz_in (List.mem_of_getElem? (i := 804) (by decide +kernel)) rfl
theorem zw_805 : Cond.instantiable "RequestGateModel" (56 : Nat) ∈ zz_ws := zz_in (List.mem_of_getElem? (i := 805) (by decide +kernel)) rfl
theorem zw_806 : Cond.methodLink "RequestGateLaw" (12 : Nat) ({ cls := "RequestGateModel", name := "<init>", desc := "()V" } : MethodName) ∈ zz_ws := zz_in (List.mem_of_getElem? (i := 806) (by decide +kernel)) rfl
theorem zw_807 : Cond.instanceMethod ({ cls := "RequestGateModel", name := "<init>", desc := "()V" } : MethodName) ∈ zz_ws := zz_in (List.mem_of_getElem? (i := 807) (by decide +kernel)) rfl
theorem zw_808 : Cond.code ({ cls := "RequestGateModel", name := "<init>", desc := "()V" } : MethodName) prog_14_method_1_code (1 : Nat) (none : Option FieldType) ∈ zz_ws := zz_in (List.mem_of_getElem? (i := 808) (by decide +kernel)) rfl
theorem zw_809 : Cond.methodLink "RequestGateModel" (1 : Nat) ({ cls := "java/lang/Object", name := "<init>", desc := "()V" } : MethodName) ∈ zz_ws := zz_in (List.mem_of_getElem? (i := 809) (by decide +kernel)) rfl
theorem zw_810 : Cond.fieldLink "RequestGateModel" (178 : Nat) "RequestGateModel" "drawn" "I" ∈ zz_ws := zz_in (List.mem_of_getElem? (i := 810) (by decide +kernel)) rfl
theorem zw_811 : Cond.fieldLink "RequestGateModel" (192 : Nat) "RequestGateModel" "time" "I" ∈ zz_ws := zz_in (List.mem_of_getElem? (i := 811) (by decide +kernel)) rfl
theorem zw_812 : Cond.fieldLink "RequestGateModel" (264 : Nat) "RequestGateModel" "opened" "I" ∈ zz_ws := zz_in (List.mem_of_getElem? (i := 812) (by decide +kernel)) rfl
theorem zw_813 : Cond.fieldLink "RequestGateModel" (234 : Nat) "RequestGateModel" "ran" "I" ∈ zz_ws := zz_in (List.mem_of_getElem? (i := 813) (by decide +kernel)) rfl
theorem zw_814 : Cond.fieldLink "RequestGateModel" (237 : Nat) "RequestGateModel" "kept" "I" ∈ zz_ws := zz_in (List.mem_of_getElem? (i := 814) (by decide +kernel)) rfl
theorem zw_815 : Cond.fieldLink "RequestGateModel" (249 : Nat) "RequestGateModel" "thefts" "I" ∈ zz_ws := zz_in (List.mem_of_getElem? (i := 815) (by decide +kernel)) rfl
theorem zw_816 : Cond.fieldLink "RequestGateModel" (201 : Nat) "RequestGateModel" "locks" "I" ∈ zz_ws := zz_in (List.mem_of_getElem? (i := 816) (by decide +kernel)) rfl
theorem zw_817 : Cond.fieldLink "RequestGateModel" (7 : Nat) "RequestGateModel" "added" "[I" ∈ zz_ws := zz_in (List.mem_of_getElem? (i := 817) (by decide +kernel)) rfl
theorem zw_818 : Cond.fieldLink "RequestGateModel" (181 : Nat) "RequestGateModel" "users" "I" ∈ zz_ws := zz_in (List.mem_of_getElem? (i := 818) (by decide +kernel)) rfl
theorem zw_819 : Cond.fieldLink "RequestGateModel" (13 : Nat) "RequestGateModel" "given" "[I" ∈ zz_ws := zz_in (List.mem_of_getElem? (i := 819) (by decide +kernel)) rfl
theorem zw_820 : Cond.fieldLink "RequestGateModel" (16 : Nat) "RequestGateModel" "scheme" "[I" ∈ zz_ws := zz_in (List.mem_of_getElem? (i := 820) (by decide +kernel)) rfl
theorem zw_821 : Cond.fieldLink "RequestGateModel" (19 : Nat) "RequestGateModel" "salt" "[I" ∈ zz_ws := zz_in (List.mem_of_getElem? (i := 821) (by decide +kernel)) rfl
theorem zw_822 : Cond.fieldLink "RequestGateModel" (22 : Nat) "RequestGateModel" "hash" "[I" ∈ zz_ws := zz_in (List.mem_of_getElem? (i := 822) (by decide +kernel)) rfl
theorem zw_823 : Cond.fieldLink "RequestGateModel" (25 : Nat) "RequestGateModel" "fails" "[I" ∈ zz_ws := zz_in (List.mem_of_getElem? (i := 823) (by decide +kernel)) rfl
theorem zw_824 : Cond.fieldLink "RequestGateModel" (28 : Nat) "RequestGateModel" "lockedTo" "[I" ∈ zz_ws := zz_in (List.mem_of_getElem? (i := 824) (by decide +kernel)) rfl
theorem zw_825 : Cond.fieldLink "RequestGateModel" (31 : Nat) "RequestGateModel" "made" "[Z" ∈ zz_ws := zz_in (List.mem_of_getElem? (i := 825) (by decide +kernel)) rfl
theorem zw_826 : Cond.fieldLink "RequestGateModel" (35 : Nat) "RequestGateModel" "sessionId" "[I" ∈ zz_ws := zz_in (List.mem_of_getElem? (i := 826) (by decide +kernel)) rfl
theorem zw_827 : Cond.fieldLink "RequestGateModel" (38 : Nat) "RequestGateModel" "sessionToken" "[I" ∈ zz_ws := zz_in (List.mem_of_getElem? (i := 827) (by decide +kernel)) rfl
theorem zw_828 : Cond.fieldLink "RequestGateModel" (41 : Nat) "RequestGateModel" "remembered" "[Z" ∈ zz_ws := zz_in (List.mem_of_getElem? (i := 828) (by decide +kernel)) rfl
theorem zw_829 : Cond.fieldLink "RequestGateModel" (44 : Nat) "RequestGateModel" "madeAt" "[I" ∈ zz_ws := zz_in (List.mem_of_getElem? (i := 829) (by decide +kernel)) rfl
theorem zw_830 : Cond.fieldLink "RequestGateModel" (47 : Nat) "RequestGateModel" "usedAt" "[I" ∈ zz_ws := zz_in (List.mem_of_getElem? (i := 830) (by decide +kernel)) rfl
theorem zw_831 : Cond.fieldLink "RequestGateModel" (50 : Nat) "RequestGateModel" "lasting" "[Z" ∈ zz_ws := zz_in (List.mem_of_getElem? (i := 831) (by decide +kernel)) rfl
theorem zw_832 : Cond.fieldLink "RequestGateModel" (53 : Nat) "RequestGateModel" "seriesId" "[I" ∈ zz_ws := zz_in (List.mem_of_getElem? (i := 832) (by decide +kernel)) rfl
theorem zw_833 : Cond.fieldLink "RequestGateModel" (56 : Nat) "RequestGateModel" "seriesToken" "[I" ∈ zz_ws := zz_in (List.mem_of_getElem? (i := 833) (by decide +kernel)) rfl
theorem zw_834 : Cond.fieldLink "RequestGateModel" (154 : Nat) "RequestGateModel" "expressions" "I" ∈ zz_ws := zz_in (List.mem_of_getElem? (i := 834) (by decide +kernel)) rfl
theorem zw_835 : Cond.fieldLink "RequestGateModel" (59 : Nat) "RequestGateModel" "op" "[I" ∈ zz_ws := zz_in (List.mem_of_getElem? (i := 835) (by decide +kernel)) rfl
theorem zw_836 : Cond.fieldLink "RequestGateModel" (62 : Nat) "RequestGateModel" "one" "[I" ∈ zz_ws := zz_in (List.mem_of_getElem? (i := 836) (by decide +kernel)) rfl
theorem zw_837 : Cond.fieldLink "RequestGateModel" (65 : Nat) "RequestGateModel" "two" "[I" ∈ zz_ws := zz_in (List.mem_of_getElem? (i := 837) (by decide +kernel)) rfl
theorem zw_838 : Cond.fieldLink "RequestGateModel" (68 : Nat) "RequestGateModel" "value" "[I" ∈ zz_ws := zz_in (List.mem_of_getElem? (i := 838) (by decide +kernel)) rfl
theorem zw_839 : Cond.fieldLink "RequestGateModel" (129 : Nat) "RequestGateModel" "size" "I" ∈ zz_ws := zz_in (List.mem_of_getElem? (i := 839) (by decide +kernel)) rfl
theorem zw_840 : Cond.fieldLink "RequestGateModel" (71 : Nat) "RequestGateModel" "buffer" "[I" ∈ zz_ws := zz_in (List.mem_of_getElem? (i := 840) (by decide +kernel)) rfl
theorem zw_841 : Cond.fieldLink "RequestGateModel" (74 : Nat) "RequestGateModel" "plain" "[I" ∈ zz_ws := zz_in (List.mem_of_getElem? (i := 841) (by decide +kernel)) rfl
theorem zw_842 : Cond.fieldLink "RequestGateModel" (77 : Nat) "RequestGateModel" "from" "[I" ∈ zz_ws := zz_in (List.mem_of_getElem? (i := 842) (by decide +kernel)) rfl
theorem zw_843 : Cond.fieldLink "RequestGateModel" (80 : Nat) "RequestGateModel" "to" "[I" ∈ zz_ws := zz_in (List.mem_of_getElem? (i := 843) (by decide +kernel)) rfl
theorem zw_844 : Cond.fieldLink "RequestGateModel" (83 : Nat) "RequestGateModel" "segment" "[I" ∈ zz_ws := zz_in (List.mem_of_getElem? (i := 844) (by decide +kernel)) rfl
theorem zw_845 : Cond.fieldLink "RequestGateModel" (143 : Nat) "RequestGateModel" "segments" "I" ∈ zz_ws := zz_in (List.mem_of_getElem? (i := 845) (by decide +kernel)) rfl
theorem zw_846 : Cond.fieldLink "RequestGateModel" (86 : Nat) "RequestGateModel" "here" "[Z" ∈ zz_ws := zz_in (List.mem_of_getElem? (i := 846) (by decide +kernel)) rfl
theorem zw_847 : Cond.fieldLink "RequestGateModel" (89 : Nat) "RequestGateModel" "next" "[Z" ∈ zz_ws := zz_in (List.mem_of_getElem? (i := 847) (by decide +kernel)) rfl
theorem zw_848 : Cond.fieldLink "RequestGateModel" (92 : Nat) "RequestGateModel" "mark" "[Z" ∈ zz_ws := zz_in (List.mem_of_getElem? (i := 848) (by decide +kernel)) rfl
theorem zw_849 : Cond.fieldLink "RequestGateModel" (95 : Nat) "RequestGateModel" "beyond" "[Z" ∈ zz_ws := zz_in (List.mem_of_getElem? (i := 849) (by decide +kernel)) rfl
theorem zw_850 : Cond.fieldLink "RequestGateModel" (171 : Nat) "RequestGateModel" "rules" "I" ∈ zz_ws := zz_in (List.mem_of_getElem? (i := 850) (by decide +kernel)) rfl
theorem zw_851 : Cond.fieldLink "RequestGateModel" (98 : Nat) "RequestGateModel" "text" "[I" ∈ zz_ws := zz_in (List.mem_of_getElem? (i := 851) (by decide +kernel)) rfl
theorem zw_852 : Cond.fieldLink "RequestGateModel" (101 : Nat) "RequestGateModel" "length" "[I" ∈ zz_ws := zz_in (List.mem_of_getElem? (i := 852) (by decide +kernel)) rfl
theorem zw_853 : Cond.fieldLink "RequestGateModel" (104 : Nat) "RequestGateModel" "condition" "[I" ∈ zz_ws := zz_in (List.mem_of_getElem? (i := 853) (by decide +kernel)) rfl
theorem zw_854 : Cond.fieldLink "RequestGateModel" (107 : Nat) "RequestGateModel" "methods" "[I" ∈ zz_ws := zz_in (List.mem_of_getElem? (i := 854) (by decide +kernel)) rfl
theorem zw_855 : Cond.fieldLink "RequestGateModel" (218 : Nat) "RequestGateModel" "types" "I" ∈ zz_ws := zz_in (List.mem_of_getElem? (i := 855) (by decide +kernel)) rfl
theorem zw_856 : Cond.fieldLink "RequestGateModel" (110 : Nat) "RequestGateModel" "parent" "[I" ∈ zz_ws := zz_in (List.mem_of_getElem? (i := 856) (by decide +kernel)) rfl
theorem zw_857 : Cond.fieldLink "RequestGateModel" (113 : Nat) "RequestGateModel" "face" "[I" ∈ zz_ws := zz_in (List.mem_of_getElem? (i := 857) (by decide +kernel)) rfl
theorem zw_858 : Cond.fieldLink "RequestGateModel" (116 : Nat) "RequestGateModel" "typeCondition" "[I" ∈ zz_ws := zz_in (List.mem_of_getElem? (i := 858) (by decide +kernel)) rfl
theorem zw_859 : Cond.fieldLink "RequestGateModel" (119 : Nat) "RequestGateModel" "declares" "[Z" ∈ zz_ws := zz_in (List.mem_of_getElem? (i := 859) (by decide +kernel)) rfl
theorem zw_860 : Cond.fieldLink "RequestGateModel" (122 : Nat) "RequestGateModel" "declared" "[I" ∈ zz_ws := zz_in (List.mem_of_getElem? (i := 860) (by decide +kernel)) rfl
theorem zw_861 : Cond.fieldLink "RequestGateModel" (252 : Nat) "RequestGateModel" "isOpen" "Z" ∈ zz_ws := zz_in (List.mem_of_getElem? (i := 861) (by decide +kernel)) rfl
theorem zw_862 : Cond.fieldLink "RequestGateModel" (125 : Nat) "RequestGateModel" "subject" "I" ∈ zz_ws := zz_in (List.mem_of_getElem? (i := 862) (by decide +kernel)) rfl
theorem zw_863 : Cond.fieldLink "RequestGateModel" (227 : Nat) "RequestGateModel" "subjectRemembered" "Z" ∈ zz_ws := zz_in (List.mem_of_getElem? (i := 863) (by decide +kernel)) rfl
theorem zw_864 : Cond.fieldLink "RequestGateModel" (240 : Nat) "RequestGateModel" "asker" "I" ∈ zz_ws := zz_in (List.mem_of_getElem? (i := 864) (by decide +kernel)) rfl
theorem zw_865 : Cond.fieldLink "RequestGateModel" (243 : Nat) "RequestGateModel" "askerRemembered" "Z" ∈ zz_ws := zz_in (List.mem_of_getElem? (i := 865) (by decide +kernel)) rfl
theorem zw_866 : Cond.lays "RequestGateModel" "RequestGateModel" "drawn" "I" ∈ zz_ws := zz_in (List.mem_of_getElem? (i := 866) (by decide +kernel)) rfl
theorem zw_868 : Cond.lays "RequestGateModel" "RequestGateModel" "time" "I" ∈ zz_ws := zz_in (List.mem_of_getElem? (i := 868) (by decide +kernel)) rfl
theorem zw_870 : Cond.lays "RequestGateModel" "RequestGateModel" "opened" "I" ∈ zz_ws := zz_in (List.mem_of_getElem? (i := 870) (by decide +kernel)) rfl
theorem zw_872 : Cond.lays "RequestGateModel" "RequestGateModel" "ran" "I" ∈ zz_ws := zz_in (List.mem_of_getElem? (i := 872) (by decide +kernel)) rfl
theorem zw_874 : Cond.lays "RequestGateModel" "RequestGateModel" "kept" "I" ∈ zz_ws := zz_in (List.mem_of_getElem? (i := 874) (by decide +kernel)) rfl
theorem zw_876 : Cond.lays "RequestGateModel" "RequestGateModel" "thefts" "I" ∈ zz_ws := zz_in (List.mem_of_getElem? (i := 876) (by decide +kernel)) rfl
theorem zw_878 : Cond.lays "RequestGateModel" "RequestGateModel" "locks" "I" ∈ zz_ws := zz_in (List.mem_of_getElem? (i := 878) (by decide +kernel)) rfl
theorem zw_880 : Cond.laysFinal "RequestGateModel" "RequestGateModel" "added" "[I" ∈ zz_ws := zz_in (List.mem_of_getElem? (i := 880) (by decide +kernel)) rfl
theorem zw_882 : Cond.lays "RequestGateModel" "RequestGateModel" "users" "I" ∈ zz_ws := zz_in (List.mem_of_getElem? (i := 882) (by decide +kernel)) rfl
theorem zw_884 : Cond.laysFinal "RequestGateModel" "RequestGateModel" "given" "[I" ∈ zz_ws := zz_in (List.mem_of_getElem? (i := 884) (by decide +kernel)) rfl
theorem zw_886 : Cond.laysFinal "RequestGateModel" "RequestGateModel" "scheme" "[I" ∈ zz_ws := zz_in (List.mem_of_getElem? (i := 886) (by decide +kernel)) rfl
theorem zw_888 : Cond.laysFinal "RequestGateModel" "RequestGateModel" "salt" "[I" ∈ zz_ws := zz_in (List.mem_of_getElem? (i := 888) (by decide +kernel)) rfl
theorem zw_890 : Cond.laysFinal "RequestGateModel" "RequestGateModel" "hash" "[I" ∈ zz_ws := zz_in (List.mem_of_getElem? (i := 890) (by decide +kernel)) rfl
theorem zw_892 : Cond.laysFinal "RequestGateModel" "RequestGateModel" "fails" "[I" ∈ zz_ws := zz_in (List.mem_of_getElem? (i := 892) (by decide +kernel)) rfl
theorem zw_894 : Cond.laysFinal "RequestGateModel" "RequestGateModel" "lockedTo" "[I" ∈ zz_ws := zz_in (List.mem_of_getElem? (i := 894) (by decide +kernel)) rfl
theorem zw_896 : Cond.laysFinal "RequestGateModel" "RequestGateModel" "made" "[Z" ∈ zz_ws := zz_in (List.mem_of_getElem? (i := 896) (by decide +kernel)) rfl
theorem zw_898 : Cond.laysFinal "RequestGateModel" "RequestGateModel" "sessionId" "[I" ∈ zz_ws := zz_in (List.mem_of_getElem? (i := 898) (by decide +kernel)) rfl
theorem zw_900 : Cond.laysFinal "RequestGateModel" "RequestGateModel" "sessionToken" "[I" ∈ zz_ws := zz_in (List.mem_of_getElem? (i := 900) (by decide +kernel)) rfl
theorem zw_902 : Cond.laysFinal "RequestGateModel" "RequestGateModel" "remembered" "[Z" ∈ zz_ws := zz_in (List.mem_of_getElem? (i := 902) (by decide +kernel)) rfl
theorem zw_904 : Cond.laysFinal "RequestGateModel" "RequestGateModel" "madeAt" "[I" ∈ zz_ws := zz_in (List.mem_of_getElem? (i := 904) (by decide +kernel)) rfl
theorem zw_906 : Cond.laysFinal "RequestGateModel" "RequestGateModel" "usedAt" "[I" ∈ zz_ws := zz_in (List.mem_of_getElem? (i := 906) (by decide +kernel)) rfl
theorem zw_908 : Cond.laysFinal "RequestGateModel" "RequestGateModel" "lasting" "[Z" ∈ zz_ws := zz_in (List.mem_of_getElem? (i := 908) (by decide +kernel)) rfl
theorem zw_910 : Cond.laysFinal "RequestGateModel" "RequestGateModel" "seriesId" "[I" ∈ zz_ws := zz_in (List.mem_of_getElem? (i := 910) (by decide +kernel)) rfl
theorem zw_912 : Cond.laysFinal "RequestGateModel" "RequestGateModel" "seriesToken" "[I" ∈ zz_ws := zz_in (List.mem_of_getElem? (i := 912) (by decide +kernel)) rfl
theorem zw_914 : Cond.lays "RequestGateModel" "RequestGateModel" "expressions" "I" ∈ zz_ws := zz_in (List.mem_of_getElem? (i := 914) (by decide +kernel)) rfl
theorem zw_916 : Cond.laysFinal "RequestGateModel" "RequestGateModel" "op" "[I" ∈ zz_ws := zz_in (List.mem_of_getElem? (i := 916) (by decide +kernel)) rfl
theorem zw_918 : Cond.laysFinal "RequestGateModel" "RequestGateModel" "one" "[I" ∈ zz_ws := zz_in (List.mem_of_getElem? (i := 918) (by decide +kernel)) rfl
theorem zw_920 : Cond.laysFinal "RequestGateModel" "RequestGateModel" "two" "[I" ∈ zz_ws := zz_in (List.mem_of_getElem? (i := 920) (by decide +kernel)) rfl
theorem zw_922 : Cond.laysFinal "RequestGateModel" "RequestGateModel" "value" "[I" ∈ zz_ws := zz_in (List.mem_of_getElem? (i := 922) (by decide +kernel)) rfl
theorem zw_924 : Cond.lays "RequestGateModel" "RequestGateModel" "size" "I" ∈ zz_ws := zz_in (List.mem_of_getElem? (i := 924) (by decide +kernel)) rfl
theorem zw_926 : Cond.laysFinal "RequestGateModel" "RequestGateModel" "buffer" "[I" ∈ zz_ws := zz_in (List.mem_of_getElem? (i := 926) (by decide +kernel)) rfl
theorem zw_928 : Cond.laysFinal "RequestGateModel" "RequestGateModel" "plain" "[I" ∈ zz_ws := zz_in (List.mem_of_getElem? (i := 928) (by decide +kernel)) rfl
theorem zw_930 : Cond.laysFinal "RequestGateModel" "RequestGateModel" "from" "[I" ∈ zz_ws := zz_in (List.mem_of_getElem? (i := 930) (by decide +kernel)) rfl
theorem zw_932 : Cond.laysFinal "RequestGateModel" "RequestGateModel" "to" "[I" ∈ zz_ws := zz_in (List.mem_of_getElem? (i := 932) (by decide +kernel)) rfl
theorem zw_934 : Cond.laysFinal "RequestGateModel" "RequestGateModel" "segment" "[I" ∈ zz_ws := zz_in (List.mem_of_getElem? (i := 934) (by decide +kernel)) rfl
theorem zw_936 : Cond.lays "RequestGateModel" "RequestGateModel" "segments" "I" ∈ zz_ws := zz_in (List.mem_of_getElem? (i := 936) (by decide +kernel)) rfl
theorem zw_938 : Cond.laysFinal "RequestGateModel" "RequestGateModel" "here" "[Z" ∈ zz_ws := zz_in (List.mem_of_getElem? (i := 938) (by decide +kernel)) rfl
theorem zw_940 : Cond.laysFinal "RequestGateModel" "RequestGateModel" "next" "[Z" ∈ zz_ws := zz_in (List.mem_of_getElem? (i := 940) (by decide +kernel)) rfl
theorem zw_942 : Cond.laysFinal "RequestGateModel" "RequestGateModel" "mark" "[Z" ∈ zz_ws := zz_in (List.mem_of_getElem? (i := 942) (by decide +kernel)) rfl
theorem zw_944 : Cond.laysFinal "RequestGateModel" "RequestGateModel" "beyond" "[Z" ∈ zz_ws := zz_in (List.mem_of_getElem? (i := 944) (by decide +kernel)) rfl
theorem zw_946 : Cond.lays "RequestGateModel" "RequestGateModel" "rules" "I" ∈ zz_ws := zz_in (List.mem_of_getElem? (i := 946) (by decide +kernel)) rfl
theorem zw_948 : Cond.laysFinal "RequestGateModel" "RequestGateModel" "text" "[I" ∈ zz_ws := zz_in (List.mem_of_getElem? (i := 948) (by decide +kernel)) rfl
theorem zw_950 : Cond.laysFinal "RequestGateModel" "RequestGateModel" "length" "[I" ∈ zz_ws := zz_in (List.mem_of_getElem? (i := 950) (by decide +kernel)) rfl
theorem zw_952 : Cond.laysFinal "RequestGateModel" "RequestGateModel" "condition" "[I" ∈ zz_ws := zz_in (List.mem_of_getElem? (i := 952) (by decide +kernel)) rfl
theorem zw_954 : Cond.laysFinal "RequestGateModel" "RequestGateModel" "methods" "[I" ∈ zz_ws := zz_in (List.mem_of_getElem? (i := 954) (by decide +kernel)) rfl
theorem zw_956 : Cond.lays "RequestGateModel" "RequestGateModel" "types" "I" ∈ zz_ws := zz_in (List.mem_of_getElem? (i := 956) (by decide +kernel)) rfl
theorem zw_958 : Cond.laysFinal "RequestGateModel" "RequestGateModel" "parent" "[I" ∈ zz_ws := zz_in (List.mem_of_getElem? (i := 958) (by decide +kernel)) rfl
theorem zw_960 : Cond.laysFinal "RequestGateModel" "RequestGateModel" "face" "[I" ∈ zz_ws := zz_in (List.mem_of_getElem? (i := 960) (by decide +kernel)) rfl
theorem zw_962 : Cond.laysFinal "RequestGateModel" "RequestGateModel" "typeCondition" "[I" ∈ zz_ws := zz_in (List.mem_of_getElem? (i := 962) (by decide +kernel)) rfl
theorem zw_964 : Cond.laysFinal "RequestGateModel" "RequestGateModel" "declares" "[Z" ∈ zz_ws := zz_in (List.mem_of_getElem? (i := 964) (by decide +kernel)) rfl
theorem zw_966 : Cond.laysFinal "RequestGateModel" "RequestGateModel" "declared" "[I" ∈ zz_ws := zz_in (List.mem_of_getElem? (i := 966) (by decide +kernel)) rfl
theorem zw_968 : Cond.lays "RequestGateModel" "RequestGateModel" "isOpen" "Z" ∈ zz_ws := zz_in (List.mem_of_getElem? (i := 968) (by decide +kernel)) rfl
theorem zw_970 : Cond.lays "RequestGateModel" "RequestGateModel" "subject" "I" ∈ zz_ws := zz_in (List.mem_of_getElem? (i := 970) (by decide +kernel)) rfl
theorem zw_972 : Cond.lays "RequestGateModel" "RequestGateModel" "subjectRemembered" "Z" ∈ zz_ws := zz_in (List.mem_of_getElem? (i := 972) (by decide +kernel)) rfl
theorem zw_974 : Cond.lays "RequestGateModel" "RequestGateModel" "asker" "I" ∈ zz_ws := zz_in (List.mem_of_getElem? (i := 974) (by decide +kernel)) rfl
theorem zw_976 : Cond.lays "RequestGateModel" "RequestGateModel" "askerRemembered" "Z" ∈ zz_ws := zz_in (List.mem_of_getElem? (i := 976) (by decide +kernel)) rfl
theorem zw_979 : Cond.methodLink "RequestGateLaw" (17 : Nat) ({ cls := "RequestGateModel", name := "type", desc := "(I)Z" } : MethodName) ∈ zz_ws := zz_in (List.mem_of_getElem? (i := 979) (by decide +kernel)) rfl
theorem zw_980 : Cond.instanceMethod ({ cls := "RequestGateModel", name := "type", desc := "(I)Z" } : MethodName) ∈ zz_ws := zz_in (List.mem_of_getElem? (i := 980) (by decide +kernel)) rfl
theorem zw_981 : Cond.selects "RequestGateModel" ({ cls := "RequestGateModel", name := "type", desc := "(I)Z" } : MethodName) ({ cls := "RequestGateModel", name := "type", desc := "(I)Z" } : MethodName) ∈ zz_ws := zz_in (List.mem_of_getElem? (i := 981) (by decide +kernel)) rfl
theorem zw_982 : Cond.code ({ cls := "RequestGateModel", name := "type", desc := "(I)Z" } : MethodName) prog_14_method_2_code (2 : Nat) (Option.some FieldType.boolean) ∈ zz_ws := zz_in (List.mem_of_getElem? (i := 982) (by decide +kernel)) rfl
theorem zw_983 : Cond.methodLink "RequestGateLaw" (21 : Nat) ({ cls := "RequestGateModel", name := "clear", desc := "()V" } : MethodName) ∈ zz_ws := zz_in (List.mem_of_getElem? (i := 983) (by decide +kernel)) rfl
theorem zw_984 : Cond.instanceMethod ({ cls := "RequestGateModel", name := "clear", desc := "()V" } : MethodName) ∈ zz_ws := zz_in (List.mem_of_getElem? (i := 984) (by decide +kernel)) rfl
theorem zw_985 : Cond.selects "RequestGateModel" ({ cls := "RequestGateModel", name := "clear", desc := "()V" } : MethodName) ({ cls := "RequestGateModel", name := "clear", desc := "()V" } : MethodName) ∈ zz_ws := zz_in (List.mem_of_getElem? (i := 985) (by decide +kernel)) rfl
theorem zw_986 : Cond.code ({ cls := "RequestGateModel", name := "clear", desc := "()V" } : MethodName) prog_14_method_3_code (1 : Nat) (none : Option FieldType) ∈ zz_ws := zz_in (List.mem_of_getElem? (i := 986) (by decide +kernel)) rfl
theorem zw_987 : Cond.methodLink "RequestGateLaw" (26 : Nat) ({ cls := "RequestGateModel", name := "expression", desc := "(III)I" } : MethodName) ∈ zz_ws := zz_in (List.mem_of_getElem? (i := 987) (by decide +kernel)) rfl
theorem zw_988 : Cond.instanceMethod ({ cls := "RequestGateModel", name := "expression", desc := "(III)I" } : MethodName) ∈ zz_ws := zz_in (List.mem_of_getElem? (i := 988) (by decide +kernel)) rfl
theorem zw_989 : Cond.selects "RequestGateModel" ({ cls := "RequestGateModel", name := "expression", desc := "(III)I" } : MethodName) ({ cls := "RequestGateModel", name := "expression", desc := "(III)I" } : MethodName) ∈ zz_ws := zz_in (List.mem_of_getElem? (i := 989) (by decide +kernel)) rfl
theorem zw_990 : Cond.code ({ cls := "RequestGateModel", name := "expression", desc := "(III)I" } : MethodName) prog_14_method_13_code (4 : Nat) (Option.some FieldType.int) ∈ zz_ws := zz_in (List.mem_of_getElem? (i := 990) (by decide +kernel)) rfl
theorem zw_991 : Cond.methodLink "RequestGateModel" (157 : Nat) ({ cls := "RequestGateModel", name := "isExpression", desc := "(I)Z" } : MethodName) ∈ zz_ws := zz_in (List.mem_of_getElem? (i := 991) (by decide +kernel)) rfl
theorem zw_993 : Cond.instanceMethod ({ cls := "RequestGateModel", name := "isExpression", desc := "(I)Z" } : MethodName) ∈ zz_ws := zz_in (List.mem_of_getElem? (i := 993) (by decide +kernel)) rfl
theorem zw_994 : Cond.code ({ cls := "RequestGateModel", name := "isExpression", desc := "(I)Z" } : MethodName) prog_14_method_12_code (2 : Nat) (Option.some FieldType.boolean) ∈ zz_ws := zz_in (List.mem_of_getElem? (i := 994) (by decide +kernel)) rfl
theorem zw_995 : Cond.methodLink "RequestGateLaw" (36 : Nat) ({ cls := "RequestGateModel", name := "role", desc := "(II)Z" } : MethodName) ∈ zz_ws := zz_in (List.mem_of_getElem? (i := 995) (by decide +kernel)) rfl
theorem zw_996 : Cond.instanceMethod ({ cls := "RequestGateModel", name := "role", desc := "(II)Z" } : MethodName) ∈ zz_ws := zz_in (List.mem_of_getElem? (i := 996) (by decide +kernel)) rfl
theorem zw_997 : Cond.selects "RequestGateModel" ({ cls := "RequestGateModel", name := "role", desc := "(II)Z" } : MethodName) ({ cls := "RequestGateModel", name := "role", desc := "(II)Z" } : MethodName) ∈ zz_ws := zz_in (List.mem_of_getElem? (i := 997) (by decide +kernel)) rfl
theorem zw_998 : Cond.code ({ cls := "RequestGateModel", name := "role", desc := "(II)Z" } : MethodName) prog_14_method_15_code (3 : Nat) (Option.some FieldType.boolean) ∈ zz_ws := zz_in (List.mem_of_getElem? (i := 998) (by decide +kernel)) rfl
theorem zw_999 : Cond.methodLink "RequestGateModel" (160 : Nat) ({ cls := "RequestGateModel", name := "included", desc := "(I)I" } : MethodName) ∈ zz_ws := zz_in (List.mem_of_getElem? (i := 999) (by decide +kernel)) rfl
theorem zw_1001 : Cond.instanceMethod ({ cls := "RequestGateModel", name := "included", desc := "(I)I" } : MethodName) ∈ zz_ws := zz_in (List.mem_of_getElem? (i := 1001) (by decide +kernel)) rfl
theorem zw_1002 : Cond.code ({ cls := "RequestGateModel", name := "included", desc := "(I)I" } : MethodName) prog_14_method_14_code (5 : Nat) (Option.some FieldType.int) ∈ zz_ws := zz_in (List.mem_of_getElem? (i := 1002) (by decide +kernel)) rfl
theorem zw_1003 : Cond.methodLink "RequestGateLaw" (31 : Nat) ({ cls := "RequestGateModel", name := "rule", desc := "(II)I" } : MethodName) ∈ zz_ws := zz_in (List.mem_of_getElem? (i := 1003) (by decide +kernel)) rfl
theorem zw_1004 : Cond.instanceMethod ({ cls := "RequestGateModel", name := "rule", desc := "(II)I" } : MethodName) ∈ zz_ws := zz_in (List.mem_of_getElem? (i := 1004) (by decide +kernel)) rfl
theorem zw_1005 : Cond.selects "RequestGateModel" ({ cls := "RequestGateModel", name := "rule", desc := "(II)I" } : MethodName) ({ cls := "RequestGateModel", name := "rule", desc := "(II)I" } : MethodName) ∈ zz_ws := zz_in (List.mem_of_getElem? (i := 1005) (by decide +kernel)) rfl
theorem zw_1006 : Cond.code ({ cls := "RequestGateModel", name := "rule", desc := "(II)I" } : MethodName) prog_14_method_19_code (4 : Nat) (Option.some FieldType.int) ∈ zz_ws := zz_in (List.mem_of_getElem? (i := 1006) (by decide +kernel)) rfl
theorem zw_1007 : Cond.methodLink "RequestGateModel" (174 : Nat) ({ cls := "RequestGateModel", name := "isPattern", desc := "()Z" } : MethodName) ∈ zz_ws := zz_in (List.mem_of_getElem? (i := 1007) (by decide +kernel)) rfl
theorem zw_1009 : Cond.instanceMethod ({ cls := "RequestGateModel", name := "isPattern", desc := "()Z" } : MethodName) ∈ zz_ws := zz_in (List.mem_of_getElem? (i := 1009) (by decide +kernel)) rfl
theorem zw_1010 : Cond.code ({ cls := "RequestGateModel", name := "isPattern", desc := "()Z" } : MethodName) prog_14_method_9_code (4 : Nat) (Option.some FieldType.boolean) ∈ zz_ws := zz_in (List.mem_of_getElem? (i := 1010) (by decide +kernel)) rfl
theorem zw_1011 : Cond.methodLink "RequestGateModel" (136 : Nat) ({ cls := "RequestGateModel", name := "barred", desc := "(I)Z" } : MethodName) ∈ zz_ws := zz_in (List.mem_of_getElem? (i := 1011) (by decide +kernel)) rfl
theorem zw_1012 : Cond.static ({ cls := "RequestGateModel", name := "barred", desc := "(I)Z" } : MethodName) ∈ zz_ws := zz_in (List.mem_of_getElem? (i := 1012) (by decide +kernel)) rfl
theorem zw_1013 : Cond.code ({ cls := "RequestGateModel", name := "barred", desc := "(I)Z" } : MethodName) prog_14_method_5_code (1 : Nat) (Option.some FieldType.boolean) ∈ zz_ws := zz_in (List.mem_of_getElem? (i := 1013) (by decide +kernel)) rfl
theorem zw_1014 : Cond.methodLink "RequestGateLaw" (40 : Nat) ({ cls := "RequestGateModel", name := "user", desc := "(III)I" } : MethodName) ∈ zz_ws := zz_in (List.mem_of_getElem? (i := 1014) (by decide +kernel)) rfl
theorem zw_1015 : Cond.instanceMethod ({ cls := "RequestGateModel", name := "user", desc := "(III)I" } : MethodName) ∈ zz_ws := zz_in (List.mem_of_getElem? (i := 1015) (by decide +kernel)) rfl
theorem zw_1016 : Cond.selects "RequestGateModel" ({ cls := "RequestGateModel", name := "user", desc := "(III)I" } : MethodName) ({ cls := "RequestGateModel", name := "user", desc := "(III)I" } : MethodName) ∈ zz_ws := zz_in (List.mem_of_getElem? (i := 1016) (by decide +kernel)) rfl
theorem zw_1017 : Cond.code ({ cls := "RequestGateModel", name := "user", desc := "(III)I" } : MethodName) prog_14_method_23_code (4 : Nat) (Option.some FieldType.int) ∈ zz_ws := zz_in (List.mem_of_getElem? (i := 1017) (by decide +kernel)) rfl
theorem zw_1018 : Cond.methodLink "RequestGateModel" (184 : Nat) ({ cls := "RequestGateModel", name := "draw", desc := "()I" } : MethodName) ∈ zz_ws := zz_in (List.mem_of_getElem? (i := 1018) (by decide +kernel)) rfl
theorem zw_1020 : Cond.instanceMethod ({ cls := "RequestGateModel", name := "draw", desc := "()I" } : MethodName) ∈ zz_ws := zz_in (List.mem_of_getElem? (i := 1020) (by decide +kernel)) rfl
theorem zw_1021 : Cond.code ({ cls := "RequestGateModel", name := "draw", desc := "()I" } : MethodName) prog_14_method_20_code (1 : Nat) (Option.some FieldType.int) ∈ zz_ws := zz_in (List.mem_of_getElem? (i := 1021) (by decide +kernel)) rfl
theorem zw_1022 : Cond.methodLink "RequestGateModel" (188 : Nat) ({ cls := "RequestGateModel", name := "hashOf", desc := "(III)I" } : MethodName) ∈ zz_ws := zz_in (List.mem_of_getElem? (i := 1022) (by decide +kernel)) rfl
theorem zw_1023 : Cond.static ({ cls := "RequestGateModel", name := "hashOf", desc := "(III)I" } : MethodName) ∈ zz_ws := zz_in (List.mem_of_getElem? (i := 1023) (by decide +kernel)) rfl
theorem zw_1024 : Cond.code ({ cls := "RequestGateModel", name := "hashOf", desc := "(III)I" } : MethodName) prog_14_method_21_code (6 : Nat) (Option.some FieldType.int) ∈ zz_ws := zz_in (List.mem_of_getElem? (i := 1024) (by decide +kernel)) rfl
theorem zw_1025 : Cond.methodLink "RequestGateLaw" (58 : Nat) ({ cls := "RequestGateModel", name := "login", desc := "(IIIZ)I" } : MethodName) ∈ zz_ws := zz_in (List.mem_of_getElem? (i := 1025) (by decide +kernel)) rfl
theorem zw_1026 : Cond.instanceMethod ({ cls := "RequestGateModel", name := "login", desc := "(IIIZ)I" } : MethodName) ∈ zz_ws := zz_in (List.mem_of_getElem? (i := 1026) (by decide +kernel)) rfl
theorem zw_1027 : Cond.selects "RequestGateModel" ({ cls := "RequestGateModel", name := "login", desc := "(IIIZ)I" } : MethodName) ({ cls := "RequestGateModel", name := "login", desc := "(IIIZ)I" } : MethodName) ∈ zz_ws := zz_in (List.mem_of_getElem? (i := 1027) (by decide +kernel)) rfl
theorem zw_1028 : Cond.code ({ cls := "RequestGateModel", name := "login", desc := "(IIIZ)I" } : MethodName) prog_14_method_29_code (7 : Nat) (Option.some FieldType.int) ∈ zz_ws := zz_in (List.mem_of_getElem? (i := 1028) (by decide +kernel)) rfl
theorem zw_1029 : Cond.methodLink "RequestGateModel" (198 : Nat) ({ cls := "RequestGateModel", name := "isUser", desc := "(I)Z" } : MethodName) ∈ zz_ws := zz_in (List.mem_of_getElem? (i := 1029) (by decide +kernel)) rfl
theorem zw_1031 : Cond.instanceMethod ({ cls := "RequestGateModel", name := "isUser", desc := "(I)Z" } : MethodName) ∈ zz_ws := zz_in (List.mem_of_getElem? (i := 1031) (by decide +kernel)) rfl
theorem zw_1032 : Cond.code ({ cls := "RequestGateModel", name := "isUser", desc := "(I)Z" } : MethodName) prog_14_method_22_code (2 : Nat) (Option.some FieldType.boolean) ∈ zz_ws := zz_in (List.mem_of_getElem? (i := 1032) (by decide +kernel)) rfl
theorem zw_1033 : Cond.methodLink "RequestGateModel" (204 : Nat) ({ cls := "RequestGateModel", name := "sessionBy", desc := "(I)I" } : MethodName) ∈ zz_ws := zz_in (List.mem_of_getElem? (i := 1033) (by decide +kernel)) rfl
theorem zw_1035 : Cond.instanceMethod ({ cls := "RequestGateModel", name := "sessionBy", desc := "(I)I" } : MethodName) ∈ zz_ws := zz_in (List.mem_of_getElem? (i := 1035) (by decide +kernel)) rfl
theorem zw_1036 : Cond.code ({ cls := "RequestGateModel", name := "sessionBy", desc := "(I)I" } : MethodName) prog_14_method_25_code (4 : Nat) (Option.some FieldType.int) ∈ zz_ws := zz_in (List.mem_of_getElem? (i := 1036) (by decide +kernel)) rfl
theorem zw_1037 : Cond.methodLink "RequestGateModel" (195 : Nat) ({ cls := "RequestGateModel", name := "live", desc := "(I)Z" } : MethodName) ∈ zz_ws := zz_in (List.mem_of_getElem? (i := 1037) (by decide +kernel)) rfl
theorem zw_1039 : Cond.instanceMethod ({ cls := "RequestGateModel", name := "live", desc := "(I)Z" } : MethodName) ∈ zz_ws := zz_in (List.mem_of_getElem? (i := 1039) (by decide +kernel)) rfl
theorem zw_1040 : Cond.code ({ cls := "RequestGateModel", name := "live", desc := "(I)Z" } : MethodName) prog_14_method_24_code (2 : Nat) (Option.some FieldType.boolean) ∈ zz_ws := zz_in (List.mem_of_getElem? (i := 1040) (by decide +kernel)) rfl
theorem zw_1041 : Cond.methodLink "RequestGateModel" (207 : Nat) ({ cls := "RequestGateModel", name := "makeSession", desc := "(IZ)I" } : MethodName) ∈ zz_ws := zz_in (List.mem_of_getElem? (i := 1041) (by decide +kernel)) rfl
theorem zw_1043 : Cond.instanceMethod ({ cls := "RequestGateModel", name := "makeSession", desc := "(IZ)I" } : MethodName) ∈ zz_ws := zz_in (List.mem_of_getElem? (i := 1043) (by decide +kernel)) rfl
theorem zw_1044 : Cond.code ({ cls := "RequestGateModel", name := "makeSession", desc := "(IZ)I" } : MethodName) prog_14_method_27_code (7 : Nat) (Option.some FieldType.int) ∈ zz_ws := zz_in (List.mem_of_getElem? (i := 1044) (by decide +kernel)) rfl
theorem zw_1045 : Cond.methodLink "RequestGateModel" (211 : Nat) ({ cls := "RequestGateModel", name := "makeSeries", desc := "(I)V" } : MethodName) ∈ zz_ws := zz_in (List.mem_of_getElem? (i := 1045) (by decide +kernel)) rfl
theorem zw_1047 : Cond.instanceMethod ({ cls := "RequestGateModel", name := "makeSeries", desc := "(I)V" } : MethodName) ∈ zz_ws := zz_in (List.mem_of_getElem? (i := 1047) (by decide +kernel)) rfl
theorem zw_1048 : Cond.code ({ cls := "RequestGateModel", name := "makeSeries", desc := "(I)V" } : MethodName) prog_14_method_28_code (5 : Nat) (none : Option FieldType) ∈ zz_ws := zz_in (List.mem_of_getElem? (i := 1048) (by decide +kernel)) rfl
theorem zw_1049 : Cond.methodLink "RequestGateLaw" (62 : Nat) ({ cls := "RequestGateModel", name := "logout", desc := "(I)Z" } : MethodName) ∈ zz_ws := zz_in (List.mem_of_getElem? (i := 1049) (by decide +kernel)) rfl
theorem zw_1050 : Cond.instanceMethod ({ cls := "RequestGateModel", name := "logout", desc := "(I)Z" } : MethodName) ∈ zz_ws := zz_in (List.mem_of_getElem? (i := 1050) (by decide +kernel)) rfl
theorem zw_1051 : Cond.selects "RequestGateModel" ({ cls := "RequestGateModel", name := "logout", desc := "(I)Z" } : MethodName) ({ cls := "RequestGateModel", name := "logout", desc := "(I)Z" } : MethodName) ∈ zz_ws := zz_in (List.mem_of_getElem? (i := 1051) (by decide +kernel)) rfl
theorem zw_1052 : Cond.code ({ cls := "RequestGateModel", name := "logout", desc := "(I)Z" } : MethodName) prog_14_method_31_code (3 : Nat) (Option.some FieldType.boolean) ∈ zz_ws := zz_in (List.mem_of_getElem? (i := 1052) (by decide +kernel)) rfl
theorem zw_1053 : Cond.methodLink "RequestGateModel" (215 : Nat) ({ cls := "RequestGateModel", name := "endSeries", desc := "(I)V" } : MethodName) ∈ zz_ws := zz_in (List.mem_of_getElem? (i := 1053) (by decide +kernel)) rfl
theorem zw_1055 : Cond.instanceMethod ({ cls := "RequestGateModel", name := "endSeries", desc := "(I)V" } : MethodName) ∈ zz_ws := zz_in (List.mem_of_getElem? (i := 1055) (by decide +kernel)) rfl
theorem zw_1056 : Cond.code ({ cls := "RequestGateModel", name := "endSeries", desc := "(I)V" } : MethodName) prog_14_method_30_code (2 : Nat) (none : Option FieldType) ∈ zz_ws := zz_in (List.mem_of_getElem? (i := 1056) (by decide +kernel)) rfl
theorem zw_1057 : Cond.methodLink "RequestGateLaw" (53 : Nat) ({ cls := "RequestGateModel", name := "tick", desc := "(I)Z" } : MethodName) ∈ zz_ws := zz_in (List.mem_of_getElem? (i := 1057) (by decide +kernel)) rfl
theorem zw_1058 : Cond.instanceMethod ({ cls := "RequestGateModel", name := "tick", desc := "(I)Z" } : MethodName) ∈ zz_ws := zz_in (List.mem_of_getElem? (i := 1058) (by decide +kernel)) rfl
theorem zw_1059 : Cond.selects "RequestGateModel" ({ cls := "RequestGateModel", name := "tick", desc := "(I)Z" } : MethodName) ({ cls := "RequestGateModel", name := "tick", desc := "(I)Z" } : MethodName) ∈ zz_ws := zz_in (List.mem_of_getElem? (i := 1059) (by decide +kernel)) rfl
theorem zw_1060 : Cond.code ({ cls := "RequestGateModel", name := "tick", desc := "(I)Z" } : MethodName) prog_14_method_32_code (2 : Nat) (Option.some FieldType.boolean) ∈ zz_ws := zz_in (List.mem_of_getElem? (i := 1060) (by decide +kernel)) rfl
theorem zw_1061 : Cond.methodLink "RequestGateLaw" (44 : Nat) ({ cls := "RequestGateModel", name := "service", desc := "(III)I" } : MethodName) ∈ zz_ws := zz_in (List.mem_of_getElem? (i := 1061) (by decide +kernel)) rfl
theorem zw_1062 : Cond.instanceMethod ({ cls := "RequestGateModel", name := "service", desc := "(III)I" } : MethodName) ∈ zz_ws := zz_in (List.mem_of_getElem? (i := 1062) (by decide +kernel)) rfl
theorem zw_1063 : Cond.selects "RequestGateModel" ({ cls := "RequestGateModel", name := "service", desc := "(III)I" } : MethodName) ({ cls := "RequestGateModel", name := "service", desc := "(III)I" } : MethodName) ∈ zz_ws := zz_in (List.mem_of_getElem? (i := 1063) (by decide +kernel)) rfl
theorem zw_1064 : Cond.code ({ cls := "RequestGateModel", name := "service", desc := "(III)I" } : MethodName) prog_14_method_34_code (4 : Nat) (Option.some FieldType.int) ∈ zz_ws := zz_in (List.mem_of_getElem? (i := 1064) (by decide +kernel)) rfl
theorem zw_1065 : Cond.methodLink "RequestGateModel" (221 : Nat) ({ cls := "RequestGateModel", name := "mayBe", desc := "(II)Z" } : MethodName) ∈ zz_ws := zz_in (List.mem_of_getElem? (i := 1065) (by decide +kernel)) rfl
theorem zw_1067 : Cond.instanceMethod ({ cls := "RequestGateModel", name := "mayBe", desc := "(II)Z" } : MethodName) ∈ zz_ws := zz_in (List.mem_of_getElem? (i := 1067) (by decide +kernel)) rfl
theorem zw_1068 : Cond.code ({ cls := "RequestGateModel", name := "mayBe", desc := "(II)Z" } : MethodName) prog_14_method_33_code (3 : Nat) (Option.some FieldType.boolean) ∈ zz_ws := zz_in (List.mem_of_getElem? (i := 1068) (by decide +kernel)) rfl
theorem zw_1069 : Cond.methodLink "RequestGateLaw" (49 : Nat) ({ cls := "RequestGateModel", name := "declare", desc := "(III)Z" } : MethodName) ∈ zz_ws := zz_in (List.mem_of_getElem? (i := 1069) (by decide +kernel)) rfl
theorem zw_1070 : Cond.instanceMethod ({ cls := "RequestGateModel", name := "declare", desc := "(III)Z" } : MethodName) ∈ zz_ws := zz_in (List.mem_of_getElem? (i := 1070) (by decide +kernel)) rfl
theorem zw_1071 : Cond.selects "RequestGateModel" ({ cls := "RequestGateModel", name := "declare", desc := "(III)Z" } : MethodName) ({ cls := "RequestGateModel", name := "declare", desc := "(III)Z" } : MethodName) ∈ zz_ws := zz_in (List.mem_of_getElem? (i := 1071) (by decide +kernel)) rfl
theorem zw_1072 : Cond.code ({ cls := "RequestGateModel", name := "declare", desc := "(III)Z" } : MethodName) prog_14_method_35_code (5 : Nat) (Option.some FieldType.boolean) ∈ zz_ws := zz_in (List.mem_of_getElem? (i := 1072) (by decide +kernel)) rfl
theorem zw_1073 : Cond.methodLink "RequestGateLaw" (71 : Nat) ({ cls := "RequestGateModel", name := "call", desc := "(III)I" } : MethodName) ∈ zz_ws := zz_in (List.mem_of_getElem? (i := 1073) (by decide +kernel)) rfl
theorem zw_1074 : Cond.instanceMethod ({ cls := "RequestGateModel", name := "call", desc := "(III)I" } : MethodName) ∈ zz_ws := zz_in (List.mem_of_getElem? (i := 1074) (by decide +kernel)) rfl
theorem zw_1075 : Cond.selects "RequestGateModel" ({ cls := "RequestGateModel", name := "call", desc := "(III)I" } : MethodName) ({ cls := "RequestGateModel", name := "call", desc := "(III)I" } : MethodName) ∈ zz_ws := zz_in (List.mem_of_getElem? (i := 1075) (by decide +kernel)) rfl
theorem zw_1076 : Cond.code ({ cls := "RequestGateModel", name := "call", desc := "(III)I" } : MethodName) prog_14_method_37_code (7 : Nat) (Option.some FieldType.int) ∈ zz_ws := zz_in (List.mem_of_getElem? (i := 1076) (by decide +kernel)) rfl
theorem zw_1077 : Cond.methodLink "RequestGateModel" (224 : Nat) ({ cls := "RequestGateModel", name := "guard", desc := "(III)I" } : MethodName) ∈ zz_ws := zz_in (List.mem_of_getElem? (i := 1077) (by decide +kernel)) rfl
theorem zw_1079 : Cond.instanceMethod ({ cls := "RequestGateModel", name := "guard", desc := "(III)I" } : MethodName) ∈ zz_ws := zz_in (List.mem_of_getElem? (i := 1079) (by decide +kernel)) rfl
theorem zw_1080 : Cond.code ({ cls := "RequestGateModel", name := "guard", desc := "(III)I" } : MethodName) prog_14_method_36_code (8 : Nat) (Option.some FieldType.int) ∈ zz_ws := zz_in (List.mem_of_getElem? (i := 1080) (by decide +kernel)) rfl
theorem zw_1081 : Cond.methodLink "RequestGateModel" (231 : Nat) ({ cls := "RequestGateModel", name := "valueOf", desc := "(IIZI)I" } : MethodName) ∈ zz_ws := zz_in (List.mem_of_getElem? (i := 1081) (by decide +kernel)) rfl
theorem zw_1083 : Cond.instanceMethod ({ cls := "RequestGateModel", name := "valueOf", desc := "(IIZI)I" } : MethodName) ∈ zz_ws := zz_in (List.mem_of_getElem? (i := 1083) (by decide +kernel)) rfl
theorem zw_1084 : Cond.code ({ cls := "RequestGateModel", name := "valueOf", desc := "(IIZI)I" } : MethodName) prog_14_method_18_code (9 : Nat) (Option.some FieldType.int) ∈ zz_ws := zz_in (List.mem_of_getElem? (i := 1084) (by decide +kernel)) rfl
theorem zw_1085 : Cond.methodLink "RequestGateModel" (167 : Nat) ({ cls := "RequestGateModel", name := "simple", desc := "(IIZI)I" } : MethodName) ∈ zz_ws := zz_in (List.mem_of_getElem? (i := 1085) (by decide +kernel)) rfl
theorem zw_1087 : Cond.instanceMethod ({ cls := "RequestGateModel", name := "simple", desc := "(IIZI)I" } : MethodName) ∈ zz_ws := zz_in (List.mem_of_getElem? (i := 1087) (by decide +kernel)) rfl
theorem zw_1088 : Cond.code ({ cls := "RequestGateModel", name := "simple", desc := "(IIZI)I" } : MethodName) prog_14_method_17_code (5 : Nat) (Option.some FieldType.int) ∈ zz_ws := zz_in (List.mem_of_getElem? (i := 1088) (by decide +kernel)) rfl
theorem zw_1089 : Cond.methodLink "RequestGateModel" (163 : Nat) ({ cls := "RequestGateModel", name := "truth", desc := "(Z)I" } : MethodName) ∈ zz_ws := zz_in (List.mem_of_getElem? (i := 1089) (by decide +kernel)) rfl
theorem zw_1090 : Cond.static ({ cls := "RequestGateModel", name := "truth", desc := "(Z)I" } : MethodName) ∈ zz_ws := zz_in (List.mem_of_getElem? (i := 1090) (by decide +kernel)) rfl
theorem zw_1091 : Cond.code ({ cls := "RequestGateModel", name := "truth", desc := "(Z)I" } : MethodName) prog_14_method_16_code (1 : Nat) (Option.some FieldType.int) ∈ zz_ws := zz_in (List.mem_of_getElem? (i := 1091) (by decide +kernel)) rfl
theorem zw_1092 : Cond.methodLink "RequestGateLaw" (67 : Nat) ({ cls := "RequestGateModel", name := "open", desc := "(IIIII)I" } : MethodName) ∈ zz_ws := zz_in (List.mem_of_getElem? (i := 1092) (by decide +kernel)) rfl
theorem zw_1093 : Cond.instanceMethod ({ cls := "RequestGateModel", name := "open", desc := "(IIIII)I" } : MethodName) ∈ zz_ws := zz_in (List.mem_of_getElem? (i := 1093) (by decide +kernel)) rfl
theorem zw_1094 : Cond.selects "RequestGateModel" ({ cls := "RequestGateModel", name := "open", desc := "(IIIII)I" } : MethodName) ({ cls := "RequestGateModel", name := "open", desc := "(IIIII)I" } : MethodName) ∈ zz_ws := zz_in (List.mem_of_getElem? (i := 1094) (by decide +kernel)) rfl
theorem zw_1095 : Cond.code ({ cls := "RequestGateModel", name := "open", desc := "(IIIII)I" } : MethodName) prog_14_method_39_code (9 : Nat) (Option.some FieldType.int) ∈ zz_ws := zz_in (List.mem_of_getElem? (i := 1095) (by decide +kernel)) rfl
theorem zw_1096 : Cond.methodLink "RequestGateModel" (255 : Nat) ({ cls := "RequestGateModel", name := "read", desc := "()Z" } : MethodName) ∈ zz_ws := zz_in (List.mem_of_getElem? (i := 1096) (by decide +kernel)) rfl
theorem zw_1098 : Cond.instanceMethod ({ cls := "RequestGateModel", name := "read", desc := "()Z" } : MethodName) ∈ zz_ws := zz_in (List.mem_of_getElem? (i := 1098) (by decide +kernel)) rfl
theorem zw_1099 : Cond.code ({ cls := "RequestGateModel", name := "read", desc := "()Z" } : MethodName) prog_14_method_6_code (10 : Nat) (Option.some FieldType.boolean) ∈ zz_ws := zz_in (List.mem_of_getElem? (i := 1099) (by decide +kernel)) rfl
theorem zw_1100 : Cond.methodLink "RequestGateModel" (132 : Nat) ({ cls := "RequestGateModel", name := "digit", desc := "(I)I" } : MethodName) ∈ zz_ws := zz_in (List.mem_of_getElem? (i := 1100) (by decide +kernel)) rfl
theorem zw_1101 : Cond.static ({ cls := "RequestGateModel", name := "digit", desc := "(I)I" } : MethodName) ∈ zz_ws := zz_in (List.mem_of_getElem? (i := 1101) (by decide +kernel)) rfl
theorem zw_1102 : Cond.code ({ cls := "RequestGateModel", name := "digit", desc := "(I)I" } : MethodName) prog_14_method_4_code (1 : Nat) (Option.some FieldType.int) ∈ zz_ws := zz_in (List.mem_of_getElem? (i := 1102) (by decide +kernel)) rfl
theorem zw_1103 : Cond.methodLink "RequestGateModel" (140 : Nat) ({ cls := "RequestGateModel", name := "settle", desc := "(I)Z" } : MethodName) ∈ zz_ws := zz_in (List.mem_of_getElem? (i := 1103) (by decide +kernel)) rfl
theorem zw_1105 : Cond.instanceMethod ({ cls := "RequestGateModel", name := "settle", desc := "(I)Z" } : MethodName) ∈ zz_ws := zz_in (List.mem_of_getElem? (i := 1105) (by decide +kernel)) rfl
theorem zw_1106 : Cond.code ({ cls := "RequestGateModel", name := "settle", desc := "(I)Z" } : MethodName) prog_14_method_8_code (4 : Nat) (Option.some FieldType.boolean) ∈ zz_ws := zz_in (List.mem_of_getElem? (i := 1106) (by decide +kernel)) rfl
theorem zw_1107 : Cond.methodLink "RequestGateModel" (146 : Nat) ({ cls := "RequestGateModel", name := "dots", desc := "(II)Z" } : MethodName) ∈ zz_ws := zz_in (List.mem_of_getElem? (i := 1107) (by decide +kernel)) rfl
theorem zw_1109 : Cond.instanceMethod ({ cls := "RequestGateModel", name := "dots", desc := "(II)Z" } : MethodName) ∈ zz_ws := zz_in (List.mem_of_getElem? (i := 1109) (by decide +kernel)) rfl
theorem zw_1110 : Cond.code ({ cls := "RequestGateModel", name := "dots", desc := "(II)Z" } : MethodName) prog_14_method_7_code (5 : Nat) (Option.some FieldType.boolean) ∈ zz_ws := zz_in (List.mem_of_getElem? (i := 1110) (by decide +kernel)) rfl
theorem zw_1111 : Cond.methodLink "RequestGateModel" (258 : Nat) ({ cls := "RequestGateModel", name := "ask", desc := "(III)I" } : MethodName) ∈ zz_ws := zz_in (List.mem_of_getElem? (i := 1111) (by decide +kernel)) rfl
theorem zw_1113 : Cond.instanceMethod ({ cls := "RequestGateModel", name := "ask", desc := "(III)I" } : MethodName) ∈ zz_ws := zz_in (List.mem_of_getElem? (i := 1113) (by decide +kernel)) rfl
theorem zw_1114 : Cond.code ({ cls := "RequestGateModel", name := "ask", desc := "(III)I" } : MethodName) prog_14_method_38_code (6 : Nat) (Option.some FieldType.int) ∈ zz_ws := zz_in (List.mem_of_getElem? (i := 1114) (by decide +kernel)) rfl
theorem zw_1115 : Cond.methodLink "RequestGateModel" (246 : Nat) ({ cls := "RequestGateModel", name := "seriesBy", desc := "(I)I" } : MethodName) ∈ zz_ws := zz_in (List.mem_of_getElem? (i := 1115) (by decide +kernel)) rfl
theorem zw_1117 : Cond.instanceMethod ({ cls := "RequestGateModel", name := "seriesBy", desc := "(I)I" } : MethodName) ∈ zz_ws := zz_in (List.mem_of_getElem? (i := 1117) (by decide +kernel)) rfl
theorem zw_1118 : Cond.code ({ cls := "RequestGateModel", name := "seriesBy", desc := "(I)I" } : MethodName) prog_14_method_26_code (4 : Nat) (Option.some FieldType.int) ∈ zz_ws := zz_in (List.mem_of_getElem? (i := 1118) (by decide +kernel)) rfl
theorem zw_1119 : Cond.methodLink "RequestGateModel" (261 : Nat) ({ cls := "RequestGateModel", name := "ruleFits", desc := "(I)Z" } : MethodName) ∈ zz_ws := zz_in (List.mem_of_getElem? (i := 1119) (by decide +kernel)) rfl
theorem zw_1121 : Cond.instanceMethod ({ cls := "RequestGateModel", name := "ruleFits", desc := "(I)Z" } : MethodName) ∈ zz_ws := zz_in (List.mem_of_getElem? (i := 1121) (by decide +kernel)) rfl
theorem zw_1122 : Cond.code ({ cls := "RequestGateModel", name := "ruleFits", desc := "(I)Z" } : MethodName) prog_14_method_11_code (8 : Nat) (Option.some FieldType.boolean) ∈ zz_ws := zz_in (List.mem_of_getElem? (i := 1122) (by decide +kernel)) rfl
theorem zw_1123 : Cond.methodLink "RequestGateModel" (150 : Nat) ({ cls := "RequestGateModel", name := "pieceFits", desc := "(III)Z" } : MethodName) ∈ zz_ws := zz_in (List.mem_of_getElem? (i := 1123) (by decide +kernel)) rfl
theorem zw_1125 : Cond.instanceMethod ({ cls := "RequestGateModel", name := "pieceFits", desc := "(III)Z" } : MethodName) ∈ zz_ws := zz_in (List.mem_of_getElem? (i := 1125) (by decide +kernel)) rfl
theorem zw_1126 : Cond.code ({ cls := "RequestGateModel", name := "pieceFits", desc := "(III)Z" } : MethodName) prog_14_method_10_code (9 : Nat) (Option.some FieldType.boolean) ∈ zz_ws := zz_in (List.mem_of_getElem? (i := 1126) (by decide +kernel)) rfl
theorem zw_1127 : Cond.methodLink "RequestGateLaw" (76 : Nat) ({ cls := "RequestGateModel", name := "close", desc := "()Z" } : MethodName) ∈ zz_ws := zz_in (List.mem_of_getElem? (i := 1127) (by decide +kernel)) rfl
theorem zw_1128 : Cond.instanceMethod ({ cls := "RequestGateModel", name := "close", desc := "()Z" } : MethodName) ∈ zz_ws := zz_in (List.mem_of_getElem? (i := 1128) (by decide +kernel)) rfl
theorem zw_1129 : Cond.selects "RequestGateModel" ({ cls := "RequestGateModel", name := "close", desc := "()Z" } : MethodName) ({ cls := "RequestGateModel", name := "close", desc := "()Z" } : MethodName) ∈ zz_ws := zz_in (List.mem_of_getElem? (i := 1129) (by decide +kernel)) rfl
theorem zw_1130 : Cond.code ({ cls := "RequestGateModel", name := "close", desc := "()Z" } : MethodName) prog_14_method_40_code (2 : Nat) (Option.some FieldType.boolean) ∈ zz_ws := zz_in (List.mem_of_getElem? (i := 1130) (by decide +kernel)) rfl
theorem zw_1131 : Cond.methodLink "RequestGateLaw" (81 : Nat) ({ cls := "RequestGateModel", name := "who", desc := "()I" } : MethodName) ∈ zz_ws := zz_in (List.mem_of_getElem? (i := 1131) (by decide +kernel)) rfl
theorem zw_1132 : Cond.instanceMethod ({ cls := "RequestGateModel", name := "who", desc := "()I" } : MethodName) ∈ zz_ws := zz_in (List.mem_of_getElem? (i := 1132) (by decide +kernel)) rfl
theorem zw_1133 : Cond.selects "RequestGateModel" ({ cls := "RequestGateModel", name := "who", desc := "()I" } : MethodName) ({ cls := "RequestGateModel", name := "who", desc := "()I" } : MethodName) ∈ zz_ws := zz_in (List.mem_of_getElem? (i := 1133) (by decide +kernel)) rfl
theorem zw_1134 : Cond.code ({ cls := "RequestGateModel", name := "who", desc := "()I" } : MethodName) prog_14_method_41_code (1 : Nat) (Option.some FieldType.int) ∈ zz_ws := zz_in (List.mem_of_getElem? (i := 1134) (by decide +kernel)) rfl
theorem zw_1135 : Cond.methodLink "RequestGateLaw" (86 : Nat) ({ cls := "RequestGateModel", name := "fits", desc := "(I)I" } : MethodName) ∈ zz_ws := zz_in (List.mem_of_getElem? (i := 1135) (by decide +kernel)) rfl
theorem zw_1136 : Cond.instanceMethod ({ cls := "RequestGateModel", name := "fits", desc := "(I)I" } : MethodName) ∈ zz_ws := zz_in (List.mem_of_getElem? (i := 1136) (by decide +kernel)) rfl
theorem zw_1137 : Cond.selects "RequestGateModel" ({ cls := "RequestGateModel", name := "fits", desc := "(I)I" } : MethodName) ({ cls := "RequestGateModel", name := "fits", desc := "(I)I" } : MethodName) ∈ zz_ws := zz_in (List.mem_of_getElem? (i := 1137) (by decide +kernel)) rfl
theorem zw_1138 : Cond.code ({ cls := "RequestGateModel", name := "fits", desc := "(I)I" } : MethodName) prog_14_method_42_code (2 : Nat) (Option.some FieldType.int) ∈ zz_ws := zz_in (List.mem_of_getElem? (i := 1138) (by decide +kernel)) rfl
theorem zw_1139 : Cond.methodLink "RequestGateLaw" (90 : Nat) ({ cls := "RequestGateModel", name := "session", desc := "(III)I" } : MethodName) ∈ zz_ws := zz_in (List.mem_of_getElem? (i := 1139) (by decide +kernel)) rfl
theorem zw_1140 : Cond.instanceMethod ({ cls := "RequestGateModel", name := "session", desc := "(III)I" } : MethodName) ∈ zz_ws := zz_in (List.mem_of_getElem? (i := 1140) (by decide +kernel)) rfl
theorem zw_1141 : Cond.selects "RequestGateModel" ({ cls := "RequestGateModel", name := "session", desc := "(III)I" } : MethodName) ({ cls := "RequestGateModel", name := "session", desc := "(III)I" } : MethodName) ∈ zz_ws := zz_in (List.mem_of_getElem? (i := 1141) (by decide +kernel)) rfl
theorem zw_1142 : Cond.code ({ cls := "RequestGateModel", name := "session", desc := "(III)I" } : MethodName) prog_14_method_43_code (9 : Nat) (Option.some FieldType.int) ∈ zz_ws := zz_in (List.mem_of_getElem? (i := 1142) (by decide +kernel)) rfl
theorem zw_1143 : Cond.methodLink "RequestGateLaw" (94 : Nat) ({ cls := "RequestGateModel", name := "series", desc := "(III)I" } : MethodName) ∈ zz_ws := zz_in (List.mem_of_getElem? (i := 1143) (by decide +kernel)) rfl
theorem zw_1144 : Cond.instanceMethod ({ cls := "RequestGateModel", name := "series", desc := "(III)I" } : MethodName) ∈ zz_ws := zz_in (List.mem_of_getElem? (i := 1144) (by decide +kernel)) rfl
theorem zw_1145 : Cond.selects "RequestGateModel" ({ cls := "RequestGateModel", name := "series", desc := "(III)I" } : MethodName) ({ cls := "RequestGateModel", name := "series", desc := "(III)I" } : MethodName) ∈ zz_ws := zz_in (List.mem_of_getElem? (i := 1145) (by decide +kernel)) rfl
theorem zw_1146 : Cond.code ({ cls := "RequestGateModel", name := "series", desc := "(III)I" } : MethodName) prog_14_method_44_code (9 : Nat) (Option.some FieldType.int) ∈ zz_ws := zz_in (List.mem_of_getElem? (i := 1146) (by decide +kernel)) rfl
theorem zw_1147 : Cond.methodLink "RequestGateLaw" (98 : Nat) ({ cls := "RequestGateModel", name := "hash", desc := "(I)I" } : MethodName) ∈ zz_ws := zz_in (List.mem_of_getElem? (i := 1147) (by decide +kernel)) rfl
theorem zw_1148 : Cond.instanceMethod ({ cls := "RequestGateModel", name := "hash", desc := "(I)I" } : MethodName) ∈ zz_ws := zz_in (List.mem_of_getElem? (i := 1148) (by decide +kernel)) rfl
theorem zw_1149 : Cond.selects "RequestGateModel" ({ cls := "RequestGateModel", name := "hash", desc := "(I)I" } : MethodName) ({ cls := "RequestGateModel", name := "hash", desc := "(I)I" } : MethodName) ∈ zz_ws := zz_in (List.mem_of_getElem? (i := 1149) (by decide +kernel)) rfl
theorem zw_1150 : Cond.code ({ cls := "RequestGateModel", name := "hash", desc := "(I)I" } : MethodName) prog_14_method_45_code (2 : Nat) (Option.some FieldType.int) ∈ zz_ws := zz_in (List.mem_of_getElem? (i := 1150) (by decide +kernel)) rfl
theorem zw_1151 : Cond.methodLink "RequestGateLaw" (102 : Nat) ({ cls := "RequestGateModel", name := "count", desc := "(I)I" } : MethodName) ∈ zz_ws := zz_in (List.mem_of_getElem? (i := 1151) (by decide +kernel)) rfl
theorem zw_1152 : Cond.instanceMethod ({ cls := "RequestGateModel", name := "count", desc := "(I)I" } : MethodName) ∈ zz_ws := zz_in (List.mem_of_getElem? (i := 1152) (by decide +kernel)) rfl
theorem zw_1153 : Cond.selects "RequestGateModel" ({ cls := "RequestGateModel", name := "count", desc := "(I)I" } : MethodName) ({ cls := "RequestGateModel", name := "count", desc := "(I)I" } : MethodName) ∈ zz_ws := zz_in (List.mem_of_getElem? (i := 1153) (by decide +kernel)) rfl
theorem zw_1154 : Cond.code ({ cls := "RequestGateModel", name := "count", desc := "(I)I" } : MethodName) prog_14_method_46_code (2 : Nat) (Option.some FieldType.int) ∈ zz_ws := zz_in (List.mem_of_getElem? (i := 1154) (by decide +kernel)) rfl
theorem zw_1160 : Cond.selects "[Ljava/lang/Object;" ({ cls := "java/lang/Object", name := "getClass", desc := "()Ljava/lang/Class;" } : MethodName) ({ cls := "java/lang/Object", name := "getClass", desc := "()Ljava/lang/Class;" } : MethodName) ∈ zz_ws := zz_in (List.mem_of_getElem? (i := 1160) (by decide +kernel)) rfl
end
section
theorem zk_0_l : ∀ k, k < 19 → u_lay "RequestGate" fF_0 k ∈ zz_ws
  | 0, _ => zw_190
  | 1, _ => zw_192
  | 2, _ => zw_194
  | 3, _ => zw_196
  | 4, _ => zw_198
  | 5, _ => zw_200
  | 6, _ => zw_202
  | 7, _ => zw_204
  | 8, _ => zw_206
  | 9, _ => zw_208
  | 10, _ => zw_210
  | 11, _ => zw_212
  | 12, _ => zw_214
  | 13, _ => zw_216
  | 14, _ => zw_218
  | 15, _ => zw_220
  | 16, _ => zw_222
  | 17, _ => zw_224
  | 18, _ => zw_226
  | n + 19, h => absurd h (by omega)
theorem zk_0_t : ∀ k, k < 19 → parseFieldDescriptor (fF_0 k).2.2.1 = some (zz_fty 0 k) := by decide +kernel
theorem zk_0_n : ∀ a, a < 19 → ∀ b, b < 19 → a ≠ b → (fF_0 a).2.1 ≠ (fF_0 b).2.1 := by decide +kernel
theorem zk_1_l : ∀ k, k < 2 → u_lay "RequestGate$Text" fF_1 k ∈ zz_ws
  | 0, _ => zw_41
  | 1, _ => zw_43
  | n + 2, h => absurd h (by omega)
theorem zk_1_t : ∀ k, k < 2 → parseFieldDescriptor (fF_1 k).2.2.1 = some (zz_fty 1 k) := by decide +kernel
theorem zk_1_n : ∀ a, a < 2 → ∀ b, b < 2 → a ≠ b → (fF_1 a).2.1 ≠ (fF_1 b).2.1 := by decide +kernel
theorem zk_2_l : ∀ k, k < 6 → u_lay "RequestGate$Pieces" fF_2 k ∈ zz_ws
  | 0, _ => zw_68
  | 1, _ => zw_70
  | 2, _ => zw_72
  | 3, _ => zw_74
  | 4, _ => zw_76
  | 5, _ => zw_78
  | n + 6, h => absurd h (by omega)
theorem zk_2_t : ∀ k, k < 6 → parseFieldDescriptor (fF_2 k).2.2.1 = some (zz_fty 2 k) := by decide +kernel
theorem zk_2_n : ∀ a, a < 6 → ∀ b, b < 6 → a ≠ b → (fF_2 a).2.1 ≠ (fF_2 b).2.1 := by decide +kernel
theorem zk_3_l : ∀ k, k < 1 → u_lay "RequestGate$PlainPath" fF_3 k ∈ zz_ws
  | 0, _ => zw_84
  | n + 1, h => absurd h (by omega)
theorem zk_3_t : ∀ k, k < 1 → parseFieldDescriptor (fF_3 k).2.2.1 = some (zz_fty 3 k) := by decide +kernel
theorem zk_3_n : ∀ a, a < 1 → ∀ b, b < 1 → a ≠ b → (fF_3 a).2.1 ≠ (fF_3 b).2.1 := by decide +kernel
theorem zk_4_l : ∀ k, k < 2 → u_lay "RequestGate$Layer" fF_4 k ∈ zz_ws
  | 0, _ => zw_95
  | 1, _ => zw_97
  | n + 2, h => absurd h (by omega)
theorem zk_4_t : ∀ k, k < 2 → parseFieldDescriptor (fF_4 k).2.2.1 = some (zz_fty 4 k) := by decide +kernel
theorem zk_4_n : ∀ a, a < 2 → ∀ b, b < 2 → a ≠ b → (fF_4 a).2.1 ≠ (fF_4 b).2.1 := by decide +kernel
theorem zk_5_l : ∀ k, k < 3 → u_lay "RequestGate$Rule" fF_5 k ∈ zz_ws
  | 0, _ => zw_320
  | 1, _ => zw_322
  | 2, _ => zw_324
  | n + 3, h => absurd h (by omega)
theorem zk_5_t : ∀ k, k < 3 → parseFieldDescriptor (fF_5 k).2.2.1 = some (zz_fty 5 k) := by decide +kernel
theorem zk_5_n : ∀ a, a < 3 → ∀ b, b < 3 → a ≠ b → (fF_5 a).2.1 ≠ (fF_5 b).2.1 := by decide +kernel
theorem zk_6_l : ∀ k, k < 1 → u_lay "RequestGate$Roles" fF_6 k ∈ zz_ws
  | 0, _ => zw_130
  | n + 1, h => absurd h (by omega)
theorem zk_6_t : ∀ k, k < 1 → parseFieldDescriptor (fF_6 k).2.2.1 = some (zz_fty 6 k) := by decide +kernel
theorem zk_6_n : ∀ a, a < 1 → ∀ b, b < 1 → a ≠ b → (fF_6 a).2.1 ≠ (fF_6 b).2.1 := by decide +kernel
theorem zk_7_l : ∀ k, k < 5 → u_lay "RequestGate$Conditions" fF_7 k ∈ zz_ws
  | 0, _ => zw_112
  | 1, _ => zw_114
  | 2, _ => zw_116
  | 3, _ => zw_118
  | 4, _ => zw_120
  | n + 5, h => absurd h (by omega)
theorem zk_7_t : ∀ k, k < 5 → parseFieldDescriptor (fF_7 k).2.2.1 = some (zz_fty 7 k) := by decide +kernel
theorem zk_7_n : ∀ a, a < 5 → ∀ b, b < 5 → a ≠ b → (fF_7 a).2.1 ≠ (fF_7 b).2.1 := by decide +kernel
theorem zk_8_l : ∀ k, k < 6 → u_lay "RequestGate$User" fF_8 k ∈ zz_ws
  | 0, _ => zw_425
  | 1, _ => zw_427
  | 2, _ => zw_429
  | 3, _ => zw_431
  | 4, _ => zw_433
  | 5, _ => zw_435
  | n + 6, h => absurd h (by omega)
theorem zk_8_t : ∀ k, k < 6 → parseFieldDescriptor (fF_8 k).2.2.1 = some (zz_fty 8 k) := by decide +kernel
theorem zk_8_n : ∀ a, a < 6 → ∀ b, b < 6 → a ≠ b → (fF_8 a).2.1 ≠ (fF_8 b).2.1 := by decide +kernel
theorem zk_9_l : ∀ k, k < 6 → u_lay "RequestGate$Ticket" fF_9 k ∈ zz_ws
  | 0, _ => zw_589
  | 1, _ => zw_591
  | 2, _ => zw_593
  | 3, _ => zw_595
  | 4, _ => zw_597
  | 5, _ => zw_599
  | n + 6, h => absurd h (by omega)
theorem zk_9_t : ∀ k, k < 6 → parseFieldDescriptor (fF_9 k).2.2.1 = some (zz_fty 9 k) := by decide +kernel
theorem zk_9_n : ∀ a, a < 6 → ∀ b, b < 6 → a ≠ b → (fF_9 a).2.1 ≠ (fF_9 b).2.1 := by decide +kernel
theorem zk_10_l : ∀ k, k < 1 → u_lay "RequestGate$Tickets" fF_10 k ∈ zz_ws
  | 0, _ => zw_168
  | n + 1, h => absurd h (by omega)
theorem zk_10_t : ∀ k, k < 1 → parseFieldDescriptor (fF_10 k).2.2.1 = some (zz_fty 10 k) := by decide +kernel
theorem zk_10_n : ∀ a, a < 1 → ∀ b, b < 1 → a ≠ b → (fF_10 a).2.1 ≠ (fF_10 b).2.1 := by decide +kernel
theorem zk_11_l : ∀ k, k < 5 → u_lay "RequestGate$Service" fF_11 k ∈ zz_ws
  | 0, _ => zw_467
  | 1, _ => zw_469
  | 2, _ => zw_471
  | 3, _ => zw_473
  | 4, _ => zw_475
  | n + 5, h => absurd h (by omega)
theorem zk_11_t : ∀ k, k < 5 → parseFieldDescriptor (fF_11 k).2.2.1 = some (zz_fty 11 k) := by decide +kernel
theorem zk_11_n : ∀ a, a < 5 → ∀ b, b < 5 → a ≠ b → (fF_11 a).2.1 ≠ (fF_11 b).2.1 := by decide +kernel
theorem zk_12_l : ∀ k, k < 3 → u_lay "java/util/ArrayList" fF_12 k ∈ zz_ws
  | 0, _ => zw_152
  | 1, _ => zw_154
  | 2, _ => zw_156
  | n + 3, h => absurd h (by omega)
theorem zk_12_t : ∀ k, k < 3 → parseFieldDescriptor (fF_12 k).2.2.1 = some (zz_fty 12 k) := by decide +kernel
theorem zk_12_n : ∀ a, a < 3 → ∀ b, b < 3 → a ≠ b → (fF_12 a).2.1 ≠ (fF_12 b).2.1 := by decide +kernel
theorem zk_13_l : ∀ k, k < 56 → u_lay "RequestGateModel" fF_13 k ∈ zz_ws
  | 0, _ => zw_866
  | 1, _ => zw_868
  | 2, _ => zw_870
  | 3, _ => zw_872
  | 4, _ => zw_874
  | 5, _ => zw_876
  | 6, _ => zw_878
  | 7, _ => zw_880
  | 8, _ => zw_882
  | 9, _ => zw_884
  | 10, _ => zw_886
  | 11, _ => zw_888
  | 12, _ => zw_890
  | 13, _ => zw_892
  | 14, _ => zw_894
  | 15, _ => zw_896
  | 16, _ => zw_898
  | 17, _ => zw_900
  | 18, _ => zw_902
  | 19, _ => zw_904
  | 20, _ => zw_906
  | 21, _ => zw_908
  | 22, _ => zw_910
  | 23, _ => zw_912
  | 24, _ => zw_914
  | 25, _ => zw_916
  | 26, _ => zw_918
  | 27, _ => zw_920
  | 28, _ => zw_922
  | 29, _ => zw_924
  | 30, _ => zw_926
  | 31, _ => zw_928
  | 32, _ => zw_930
  | 33, _ => zw_932
  | 34, _ => zw_934
  | 35, _ => zw_936
  | 36, _ => zw_938
  | 37, _ => zw_940
  | 38, _ => zw_942
  | 39, _ => zw_944
  | 40, _ => zw_946
  | 41, _ => zw_948
  | 42, _ => zw_950
  | 43, _ => zw_952
  | 44, _ => zw_954
  | 45, _ => zw_956
  | 46, _ => zw_958
  | 47, _ => zw_960
  | 48, _ => zw_962
  | 49, _ => zw_964
  | 50, _ => zw_966
  | 51, _ => zw_968
  | 52, _ => zw_970
  | 53, _ => zw_972
  | 54, _ => zw_974
  | 55, _ => zw_976
  | n + 56, h => absurd h (by omega)
theorem zk_13_t : ∀ k, k < 56 → parseFieldDescriptor (fF_13 k).2.2.1 = some (zz_fty 13 k) := by decide +kernel
theorem zk_13_n : ∀ a, a < 56 → ∀ b, b < 56 → a ≠ b → (fF_13 a).2.1 ≠ (fF_13 b).2.1 := by decide +kernel
theorem zz_layin {C : String} {F : u_T} {N : Nat} (h : ∀ k, k < N → u_lay C F k ∈ zz_ws) : ∀ w ∈ u_ws C F N, w ∈ zz_ws := fun w hw => by
  obtain ⟨k, hk, rfl⟩ := List.mem_map.mp hw
  exact h k (List.mem_range.mp hk)
theorem zz_clok : ∀ {ci : Nat} {C : String} {F : u_T} {N : Nat}, zz_cl[ci]? = some (C, F, N) → (∀ w ∈ u_ws C F N, w ∈ zz_ws) ∧ (∀ k, k < N → parseFieldDescriptor (F k).2.2.1 = some (zz_fty ci k)) ∧ (∀ a, a < N → ∀ b, b < N → a ≠ b → (F a).2.1 ≠ (F b).2.1)
  | 0, _, _, _, h => by cases h; exact ⟨zz_layin zk_0_l, zk_0_t, zk_0_n⟩
  | 1, _, _, _, h => by cases h; exact ⟨zz_layin zk_1_l, zk_1_t, zk_1_n⟩
  | 2, _, _, _, h => by cases h; exact ⟨zz_layin zk_2_l, zk_2_t, zk_2_n⟩
  | 3, _, _, _, h => by cases h; exact ⟨zz_layin zk_3_l, zk_3_t, zk_3_n⟩
  | 4, _, _, _, h => by cases h; exact ⟨zz_layin zk_4_l, zk_4_t, zk_4_n⟩
  | 5, _, _, _, h => by cases h; exact ⟨zz_layin zk_5_l, zk_5_t, zk_5_n⟩
  | 6, _, _, _, h => by cases h; exact ⟨zz_layin zk_6_l, zk_6_t, zk_6_n⟩
  | 7, _, _, _, h => by cases h; exact ⟨zz_layin zk_7_l, zk_7_t, zk_7_n⟩
  | 8, _, _, _, h => by cases h; exact ⟨zz_layin zk_8_l, zk_8_t, zk_8_n⟩
  | 9, _, _, _, h => by cases h; exact ⟨zz_layin zk_9_l, zk_9_t, zk_9_n⟩
  | 10, _, _, _, h => by cases h; exact ⟨zz_layin zk_10_l, zk_10_t, zk_10_n⟩
  | 11, _, _, _, h => by cases h; exact ⟨zz_layin zk_11_l, zk_11_t, zk_11_n⟩
  | 12, _, _, _, h => by cases h; exact ⟨zz_layin zk_12_l, zk_12_t, zk_12_n⟩
  | 13, _, _, _, h => by cases h; exact ⟨zz_layin zk_13_l, zk_13_t, zk_13_n⟩
  | n + 14, _, _, _, h => by cases h
end
section
/-! My own judgement over the kit's W: the heap as a function from addresses to cells, locals and stack as lists. -/
def zz_set {α : Type} : List α → Nat → α → Option (List α)
  | [], _, _ => none
  | _ :: l, 0, v => some (v :: l)
  | a :: l, i + 1, v => (zz_set l i v).map (fun r => a :: r)
theorem zz_set_spec {α : Type} : ∀ {l l' : List α} {i : Nat} {v : α}, zz_set l i v = some l' → i < l.length ∧ l' = l.set i v
  | [], _, _, _, h => by cases h
  | _ :: l, l', 0, v, h => by cases h; exact ⟨Nat.succ_pos _, rfl⟩
  | a :: l, l', i + 1, v, h => by
    simp only [zz_set, Option.map_eq_some_iff] at h
    obtain ⟨r, h1, rfl⟩ := h
    obtain ⟨h2, rfl⟩ := zz_set_spec h1
    exact ⟨Nat.succ_lt_succ h2, rfl⟩
abbrev zz_H : Type := Nat → Option va_E
/-- launch, classes' numbers and slots, array classes by kind, base, the empty array, the class object of Object[] -/
abbrev zz_X : Type := Launch × va_G × (Nat → Nat) × Nat × Nat × Nat
abbrev zz_l (X : zz_X) : Launch := X.1
abbrev zz_D (X : zz_X) : va_G := X.2.1
abbrev zz_a (X : zz_X) : Nat → Nat := X.2.2.1
abbrev zz_b (X : zz_X) : Nat := X.2.2.2.1
abbrev zz_e (X : zz_X) : Nat := X.2.2.2.2.1
abbrev zz_mi (X : zz_X) : Nat := X.2.2.2.2.2
abbrev zz_A (X : zz_X) : Nat → Prop := fun q => zz_b X ≤ q
/-- a method: name, code, locals, what it returns -/
abbrev zz_M : Type := MethodName × ByteArray × Nat × Option FieldType
def zz_up (h : zz_H) (a : Nat) (e : va_E) : zz_H := fun q => if q = a then some e else h q
theorem zz_up_eq (h : zz_H) (a : Nat) (e : va_E) : zz_up h a e a = some e := if_pos rfl
theorem zz_up_ne {h : zz_H} {a q : Nat} {e : va_E} (hq : q ≠ a) : zz_up h a e q = h q := if_neg hq
theorem zz_up_up (h : zz_H) (a : Nat) (e f : va_E) : zz_up (zz_up h a e) a f = zz_up h a f := by
  funext q
  by_cases hq : q = a
  · subst hq; rw [zz_up_eq, zz_up_eq]
  · rw [zz_up_ne hq, zz_up_ne hq, zz_up_ne hq]
theorem zz_up_same {h : zz_H} {a : Nat} {e : va_E} (ha : h a = some e) : zz_up h a e = h := by
  funext q
  by_cases hq : q = a
  · subst hq; rw [zz_up_eq, ha]
  · rw [zz_up_ne hq]
def zz_ty (X : zz_X) : List (ClassId × FieldType) := [(zz_a X 0, .int), (zz_a X 1, .char), (zz_a X 2, .boolean), (zz_a X 3, .object "java/lang/Object"), (zz_a X 4, .object "java/lang/Object")]
def zz_c (X : zz_X) (e : va_E) : va_E := match e with
  | .inl x => .inl (zz_a X x.1, x.2)
  | .inr o => .inr o
/-- the abstract heap and the machine's: every cell that h names lies there; those that may be written lie from the base on -/
def zz_T (X : zz_X) (n : Nat) (h : zz_H) (H : Heap) : Prop :=
  H.size = n ∧ zz_b X ≤ n ∧ ∀ (a : Nat) (e : va_E), h a = some e → va_at (zz_D X) zz_cl (a, zz_c X e) H ∧ ((∃ x, e = .inl (4, x)) ∨ zz_b X ≤ a)
theorem zz_T.lt {X : zz_X} {n : Nat} {h : zz_H} {H : Heap} (hT : zz_T X n h H) {a : Nat} {e : va_E} (ha : h a = some e) : a < n := by
  have := (hT.2.2 a e ha).1.lt
  rw [← hT.1]; exact this
theorem zz_T.put {X : zz_X} {n : Nat} {h : zz_H} {H H1 : Heap} {a : Nat} {e : va_E} (hT : zz_T X n h H) (hb : zz_b X ≤ a) (he : va_at (zz_D X) zz_cl (a, zz_c X e) H1) (z : H1.size = H.size) (oq : ∀ q : Nat, q ≠ a → H1[q]? = H[q]?) : zz_T X n (zz_up h a e) H1 := by
  refine ⟨z.trans hT.1, hT.2.1, fun q f hq => ?_⟩
  by_cases hqa : q = a
  · subst hqa
    rw [zz_up_eq] at hq
    cases hq
    exact ⟨he, Or.inr hb⟩
  · rw [zz_up_ne hqa] at hq
    obtain ⟨h1, h2⟩ := hT.2.2 q f hq
    exact ⟨h1.kept (oq q hqa), h2⟩
theorem zz_T.push {X : zz_X} {n : Nat} {h : zz_H} {H H1 : Heap} {e : va_E} (hT : zz_T X n h H) (he : va_at (zz_D X) zz_cl (n, zz_c X e) H1) (z : H1.size = n + 1) (oq : ∀ q : Nat, q < n → H1[q]? = H[q]?) : zz_T X (n + 1) (zz_up h n e) H1 := by
  refine ⟨z, Nat.le_succ_of_le hT.2.1, fun q f hq => ?_⟩
  by_cases hqa : q = n
  · subst hqa
    rw [zz_up_eq] at hq
    cases hq
    exact ⟨he, Or.inr hT.2.1⟩
  · rw [zz_up_ne hqa] at hq
    obtain ⟨h1, h2⟩ := hT.2.2 q f hq
    exact ⟨h1.kept (oq q (hT.lt hq)), h2⟩
/-- what rides along at every start: classes, array classes, links inside the nest, casts, the empty array's static, the class object -/
def zz_K (X : zz_X) (U : State) : Prop :=
  va_K (zz_D X) zz_cl (zz_ty X) U ∧ (∀ q ∈ zz_nl, va_Nw (.methodLinkNest q.1 q.2.1 q.2.2.1 q.2.2.2) U) ∧ (∀ q ∈ zz_ca, va_Nw (.castable q.1 q.2) U) ∧ va_AO "java/lang/Object" U ∧
  va_Z "java/util/ArrayList" "DEFAULTCAPACITY_EMPTY_ELEMENTDATA" "[Ljava/lang/Object;" (.ref (zz_e X)) (zz_A X) U U.heap ∧ va_Mi "[Ljava/lang/Object;" (zz_mi X) U ∧ va_Dc U
theorem zz_K.go {X : zz_X} {u U : State} (hW : u.WarmedH U.vm) (hq : ∀ a : Nat, a < u.heap.size → ¬ zz_A X a → U.heap[a]? = u.heap[a]?) (h : zz_K X u) : zz_K X U := by
  obtain ⟨h1, h2, h3, h4, h5, h6, h7⟩ := h
  exact ⟨h1.moved hW.alike, fun q hq => (h2 q hq).warmM hW, fun q hq => (h3 q hq).warmC hW, h4.moved hW.alike, (h5.kept hq).moved hW.alike, h6.moved hW.alike, h7.moved hW.alike⟩
theorem zz_K.calling {X : zz_X} {U : State} {g : JFrame} {mk : MethodId} {a : Array Value} (h : zz_K X U) : zz_K X (U.calling g mk a) := by
  obtain ⟨h1, h2, h3, h4, h5, h6, h7⟩ := h
  have r : U.vm.Alike (U.calling g mk a).vm := Vm.Alike.refl U.vm
  exact ⟨h1.moved r, fun q hq => (h2 q hq).same rfl rfl, fun q hq => (h3 q hq).same rfl rfl, h4.moved r, h5.moved r, h6.moved r, h7.moved r⟩
/-- locals, each of one slot -/
def zz_L (L : Nat) (ls : List (Option Value)) (A : Array Slot) : Prop := A.size = L ∧ lv_wf A ∧ ls.length ≤ L ∧ ∀ (i : Nat) (v : Value), ls[i]? = some (some v) → A[i]? = some (.val v) ∧ v.category = 1
def zz_pr : Nat → List (Option Value) → List (Nat × Value)
  | _, [] => []
  | i, none :: l => zz_pr (i + 1) l
  | i, some v :: l => (i, v) :: zz_pr (i + 1) l
theorem zz_pr_in : ∀ (ls : List (Option Value)) (i j : Nat) (v : Value), ls[j]? = some (some v) → (i + j, v) ∈ zz_pr i ls
  | [], _, _, _, h => by simp at h
  | x :: l, i, 0, v, h => by
    simp only [List.getElem?_cons_zero, Option.some.injEq] at h
    subst h
    exact List.mem_cons_self
  | x :: l, i, j + 1, v, h => by
    rw [List.getElem?_cons_succ] at h
    have h1 := zz_pr_in l (i + 1) j v h
    rw [show i + 1 + j = i + (j + 1) by omega] at h1
    cases x with
    | none => exact h1
    | some w => exact List.mem_cons_of_mem _ h1
theorem zz_pr_of : ∀ (ls : List (Option Value)) (i : Nat) (q : Nat × Value), q ∈ zz_pr i ls → ∃ j, q.1 = i + j ∧ ls[j]? = some (some q.2)
  | [], _, _, h => by cases h
  | none :: l, i, q, h => by
    obtain ⟨j, h1, h2⟩ := zz_pr_of l (i + 1) q h
    exact ⟨j + 1, by omega, by rw [List.getElem?_cons_succ]; exact h2⟩
  | some w :: l, i, q, h => by
    rcases List.mem_cons.mp h with h | h
    · subst h
      exact ⟨0, rfl, rfl⟩
    · obtain ⟨j, h1, h2⟩ := zz_pr_of l (i + 1) q h
      exact ⟨j + 1, by omega, by rw [List.getElem?_cons_succ]; exact h2⟩
theorem zz_L.has {L : Nat} {ls : List (Option Value)} {A : Array Slot} (h : zz_L L ls A) : lv_has A L (zz_pr 0 ls) := by
  refine ⟨h.1, h.2.1, fun q hq => ?_⟩
  obtain ⟨j, h1, h2⟩ := zz_pr_of ls 0 q hq
  rw [Nat.zero_add] at h1
  rw [h1]
  exact (h.2.2.2 j q.2 h2).1
theorem zz_L.store {L : Nat} {ls ls' : List (Option Value)} {A A' : Array Slot} {i : Nat} {v : Value} (h : zz_L L ls A) (hs : zz_set ls i (some v) = some ls') (hv : v.category = 1)
    (hA : lv_has A' L ((i, v) :: (zz_pr 0 ls).filter (fun q => !(q.1 == i) && !(q.1 + 1 == i && q.2.category == 2)))) : zz_L L ls' A' := by
  obtain ⟨hi, rfl⟩ := zz_set_spec hs
  refine ⟨hA.1, hA.2.1, by rw [List.length_set]; exact h.2.2.1, fun j w hj => ?_⟩
  by_cases hji : j = i
  · subst hji
    rw [List.getElem?_set_self hi] at hj
    cases hj
    exact ⟨hA.2.2 (j, v) List.mem_cons_self, hv⟩
  · rw [List.getElem?_set_ne (Ne.symm hji)] at hj
    have hw := (h.2.2.2 j w hj).2
    refine ⟨hA.2.2 (j, w) (List.mem_cons_of_mem _ (List.mem_filter.mpr ⟨?_, ?_⟩)), hw⟩
    · have := zz_pr_in ls 0 j w hj
      rwa [Nat.zero_add] at this
    · simp [hji, hw]
theorem zz_L.hi {L : Nat} {ls ls' : List (Option Value)} {A : Array Slot} {i : Nat} {v : Option Value} (h : zz_L L ls A) (hs : zz_set ls i v = some ls') : i < L :=
  Nat.lt_of_lt_of_le (zz_set_spec hs).1 h.2.2.1
/-- the locals at a method's entry -/
def zz_en : List Value → Nat → Option (List (Option Value))
  | [], L => some (List.replicate L none)
  | _ :: _, 0 => none
  | v :: vs, L + 1 => if v.category = 1 then (zz_en vs L).map (fun r => some v :: r) else none
theorem zz_en_spec : ∀ {vs : List Value} {L : Nat} {ls : List (Option Value)} (j : Nat), zz_en vs L = some ls →
    ls.length = L ∧ (lg_sl vs).length ≤ L ∧ ∀ (i : Nat) (v : Value), ls[i]? = some (some v) → (j + i, v) ∈ lv_args j vs ∧ v.category = 1
  | [], L, ls, j, h => by
    cases h
    refine ⟨List.length_replicate, Nat.zero_le _, fun i v hi => ?_⟩
    rw [List.getElem?_replicate] at hi
    split at hi <;> cases hi
  | _ :: _, 0, _, _, h => by cases h
  | w :: vs, L + 1, ls, j, h => by
    unfold zz_en at h
    by_cases hc : w.category = 1
    · rw [if_pos hc, Option.map_eq_some_iff] at h
      obtain ⟨r, h1, rfl⟩ := h
      obtain ⟨a1, a2, a3⟩ := zz_en_spec (j + 1) h1
      have hc2 : ¬ w.category = 2 := by omega
      refine ⟨by simp [a1], ?_, fun i v hi => ?_⟩
      · have : (lg_sl (w :: vs)).length = (lg_sl vs).length + 1 := by simp [lg_sl, hc2]
        omega
      · unfold lv_args
        rw [if_neg hc2]
        cases i with
        | zero =>
          simp only [List.getElem?_cons_zero, Option.some.injEq] at hi
          subst hi
          exact ⟨List.mem_cons_self, hc⟩
        | succ i =>
          rw [List.getElem?_cons_succ] at hi
          obtain ⟨b1, b2⟩ := a3 i v hi
          rw [show j + 1 + i = j + (i + 1) by omega] at b1
          exact ⟨List.mem_cons_of_mem _ b1, b2⟩
    · rw [if_neg hc] at h
      cases h
theorem zz_en_L {vs : List Value} {L : Nat} {ls : List (Option Value)} (h : zz_en vs L = some ls) : zz_L L ls ((lg_sl vs ++ List.replicate (L - (lg_sl vs).length) Slot.unset).toArray) := by
  obtain ⟨a1, a2, a3⟩ := zz_en_spec 0 h
  have hE := lv_entry vs a2
  refine ⟨hE.1, hE.2.1, Nat.le_of_eq a1, fun i v hi => ?_⟩
  obtain ⟨b1, b2⟩ := a3 i v hi
  rw [Nat.zero_add] at b1
  exact ⟨hE.2.2 (i, v) b1, b2⟩
/-- what a method's body knows of its frame -/
def zz_C (X : zz_X) (M : zz_M) (d : Nat) (R : Room) (p : Program) (s : State) (m : MethodId) (args : Array Value) (meth : Method) (c : Code) : Prop :=
  p.tables.exec = Jvm.exec ∧ c.code = M.2.1 ∧ c.maxLocals = M.2.2.1 ∧ meth.sig.returnType = M.2.2.2 ∧ meth.locks = false ∧ s.vm.findClass M.1.cls = some m.cls ∧ meth.name = M.1.name ∧ (∀ w ∈ zz_ws, w.before args s = true) ∧ zz_K X s ∧ zz_b X ≤ s.heap.size ∧ d ≤ R.frames ∧ 39 * d ≤ R.locals
section ZC
variable {X : zz_X} {M : zz_M} {d : Nat} {R : Room} {p : Program} {s : State} {m : MethodId} {args : Array Value} {meth : Method} {c : Code}
theorem zz_C.x (C : zz_C X M d R p s m args meth c) : p.tables.exec = Jvm.exec := C.1
theorem zz_C.b (C : zz_C X M d R p s m args meth c) : c.code = M.2.1 := C.2.1
theorem zz_C.ml (C : zz_C X M d R p s m args meth c) : c.maxLocals = M.2.2.1 := C.2.2.1
theorem zz_C.r (C : zz_C X M d R p s m args meth c) : meth.sig.returnType = M.2.2.2 := C.2.2.2.1
theorem zz_C.lk (C : zz_C X M d R p s m args meth c) : meth.locks = false := C.2.2.2.2.1
theorem zz_C.ow (C : zz_C X M d R p s m args meth c) : s.vm.findClass M.1.cls = some m.cls := C.2.2.2.2.2.1
theorem zz_C.nm (C : zz_C X M d R p s m args meth c) : meth.name = M.1.name := C.2.2.2.2.2.2.1
theorem zz_C.ts (C : zz_C X M d R p s m args meth c) : ∀ w ∈ zz_ws, w.before args s = true := C.2.2.2.2.2.2.2.1
theorem zz_C.k (C : zz_C X M d R p s m args meth c) : zz_K X s := C.2.2.2.2.2.2.2.2.1
theorem zz_C.hb (C : zz_C X M d R p s m args meth c) : zz_b X ≤ s.heap.size := C.2.2.2.2.2.2.2.2.2.1
theorem zz_C.f (C : zz_C X M d R p s m args meth c) : d ≤ R.frames := C.2.2.2.2.2.2.2.2.2.2.1
theorem zz_C.w (C : zz_C X M d R p s m args meth c) : 39 * d ≤ R.locals := C.2.2.2.2.2.2.2.2.2.2.2
end ZC
/-- a return instruction at pc that may return r -/
def zz_rt (M : zz_M) (pc : Nat) (r : Option Value) : Prop :=
  (∃ (v : Int32) (ty : FieldType), r = some (.int v) ∧ M.2.2.2 = some ty ∧ narrow ty (.int v) = .int v ∧ decode M.2.1 pc = .ok (.ireturn, 1)) ∨
  (r = none ∧ M.2.2.2 = none ∧ decode M.2.1 pc = .ok (.return_, 1)) ∨
  (∃ (v : Value) (rt : FieldType), r = some v ∧ M.2.2.2 = some rt ∧ ((∃ nm, rt = .object nm) ∨ ∃ t, rt = .array t) ∧ (v = .null ∨ ∃ a, v = .ref a) ∧ decode M.2.1 pc = .ok (.areturn, 1))
def zz_R (X : zz_X) (M : zz_M) (R : Room) (Q : Option Value → Nat → zz_H → Prop) (p : Program) (e : Env) (s : State) (m : MethodId) (args : Array Value) (below : List Frame) (meth : Method) (c : Code) (Qf : State → Prop) : Prop :=
  ∀ (r : Option Value) (n : Nat) (h : zz_H) (H : Heap) (locs : List Loc) (cells slots pc : Nat) (A : Array Slot), Q r n h → zz_T X n h H → va_S (zz_A X) s.heap H locs → cells ≤ R.cells → slots ≤ R.slots → zz_rt M pc r →
    W p (zz_l X) e R s m args below meth c H locs cells slots Qf (F0 m pc A r.toList)
/-- from pc, with these locals, this stack and this heap, the method comes to its end, and Q holds of answer, heap size and heap -/
def zz_Z (X : zz_X) (M : zz_M) (d : Nat) (Q : Option Value → Nat → zz_H → Prop) (kc ks pc : Nat) (ls : List (Option Value)) (st : List Value) (n : Nat) (h : zz_H) : Prop :=
  ∀ (p : Program) (e : Env) (R : Room) (s : State) (m : MethodId) (args : Array Value) (below : List Frame) (meth : Method) (c : Code) (Qf : State → Prop) (H : Heap) (locs : List Loc) (cells slots : Nat) (A : Array Slot),
    zz_C X M d R p s m args meth c → zz_R X M R Q p e s m args below meth c Qf → zz_T X n h H → va_S (zz_A X) s.heap H locs → zz_L M.2.2.1 ls A → cells + kc ≤ R.cells → slots + ks ≤ R.slots →
    W p (zz_l X) e R s m args below meth c H locs cells slots Qf (F0 m pc A st)
def zz_Pc (X : zz_X) (av : List Value) (n : Nat) (h : zz_H) : Array Value → State → Prop := fun v U => v = av.toArray ∧ zz_K X U ∧ zz_T X n h U.heap
def zz_Qc (X : zz_X) (Q : Option Value → Nat → zz_H → Prop) : Array Value → State → Outcome → State → Prop := fun _ st o t => (∃ (r : Option Value) (n : Nat) (h : zz_H), o = .returned r ∧ Q r n h ∧ zz_T X n h t.heap) ∧ va_F (zz_A X) st t
/-- a method's contract: called with av, at heap h of size n, it makes at most mc cells of ms slots, and Q holds behind it -/
def zz_Ct (X : zz_X) (M : zz_M) (d mc ms : Nat) (av : List Value) (n : Nat) (h : zz_H) (Q : Option Value → Nat → zz_H → Prop) : Prop :=
  Met (zz_l X) M.1 (Cond.code M.1 M.2.1 M.2.2.1 M.2.2.2 :: zz_ws) { frames := d, cells := mc, slots := ms, locals := 39 * d } (zz_Pc X av n h) (zz_Qc X Q) mc ms (zz_A X)
theorem zz_start {X : zz_X} {M : zz_M} {d mc ms n : Nat} {av : List Value} {h : zz_H} {Q : Option Value → Nat → zz_H → Prop} {ls : List (Option Value)} (hy : plainName M.1.cls = true) (hl : zz_en av M.2.2.1 = some ls)
    (K : zz_Z X M d Q mc ms 0 ls [] n h) : zz_Ct X M d mc ms av n h Q := by
  refine Met.ofW (cc := M.2.1) (maxL := M.2.2.1) (ret := M.2.2.2) hy rfl ?_
  intro p e s m args below meth c s₁ B hml hv
  obtain ⟨rfl, hK, hT⟩ := hv
  have hts := atoms_spec (ws := (Cond.code M.1 M.2.1 M.2.2.1 M.2.2.2 :: zz_ws)) B.pre
  have hlocks := B.notSynchronized
  rw [lg_entry_eq]
  refine K p e _ s m _ below meth c _ s.heap [] 0 0 _ ⟨B.exec, B.bytes, hml, B.returns, hlocks, findClass_of_methodNamed B.named, (name_of_methodNamed B.named B.method).1, fun w hw => hts w (List.mem_cons_of_mem _ hw), hK, by rw [hT.1]; exact hT.2.1, Nat.le_refl _, Nat.le_refl _⟩ ?_ hT va_S.rf (zz_en_L hl) (by rw [Nat.zero_add]; exact Nat.le_refl _) (by rw [Nat.zero_add]; exact Nat.le_refl _)
  intro r n' h' H locs cells slots pc A hQ hT' hS hc hs hr
  refine W.widen (k := mc) (n := ms) hc hs ?_
  have hq : ∀ t : State, t.heap = H → s.WarmedH t.vm → zz_Qc X Q av.toArray s (.returned r) t := fun t ht hW => ⟨⟨r, n', h', rfl, hQ, by rw [ht]; exact hT'⟩, hS.F ht⟩
  rcases hr with ⟨v, ty, rfl, h1, h2, h3⟩ | ⟨rfl, h1, h3⟩ | ⟨v, rt, rfl, h1, h2, h4, h3⟩
  · exact W.zret B.exec B.bytes (B.returns.trans h1) h2 hq hS.2.2 h3 hlocks
  · exact W.vret B.exec B.bytes (B.returns.trans h1) hq hS.2.2 h3 hlocks
  · exact W.aret B.exec B.bytes (B.returns.trans h1) h2 h4 hq hS.2.2 h3 hlocks
/-- the postcondition may be weakened, the room too -/
theorem zz_Z.post {X : zz_X} {M : zz_M} {d kc ks pc n : Nat} {Q Q' : Option Value → Nat → zz_H → Prop} {ls : List (Option Value)} {st : List Value} {h : zz_H} (hQ : ∀ r n' h', Q r n' h' → Q' r n' h') (K : zz_Z X M d Q kc ks pc ls st n h) : zz_Z X M d Q' kc ks pc ls st n h :=
  fun p e R s m args below meth c Qf H locs cells slots A C Re T S L hc hs => K p e R s m args below meth c Qf H locs cells slots A C (fun r n' h' H' l' c' s' pc' A' q => Re r n' h' H' l' c' s' pc' A' (hQ _ _ _ q)) T S L hc hs
theorem zz_Z.less {X : zz_X} {M : zz_M} {d kc ks kc' ks' pc n : Nat} {Q : Option Value → Nat → zz_H → Prop} {ls : List (Option Value)} {st : List Value} {h : zz_H} (h1 : kc' ≤ kc) (h2 : ks' ≤ ks) (K : zz_Z X M d Q kc' ks' pc ls st n h) : zz_Z X M d Q kc ks pc ls st n h :=
  fun p e R s m args below meth c Qf H locs cells slots A C Re T S L hc hs => K p e R s m args below meth c Qf H locs cells slots A C Re T S L (by omega) (by omega)
/-- every cell that h names lies below n -/
theorem zz_Z.lt {X : zz_X} {M : zz_M} {d kc ks pc n : Nat} {Q : Option Value → Nat → zz_H → Prop} {ls : List (Option Value)} {st : List Value} {h : zz_H} (K : (∀ a e, h a = some e → a < n) → zz_Z X M d Q kc ks pc ls st n h) : zz_Z X M d Q kc ks pc ls st n h :=
  fun p e R s m args below meth c Qf H locs cells slots A C Re T S L hc hs => K (fun _ _ ha => T.lt ha) p e R s m args below meth c Qf H locs cells slots A C Re T S L hc hs
/-- an instruction at pc, its length, the next pc -/
def zz_d (M : zz_M) (pc : Nat) (i : Instr) (len q : Nat) : Prop := decode M.2.1 pc = .ok (i, len) ∧ q = pc + len
def zz_ir : Value → Bool
  | .ref _ => true
  | .null => true
  | _ => false
section ZV
variable {X : zz_X} {M : zz_M} {d kc ks pc q n : Nat} {Q : Option Value → Nat → zz_H → Prop} {ls ls' : List (Option Value)} {st : List Value} {h : zz_H}
theorem zi_iconst {z : Int} (hd : zz_d M pc (.iconst z) 1 q)  (k : zz_Z X M d Q kc ks q ls (.int (Int32.ofInt z) :: st) n h) : zz_Z X M d Q kc ks pc ls st n h := by
  obtain ⟨hd, rfl⟩ := hd
  intro p e R s m args below meth c Qf H locs cells slots A C Re T S L hc hs
  exact lv_iconst C.x C.b hd rfl (k p e R s m args below meth c Qf H locs cells slots A C Re T S L hc hs)
theorem zi_bipush {z : Int} {v : Int32} (hd : zz_d M pc (.bipush z) 2 q) (hv : (Int8.ofInt z).toInt32 = v) (k : zz_Z X M d Q kc ks q ls (.int v :: st) n h) : zz_Z X M d Q kc ks pc ls st n h := by
  obtain ⟨hd, rfl⟩ := hd
  intro p e R s m args below meth c Qf H locs cells slots A C Re T S L hc hs
  exact lv_bipush C.x C.b hd hv (k p e R s m args below meth c Qf H locs cells slots A C Re T S L hc hs)
theorem zi_sipush {z : Int} {v : Int32} (hd : zz_d M pc (.sipush z) 3 q) (hv : (Int16.ofInt z).toInt32 = v) (k : zz_Z X M d Q kc ks q ls (.int v :: st) n h) : zz_Z X M d Q kc ks pc ls st n h := by
  obtain ⟨hd, rfl⟩ := hd
  intro p e R s m args below meth c Qf H locs cells slots A C Re T S L hc hs
  exact lv_sipush C.x C.b hd hv (k p e R s m args below meth c Qf H locs cells slots A C Re T S L hc hs)
theorem zi_null  (hd : zz_d M pc .aconst_null 1 q)  (k : zz_Z X M d Q kc ks q ls (.null :: st) n h) : zz_Z X M d Q kc ks pc ls st n h := by
  obtain ⟨hd, rfl⟩ := hd
  intro p e R s m args below meth c Qf H locs cells slots A C Re T S L hc hs
  exact lv_null C.x C.b hd  (k p e R s m args below meth c Qf H locs cells slots A C Re T S L hc hs)
theorem zi_iload_n {i : Fin 4} {x : Int32} (hd : zz_d M pc (.iload_n i) 1 q) (hl : ls[(i : Nat)]? = some (some (.int x))) (k : zz_Z X M d Q kc ks q ls (.int x :: st) n h) : zz_Z X M d Q kc ks pc ls st n h := by
  obtain ⟨hd, rfl⟩ := hd
  intro p e R s m args below meth c Qf H locs cells slots A C Re T S L hc hs
  exact lv_iload_n C.x C.b hd rfl (L.2.2.2 _ _ hl).1 (k p e R s m args below meth c Qf H locs cells slots A C Re T S L hc hs)
theorem zi_iload {i : Nat} {x : Int32} (hd : zz_d M pc (.iload i) 2 q) (hl : ls[i]? = some (some (.int x))) (k : zz_Z X M d Q kc ks q ls (.int x :: st) n h) : zz_Z X M d Q kc ks pc ls st n h := by
  obtain ⟨hd, rfl⟩ := hd
  intro p e R s m args below meth c Qf H locs cells slots A C Re T S L hc hs
  exact lv_iload C.x C.b hd (L.2.2.2 _ _ hl).1 (k p e R s m args below meth c Qf H locs cells slots A C Re T S L hc hs)
theorem zi_aload_nR {i : Fin 4} {x : Nat} (hd : zz_d M pc (.aload_n i) 1 q) (hl : ls[(i : Nat)]? = some (some (.ref x))) (k : zz_Z X M d Q kc ks q ls (.ref x :: st) n h) : zz_Z X M d Q kc ks pc ls st n h := by
  obtain ⟨hd, rfl⟩ := hd
  intro p e R s m args below meth c Qf H locs cells slots A C Re T S L hc hs
  exact lv_aload_n C.x C.b hd rfl (L.2.2.2 _ _ hl).1 (k p e R s m args below meth c Qf H locs cells slots A C Re T S L hc hs)
theorem zi_aloadR {i : Nat} {x : Nat} (hd : zz_d M pc (.aload i) 2 q) (hl : ls[i]? = some (some (.ref x))) (k : zz_Z X M d Q kc ks q ls (.ref x :: st) n h) : zz_Z X M d Q kc ks pc ls st n h := by
  obtain ⟨hd, rfl⟩ := hd
  intro p e R s m args below meth c Qf H locs cells slots A C Re T S L hc hs
  exact lv_aload C.x C.b hd (L.2.2.2 _ _ hl).1 (k p e R s m args below meth c Qf H locs cells slots A C Re T S L hc hs)
theorem zi_aload_nN {i : Fin 4} (hd : zz_d M pc (.aload_n i) 1 q) (hl : ls[(i : Nat)]? = some (some .null)) (k : zz_Z X M d Q kc ks q ls (.null :: st) n h) : zz_Z X M d Q kc ks pc ls st n h := by
  obtain ⟨hd, rfl⟩ := hd
  intro p e R s m args below meth c Qf H locs cells slots A C Re T S L hc hs
  exact lv_aload_nN C.x C.b hd rfl (L.2.2.2 _ _ hl).1 (k p e R s m args below meth c Qf H locs cells slots A C Re T S L hc hs)
theorem zi_aloadN {i : Nat} (hd : zz_d M pc (.aload i) 2 q) (hl : ls[i]? = some (some .null)) (k : zz_Z X M d Q kc ks q ls (.null :: st) n h) : zz_Z X M d Q kc ks pc ls st n h := by
  obtain ⟨hd, rfl⟩ := hd
  intro p e R s m args below meth c Qf H locs cells slots A C Re T S L hc hs
  exact lv_aloadN C.x C.b hd (L.2.2.2 _ _ hl).1 (k p e R s m args below meth c Qf H locs cells slots A C Re T S L hc hs)
theorem zi_aload_n {i : Fin 4} {v : Value} (hd : zz_d M pc (.aload_n i) 1 q) (hl : ls[(i : Nat)]? = some (some v)) (hv : zz_ir v = true) (k : zz_Z X M d Q kc ks q ls (v :: st) n h) : zz_Z X M d Q kc ks pc ls st n h := by
  cases v with
  | ref a => exact zi_aload_nR hd hl k
  | null => exact zi_aload_nN hd hl k
  | int _ => cases hv
  | long _ => cases hv
  | float _ => cases hv
  | double _ => cases hv
  | retAddr _ => cases hv
theorem zi_aload {i : Nat} {v : Value} (hd : zz_d M pc (.aload i) 2 q) (hl : ls[i]? = some (some v)) (hv : zz_ir v = true) (k : zz_Z X M d Q kc ks q ls (v :: st) n h) : zz_Z X M d Q kc ks pc ls st n h := by
  cases v with
  | ref a => exact zi_aloadR hd hl k
  | null => exact zi_aloadN hd hl k
  | int _ => cases hv
  | long _ => cases hv
  | float _ => cases hv
  | double _ => cases hv
  | retAddr _ => cases hv
theorem zi_istore_n {i : Fin 4} {x : Int32} (hd : zz_d M pc (.istore_n i) 1 q) (hl : zz_set ls (i : Nat) (some (.int x)) = some ls') (k : zz_Z X M d Q kc ks q ls' st n h) : zz_Z X M d Q kc ks pc ls ((.int x) :: st) n h := by
  obtain ⟨hd, rfl⟩ := hd
  intro p e R s m args below meth c Qf H locs cells slots A C Re T S L hc hs
  exact lv_istore_n C.x C.b hd rfl L.has (L.hi hl) rfl fun A' hA => k p e R s m args below meth c Qf H locs cells slots A' C Re T S (L.store hl rfl hA) hc hs
theorem zi_istore {i : Nat} {x : Int32} (hd : zz_d M pc (.istore i) 2 q) (hl : zz_set ls i (some (.int x)) = some ls') (k : zz_Z X M d Q kc ks q ls' st n h) : zz_Z X M d Q kc ks pc ls ((.int x) :: st) n h := by
  obtain ⟨hd, rfl⟩ := hd
  intro p e R s m args below meth c Qf H locs cells slots A C Re T S L hc hs
  exact lv_istore C.x C.b hd  L.has (L.hi hl) rfl fun A' hA => k p e R s m args below meth c Qf H locs cells slots A' C Re T S (L.store hl rfl hA) hc hs
theorem zi_astore_nR {i : Fin 4} {x : Nat} (hd : zz_d M pc (.astore_n i) 1 q) (hl : zz_set ls (i : Nat) (some (.ref x)) = some ls') (k : zz_Z X M d Q kc ks q ls' st n h) : zz_Z X M d Q kc ks pc ls ((.ref x) :: st) n h := by
  obtain ⟨hd, rfl⟩ := hd
  intro p e R s m args below meth c Qf H locs cells slots A C Re T S L hc hs
  exact lv_astore_n C.x C.b hd rfl L.has (L.hi hl) rfl fun A' hA => k p e R s m args below meth c Qf H locs cells slots A' C Re T S (L.store hl rfl hA) hc hs
theorem zi_astoreR {i : Nat} {x : Nat} (hd : zz_d M pc (.astore i) 2 q) (hl : zz_set ls i (some (.ref x)) = some ls') (k : zz_Z X M d Q kc ks q ls' st n h) : zz_Z X M d Q kc ks pc ls ((.ref x) :: st) n h := by
  obtain ⟨hd, rfl⟩ := hd
  intro p e R s m args below meth c Qf H locs cells slots A C Re T S L hc hs
  exact lv_astore C.x C.b hd  L.has (L.hi hl) rfl fun A' hA => k p e R s m args below meth c Qf H locs cells slots A' C Re T S (L.store hl rfl hA) hc hs
theorem zi_astore_nN {i : Fin 4} (hd : zz_d M pc (.astore_n i) 1 q) (hl : zz_set ls (i : Nat) (some .null) = some ls') (k : zz_Z X M d Q kc ks q ls' st n h) : zz_Z X M d Q kc ks pc ls (.null :: st) n h := by
  obtain ⟨hd, rfl⟩ := hd
  intro p e R s m args below meth c Qf H locs cells slots A C Re T S L hc hs
  exact lv_astore_nN C.x C.b hd rfl L.has (L.hi hl) rfl fun A' hA => k p e R s m args below meth c Qf H locs cells slots A' C Re T S (L.store hl rfl hA) hc hs
theorem zi_astoreN {i : Nat} (hd : zz_d M pc (.astore i) 2 q) (hl : zz_set ls i (some .null) = some ls') (k : zz_Z X M d Q kc ks q ls' st n h) : zz_Z X M d Q kc ks pc ls (.null :: st) n h := by
  obtain ⟨hd, rfl⟩ := hd
  intro p e R s m args below meth c Qf H locs cells slots A C Re T S L hc hs
  exact lv_astoreN C.x C.b hd  L.has (L.hi hl) rfl fun A' hA => k p e R s m args below meth c Qf H locs cells slots A' C Re T S (L.store hl rfl hA) hc hs
theorem zi_astore_n {i : Fin 4} {v : Value} (hd : zz_d M pc (.astore_n i) 1 q) (hv : zz_ir v = true) (hl : zz_set ls (i : Nat) (some v) = some ls') (k : zz_Z X M d Q kc ks q ls' st n h) : zz_Z X M d Q kc ks pc ls (v :: st) n h := by
  cases v with
  | ref a => exact zi_astore_nR hd hl k
  | null => exact zi_astore_nN hd hl k
  | int _ => cases hv
  | long _ => cases hv
  | float _ => cases hv
  | double _ => cases hv
  | retAddr _ => cases hv
theorem zi_astore {i : Nat} {v : Value} (hd : zz_d M pc (.astore i) 2 q) (hv : zz_ir v = true) (hl : zz_set ls i (some v) = some ls') (k : zz_Z X M d Q kc ks q ls' st n h) : zz_Z X M d Q kc ks pc ls (v :: st) n h := by
  cases v with
  | ref a => exact zi_astoreR hd hl k
  | null => exact zi_astoreN hd hl k
  | int _ => cases hv
  | long _ => cases hv
  | float _ => cases hv
  | double _ => cases hv
  | retAddr _ => cases hv
theorem zi_iinc {i : Nat} {z : Int} {x : Int32} (hd : zz_d M pc (.iinc i z) 3 q) (hx : ls[i]? = some (some (.int x))) (hl : zz_set ls i (some (.int (x + Int32.ofInt z))) = some ls') (k : zz_Z X M d Q kc ks q ls' st n h) : zz_Z X M d Q kc ks pc ls st n h := by
  obtain ⟨hd, rfl⟩ := hd
  intro p e R s m args below meth c Qf H locs cells slots A C Re T S L hc hs
  have h1 := zz_pr_in ls 0 i _ hx
  rw [Nat.zero_add] at h1
  obtain ⟨j, hj⟩ := List.getElem?_of_mem h1
  exact lv_iinc C.x C.b hd L.has hj rfl (L.hi hl) rfl fun A' hA => k p e R s m args below meth c Qf H locs cells slots A' C Re T S (L.store hl rfl hA) hc hs
theorem zi_iadd {x y : Int32} (hd : zz_d M pc .iadd 1 q)  (k : zz_Z X M d Q kc ks q ls (.int (x + y) :: st) n h) : zz_Z X M d Q kc ks pc ls (.int y :: .int x :: st) n h := by
  obtain ⟨hd, rfl⟩ := hd
  intro p e R s m args below meth c Qf H locs cells slots A C Re T S L hc hs
  exact lv_iadd C.x C.b hd  (k p e R s m args below meth c Qf H locs cells slots A C Re T S L hc hs)
theorem zi_isub {x y : Int32} (hd : zz_d M pc .isub 1 q)  (k : zz_Z X M d Q kc ks q ls (.int (x - y) :: st) n h) : zz_Z X M d Q kc ks pc ls (.int y :: .int x :: st) n h := by
  obtain ⟨hd, rfl⟩ := hd
  intro p e R s m args below meth c Qf H locs cells slots A C Re T S L hc hs
  exact lv_isub C.x C.b hd  (k p e R s m args below meth c Qf H locs cells slots A C Re T S L hc hs)
theorem zi_imul {x y : Int32} (hd : zz_d M pc .imul 1 q)  (k : zz_Z X M d Q kc ks q ls (.int (x * y) :: st) n h) : zz_Z X M d Q kc ks pc ls (.int y :: .int x :: st) n h := by
  obtain ⟨hd, rfl⟩ := hd
  intro p e R s m args below meth c Qf H locs cells slots A C Re T S L hc hs
  exact lv_imul C.x C.b hd  (k p e R s m args below meth c Qf H locs cells slots A C Re T S L hc hs)
theorem zi_iand {x y : Int32} (hd : zz_d M pc .iand 1 q)  (k : zz_Z X M d Q kc ks q ls (.int (x &&& y) :: st) n h) : zz_Z X M d Q kc ks pc ls (.int y :: .int x :: st) n h := by
  obtain ⟨hd, rfl⟩ := hd
  intro p e R s m args below meth c Qf H locs cells slots A C Re T S L hc hs
  exact lv_iand C.x C.b hd  (k p e R s m args below meth c Qf H locs cells slots A C Re T S L hc hs)
theorem zi_ior {x y : Int32} (hd : zz_d M pc .ior 1 q)  (k : zz_Z X M d Q kc ks q ls (.int (x ||| y) :: st) n h) : zz_Z X M d Q kc ks pc ls (.int y :: .int x :: st) n h := by
  obtain ⟨hd, rfl⟩ := hd
  intro p e R s m args below meth c Qf H locs cells slots A C Re T S L hc hs
  exact lv_ior C.x C.b hd  (k p e R s m args below meth c Qf H locs cells slots A C Re T S L hc hs)
theorem zi_ixor {x y : Int32} (hd : zz_d M pc .ixor 1 q)  (k : zz_Z X M d Q kc ks q ls (.int (x ^^^ y) :: st) n h) : zz_Z X M d Q kc ks pc ls (.int y :: .int x :: st) n h := by
  obtain ⟨hd, rfl⟩ := hd
  intro p e R s m args below meth c Qf H locs cells slots A C Re T S L hc hs
  exact lv_ixor C.x C.b hd  (k p e R s m args below meth c Qf H locs cells slots A C Re T S L hc hs)
theorem zi_ishl {x y : Int32} (hd : zz_d M pc .ishl 1 q)  (k : zz_Z X M d Q kc ks q ls (.int (x <<< (y &&& 31)) :: st) n h) : zz_Z X M d Q kc ks pc ls (.int y :: .int x :: st) n h := by
  obtain ⟨hd, rfl⟩ := hd
  intro p e R s m args below meth c Qf H locs cells slots A C Re T S L hc hs
  exact lv_ishl C.x C.b hd  (k p e R s m args below meth c Qf H locs cells slots A C Re T S L hc hs)
theorem zi_ishr {x y : Int32} (hd : zz_d M pc .ishr 1 q)  (k : zz_Z X M d Q kc ks q ls (.int (x >>> (y &&& 31)) :: st) n h) : zz_Z X M d Q kc ks pc ls (.int y :: .int x :: st) n h := by
  obtain ⟨hd, rfl⟩ := hd
  intro p e R s m args below meth c Qf H locs cells slots A C Re T S L hc hs
  exact lv_ishr C.x C.b hd  (k p e R s m args below meth c Qf H locs cells slots A C Re T S L hc hs)
theorem zi_idiv {x y : Int32} (hd : zz_d M pc .idiv 1 q) (hy : ¬ y = 0) (k : zz_Z X M d Q kc ks q ls (.int (x / y) :: st) n h) : zz_Z X M d Q kc ks pc ls (.int y :: .int x :: st) n h := by
  obtain ⟨hd, rfl⟩ := hd
  intro p e R s m args below meth c Qf H locs cells slots A C Re T S L hc hs
  exact lv_idiv C.x C.b hd hy (k p e R s m args below meth c Qf H locs cells slots A C Re T S L hc hs)
theorem zi_iushr {x y : Int32} (hd : zz_d M pc .iushr 1 q)  (k : zz_Z X M d Q kc ks q ls (.int ((x.toUInt32 >>> (y.toUInt32 &&& Int32.toUInt32 31)).toInt32) :: st) n h) : zz_Z X M d Q kc ks pc ls (.int y :: .int x :: st) n h := by
  obtain ⟨hd, rfl⟩ := hd
  intro p e R s m args below meth c Qf H locs cells slots A C Re T S L hc hs
  exact lv_iushr C.x C.b hd rfl (k p e R s m args below meth c Qf H locs cells slots A C Re T S L hc hs)
theorem zi_i2c {x : Int32} (hd : zz_d M pc .i2c 1 q)  (k : zz_Z X M d Q kc ks q ls (.int ((x.toUInt32 % 65536).toInt32) :: st) n h) : zz_Z X M d Q kc ks pc ls (.int x :: st) n h := by
  obtain ⟨hd, rfl⟩ := hd
  intro p e R s m args below meth c Qf H locs cells slots A C Re T S L hc hs
  exact lv_i2c C.x C.b hd rfl (k p e R s m args below meth c Qf H locs cells slots A C Re T S L hc hs)
theorem zi_dup {v : Value} (hd : zz_d M pc .dup 1 q) (hv : v.category = 1) (k : zz_Z X M d Q kc ks q ls (v :: v :: st) n h) : zz_Z X M d Q kc ks pc ls (v :: st) n h := by
  obtain ⟨hd, rfl⟩ := hd
  intro p e R s m args below meth c Qf H locs cells slots A C Re T S L hc hs
  exact lv_dup C.x C.b hd hv (k p e R s m args below meth c Qf H locs cells slots A C Re T S L hc hs)
theorem zi_pop {v : Value} (hd : zz_d M pc .pop 1 q) (hv : v.category = 1) (k : zz_Z X M d Q kc ks q ls st n h) : zz_Z X M d Q kc ks pc ls (v :: st) n h := by
  obtain ⟨hd, rfl⟩ := hd
  intro p e R s m args below meth c Qf H locs cells slots A C Re T S L hc hs
  exact lv_pop C.x C.b hd hv (k p e R s m args below meth c Qf H locs cells slots A C Re T S L hc hs)
theorem zi_dup_x1 {v w : Value} (hd : zz_d M pc .dup_x1 1 q) (hv : v.category = 1) (hw : w.category = 1) (k : zz_Z X M d Q kc ks q ls (v :: w :: v :: st) n h) : zz_Z X M d Q kc ks pc ls (v :: w :: st) n h := by
  obtain ⟨hd, rfl⟩ := hd
  intro p e R s m args below meth c Qf H locs cells slots A C Re T S L hc hs
  exact lv_dup_x1 C.x C.b hd hv hw (k p e R s m args below meth c Qf H locs cells slots A C Re T S L hc hs)
theorem zi_dup_x2 {v w u : Value} (hd : zz_d M pc .dup_x2 1 q) (hv : v.category = 1) (hw : w.category = 1) (hu : u.category = 1) (k : zz_Z X M d Q kc ks q ls (v :: w :: u :: v :: st) n h) : zz_Z X M d Q kc ks pc ls (v :: w :: u :: st) n h := by
  obtain ⟨hd, rfl⟩ := hd
  intro p e R s m args below meth c Qf H locs cells slots A C Re T S L hc hs
  exact lv_dup_x2 C.x C.b hd hv hw hu (k p e R s m args below meth c Qf H locs cells slots A C Re T S L hc hs)
theorem zi_dup2 {v w : Value} (hd : zz_d M pc .dup2 1 q) (hv : v.category = 1) (hw : w.category = 1) (k : zz_Z X M d Q kc ks q ls (v :: w :: v :: w :: st) n h) : zz_Z X M d Q kc ks pc ls (v :: w :: st) n h := by
  obtain ⟨hd, rfl⟩ := hd
  intro p e R s m args below meth c Qf H locs cells slots A C Re T S L hc hs
  exact lv_dup2_11 C.x C.b hd hv hw (k p e R s m args below meth c Qf H locs cells slots A C Re T S L hc hs)
theorem zi_goto {off : Int} {t : Nat} (hd : zz_d M pc (.goto off) 3 q) (ht : (pc : Int) + off = (t : Int)) (k : zz_Z X M d Q kc ks t ls st n h) : zz_Z X M d Q kc ks pc ls st n h := by
  obtain ⟨hd, rfl⟩ := hd
  intro p e R s m args below meth c Qf H locs cells slots A C Re T S L hc hs
  exact lv_goto C.x C.b hd ht (k p e R s m args below meth c Qf H locs cells slots A C Re T S L hc hs)
theorem zi_if_eq {x : Int32} {off : Int} {t : Nat} (hd : zz_d M pc (.ifCond .eq off) 3 q) (ht : (pc : Int) + off = (t : Int)) (kt : x = 0 → zz_Z X M d Q kc ks t ls st n h) (kf : ¬ x = 0 → zz_Z X M d Q kc ks q ls st n h) : zz_Z X M d Q kc ks pc ls (.int x :: st) n h := by
  obtain ⟨hd, rfl⟩ := hd
  intro p e R s m args below meth c Qf H locs cells slots A C Re T S L hc hs
  exact lv_if_eq C.x C.b hd ht (fun hx => kt hx p e R s m args below meth c Qf H locs cells slots A C Re T S L hc hs) (fun hx => kf hx p e R s m args below meth c Qf H locs cells slots A C Re T S L hc hs)
theorem zi_if_ne {x : Int32} {off : Int} {t : Nat} (hd : zz_d M pc (.ifCond .ne off) 3 q) (ht : (pc : Int) + off = (t : Int)) (kt : ¬ x = 0 → zz_Z X M d Q kc ks t ls st n h) (kf : x = 0 → zz_Z X M d Q kc ks q ls st n h) : zz_Z X M d Q kc ks pc ls (.int x :: st) n h := by
  obtain ⟨hd, rfl⟩ := hd
  intro p e R s m args below meth c Qf H locs cells slots A C Re T S L hc hs
  exact lv_if_ne C.x C.b hd ht (fun hx => kt hx p e R s m args below meth c Qf H locs cells slots A C Re T S L hc hs) (fun hx => kf hx p e R s m args below meth c Qf H locs cells slots A C Re T S L hc hs)
theorem zi_if_lt {x : Int32} {off : Int} {t : Nat} (hd : zz_d M pc (.ifCond .lt off) 3 q) (ht : (pc : Int) + off = (t : Int)) (kt : x < 0 → zz_Z X M d Q kc ks t ls st n h) (kf : ¬ x < 0 → zz_Z X M d Q kc ks q ls st n h) : zz_Z X M d Q kc ks pc ls (.int x :: st) n h := by
  obtain ⟨hd, rfl⟩ := hd
  intro p e R s m args below meth c Qf H locs cells slots A C Re T S L hc hs
  exact lv_if_lt C.x C.b hd ht (fun hx => kt hx p e R s m args below meth c Qf H locs cells slots A C Re T S L hc hs) (fun hx => kf hx p e R s m args below meth c Qf H locs cells slots A C Re T S L hc hs)
theorem zi_if_ge {x : Int32} {off : Int} {t : Nat} (hd : zz_d M pc (.ifCond .ge off) 3 q) (ht : (pc : Int) + off = (t : Int)) (kt : 0 ≤ x → zz_Z X M d Q kc ks t ls st n h) (kf : ¬ 0 ≤ x → zz_Z X M d Q kc ks q ls st n h) : zz_Z X M d Q kc ks pc ls (.int x :: st) n h := by
  obtain ⟨hd, rfl⟩ := hd
  intro p e R s m args below meth c Qf H locs cells slots A C Re T S L hc hs
  exact lv_if_ge C.x C.b hd ht (fun hx => kt hx p e R s m args below meth c Qf H locs cells slots A C Re T S L hc hs) (fun hx => kf hx p e R s m args below meth c Qf H locs cells slots A C Re T S L hc hs)
theorem zi_if_gt {x : Int32} {off : Int} {t : Nat} (hd : zz_d M pc (.ifCond .gt off) 3 q) (ht : (pc : Int) + off = (t : Int)) (kt : 0 < x → zz_Z X M d Q kc ks t ls st n h) (kf : ¬ 0 < x → zz_Z X M d Q kc ks q ls st n h) : zz_Z X M d Q kc ks pc ls (.int x :: st) n h := by
  obtain ⟨hd, rfl⟩ := hd
  intro p e R s m args below meth c Qf H locs cells slots A C Re T S L hc hs
  exact lv_if_gt C.x C.b hd ht (fun hx => kt hx p e R s m args below meth c Qf H locs cells slots A C Re T S L hc hs) (fun hx => kf hx p e R s m args below meth c Qf H locs cells slots A C Re T S L hc hs)
theorem zi_if_le {x : Int32} {off : Int} {t : Nat} (hd : zz_d M pc (.ifCond .le off) 3 q) (ht : (pc : Int) + off = (t : Int)) (kt : x ≤ 0 → zz_Z X M d Q kc ks t ls st n h) (kf : ¬ x ≤ 0 → zz_Z X M d Q kc ks q ls st n h) : zz_Z X M d Q kc ks pc ls (.int x :: st) n h := by
  obtain ⟨hd, rfl⟩ := hd
  intro p e R s m args below meth c Qf H locs cells slots A C Re T S L hc hs
  exact lv_if_le C.x C.b hd ht (fun hx => kt hx p e R s m args below meth c Qf H locs cells slots A C Re T S L hc hs) (fun hx => kf hx p e R s m args below meth c Qf H locs cells slots A C Re T S L hc hs)
theorem zi_icmp_eq {x y : Int32} {off : Int} {t : Nat} (hd : zz_d M pc (.if_icmp .eq off) 3 q) (ht : (pc : Int) + off = (t : Int)) (kt : x = y → zz_Z X M d Q kc ks t ls st n h) (kf : ¬ x = y → zz_Z X M d Q kc ks q ls st n h) : zz_Z X M d Q kc ks pc ls (.int y :: .int x :: st) n h := by
  obtain ⟨hd, rfl⟩ := hd
  intro p e R s m args below meth c Qf H locs cells slots A C Re T S L hc hs
  exact lv_icmp_eq C.x C.b hd ht (fun hx => kt hx p e R s m args below meth c Qf H locs cells slots A C Re T S L hc hs) (fun hx => kf hx p e R s m args below meth c Qf H locs cells slots A C Re T S L hc hs)
theorem zi_icmp_ne {x y : Int32} {off : Int} {t : Nat} (hd : zz_d M pc (.if_icmp .ne off) 3 q) (ht : (pc : Int) + off = (t : Int)) (kt : ¬ x = y → zz_Z X M d Q kc ks t ls st n h) (kf : x = y → zz_Z X M d Q kc ks q ls st n h) : zz_Z X M d Q kc ks pc ls (.int y :: .int x :: st) n h := by
  obtain ⟨hd, rfl⟩ := hd
  intro p e R s m args below meth c Qf H locs cells slots A C Re T S L hc hs
  exact lv_icmp_ne C.x C.b hd ht (fun hx => kt hx p e R s m args below meth c Qf H locs cells slots A C Re T S L hc hs) (fun hx => kf hx p e R s m args below meth c Qf H locs cells slots A C Re T S L hc hs)
theorem zi_icmp_lt {x y : Int32} {off : Int} {t : Nat} (hd : zz_d M pc (.if_icmp .lt off) 3 q) (ht : (pc : Int) + off = (t : Int)) (kt : x < y → zz_Z X M d Q kc ks t ls st n h) (kf : ¬ x < y → zz_Z X M d Q kc ks q ls st n h) : zz_Z X M d Q kc ks pc ls (.int y :: .int x :: st) n h := by
  obtain ⟨hd, rfl⟩ := hd
  intro p e R s m args below meth c Qf H locs cells slots A C Re T S L hc hs
  exact lv_icmp_lt C.x C.b hd ht (fun hx => kt hx p e R s m args below meth c Qf H locs cells slots A C Re T S L hc hs) (fun hx => kf hx p e R s m args below meth c Qf H locs cells slots A C Re T S L hc hs)
theorem zi_icmp_ge {x y : Int32} {off : Int} {t : Nat} (hd : zz_d M pc (.if_icmp .ge off) 3 q) (ht : (pc : Int) + off = (t : Int)) (kt : y ≤ x → zz_Z X M d Q kc ks t ls st n h) (kf : ¬ y ≤ x → zz_Z X M d Q kc ks q ls st n h) : zz_Z X M d Q kc ks pc ls (.int y :: .int x :: st) n h := by
  obtain ⟨hd, rfl⟩ := hd
  intro p e R s m args below meth c Qf H locs cells slots A C Re T S L hc hs
  exact lv_icmp_ge C.x C.b hd ht (fun hx => kt hx p e R s m args below meth c Qf H locs cells slots A C Re T S L hc hs) (fun hx => kf hx p e R s m args below meth c Qf H locs cells slots A C Re T S L hc hs)
theorem zi_icmp_gt {x y : Int32} {off : Int} {t : Nat} (hd : zz_d M pc (.if_icmp .gt off) 3 q) (ht : (pc : Int) + off = (t : Int)) (kt : y < x → zz_Z X M d Q kc ks t ls st n h) (kf : ¬ y < x → zz_Z X M d Q kc ks q ls st n h) : zz_Z X M d Q kc ks pc ls (.int y :: .int x :: st) n h := by
  obtain ⟨hd, rfl⟩ := hd
  intro p e R s m args below meth c Qf H locs cells slots A C Re T S L hc hs
  exact lv_icmp_gt C.x C.b hd ht (fun hx => kt hx p e R s m args below meth c Qf H locs cells slots A C Re T S L hc hs) (fun hx => kf hx p e R s m args below meth c Qf H locs cells slots A C Re T S L hc hs)
theorem zi_icmp_le {x y : Int32} {off : Int} {t : Nat} (hd : zz_d M pc (.if_icmp .le off) 3 q) (ht : (pc : Int) + off = (t : Int)) (kt : x ≤ y → zz_Z X M d Q kc ks t ls st n h) (kf : ¬ x ≤ y → zz_Z X M d Q kc ks q ls st n h) : zz_Z X M d Q kc ks pc ls (.int y :: .int x :: st) n h := by
  obtain ⟨hd, rfl⟩ := hd
  intro p e R s m args below meth c Qf H locs cells slots A C Re T S L hc hs
  exact lv_icmp_le C.x C.b hd ht (fun hx => kt hx p e R s m args below meth c Qf H locs cells slots A C Re T S L hc hs) (fun hx => kf hx p e R s m args below meth c Qf H locs cells slots A C Re T S L hc hs)
theorem zi_acmp_eq {rx ry : Option Nat} {off : Int} {t : Nat} (hd : zz_d M pc (.if_acmp .eq off) 3 q) (ht : (pc : Int) + off = (t : Int)) (kt : rx = ry → zz_Z X M d Q kc ks t ls st n h) (kf : ¬ rx = ry → zz_Z X M d Q kc ks q ls st n h) : zz_Z X M d Q kc ks pc ls (va_rf ry :: va_rf rx :: st) n h := by
  obtain ⟨hd, rfl⟩ := hd
  intro p e R s m args below meth c Qf H locs cells slots A C Re T S L hc hs
  exact lv_acmp_eq C.x C.b hd ht (fun hx => kt hx p e R s m args below meth c Qf H locs cells slots A C Re T S L hc hs) (fun hx => kf hx p e R s m args below meth c Qf H locs cells slots A C Re T S L hc hs)
theorem zi_acmp_ne {rx ry : Option Nat} {off : Int} {t : Nat} (hd : zz_d M pc (.if_acmp .ne off) 3 q) (ht : (pc : Int) + off = (t : Int)) (kt : ¬ rx = ry → zz_Z X M d Q kc ks t ls st n h) (kf : rx = ry → zz_Z X M d Q kc ks q ls st n h) : zz_Z X M d Q kc ks pc ls (va_rf ry :: va_rf rx :: st) n h := by
  obtain ⟨hd, rfl⟩ := hd
  intro p e R s m args below meth c Qf H locs cells slots A C Re T S L hc hs
  exact lv_acmp_ne C.x C.b hd ht (fun hx => kt hx p e R s m args below meth c Qf H locs cells slots A C Re T S L hc hs) (fun hx => kf hx p e R s m args below meth c Qf H locs cells slots A C Re T S L hc hs)
theorem zi_ifnonnullR {a : Nat} {off : Int} {t : Nat} (hd : zz_d M pc (.ifnonnull off) 3 q) (ht : (pc : Int) + off = (t : Int)) (k : zz_Z X M d Q kc ks t ls st n h) : zz_Z X M d Q kc ks pc ls (.ref a :: st) n h := by
  obtain ⟨hd, rfl⟩ := hd
  intro p e R s m args below meth c Qf H locs cells slots A C Re T S L hc hs
  exact lv_ifnonnull C.x C.b hd ht (k p e R s m args below meth c Qf H locs cells slots A C Re T S L hc hs)
theorem zi_ifnullR {a : Nat} {off : Int} {t : Nat} (hd : zz_d M pc (.ifnull off) 3 q) (ht : (pc : Int) + off = (t : Int)) (k : zz_Z X M d Q kc ks q ls st n h) : zz_Z X M d Q kc ks pc ls (.ref a :: st) n h := by
  obtain ⟨hd, rfl⟩ := hd
  intro p e R s m args below meth c Qf H locs cells slots A C Re T S L hc hs
  exact lv_ifnull C.x C.b hd  (k p e R s m args below meth c Qf H locs cells slots A C Re T S L hc hs)
theorem zi_ifnullN {off : Int} {t : Nat} (hd : zz_d M pc (.ifnull off) 3 q) (ht : (pc : Int) + off = (t : Int)) (k : zz_Z X M d Q kc ks t ls st n h) : zz_Z X M d Q kc ks pc ls (.null :: st) n h := by
  obtain ⟨hd, rfl⟩ := hd
  intro p e R s m args below meth c Qf H locs cells slots A C Re T S L hc hs
  exact lv_ifnullN C.x C.b hd ht (k p e R s m args below meth c Qf H locs cells slots A C Re T S L hc hs)
theorem zi_ifnonnullN {off : Int} {t : Nat} (hd : zz_d M pc (.ifnonnull off) 3 q) (ht : (pc : Int) + off = (t : Int)) (k : zz_Z X M d Q kc ks q ls st n h) : zz_Z X M d Q kc ks pc ls (.null :: st) n h := by
  obtain ⟨hd, rfl⟩ := hd
  intro p e R s m args below meth c Qf H locs cells slots A C Re T S L hc hs
  exact lv_ifnonnullN C.x C.b hd  (k p e R s m args below meth c Qf H locs cells slots A C Re T S L hc hs)
theorem zz_one {D : va_G} {cl : List vw_C} {x : Nat × va_E} {H : Heap} (hx : va_at D cl x H) : va_P D cl [x] H := by
  intro k y hy
  have hk : k < 1 := (List.getElem?_eq_some_iff.mp hy).1
  obtain rfl : k = 0 := by omega
  cases hy
  exact hx
/-- the field at pool place ix: of the class with number ci, its k-th -/
def zz_fl (own : String) (ix ci k : Nat) : Prop := ∃ (Cn : String) (F : u_T) (N : Nat) (ref : String), zz_cl[ci]? = some (Cn, F, N) ∧ k < N ∧ Cond.fieldLink own ix ref (F k).2.1 (F k).2.2.1 ∈ zz_ws ∧ (ref = (F k).1 ∨ Cond.sameField ref (F k).1 (F k).2.1 (F k).2.2.1 ∈ zz_ws)
theorem zz_same {s : State} {args : Array Value} (hts : ∀ w ∈ zz_ws, w.before args s = true) {ref O nm ds : String} (hr : ref = O ∨ Cond.sameField ref O nm ds ∈ zz_ws) (x : ClassId × Class × Nat × Field) (hx : s.fieldFound? O nm ds = some x) : s.fieldFound? ref nm ds = some x := by
  rcases hr with rfl | hr
  · exact hx
  · exact u_same (hts _ hr) x hx
theorem zi_getf {ix ci k a : Nat} {fs : List Value} {v : Value} (hd : zz_d M pc (.getfield ix) 3 q) (hf : zz_fl M.1.cls ix ci k) (ha : h a = some (.inr (ci, fs))) (hv : fs[k]? = some v) (kk : zz_Z X M d Q kc ks q ls (v :: st) n h) : zz_Z X M d Q kc ks pc ls (.ref a :: st) n h := by
  obtain ⟨hd, rfl⟩ := hd
  obtain ⟨Cn, F, N, ref, hcl, hk, hl, hsm⟩ := hf
  intro p e R s m args below meth c Qf H locs cells slots A C Re T S L hc hs
  have hP : va_P (zz_D X) zz_cl [(a, .inr (ci, fs))] H := zz_one (T.2.2 a _ ha).1
  exact va_get C.x C.b C.ts (zz_clok hcl).1 C.ow C.k.1 hP 0 rfl hcl k hk (C.ts _ hl) (fun x hx => zz_same C.ts hsm x hx) hv hd (kk p e R s m args below meth c Qf H locs cells slots A C Re T S L hc hs)
/-- a field that may be written there -/
def zz_fp (M : zz_M) (ix ci k : Nat) (ty : FieldType) : Prop := ∃ (Cn : String) (F : u_T) (N : Nat) (ref : String), zz_cl[ci]? = some (Cn, F, N) ∧ k < N ∧ Cond.fieldLink M.1.cls ix ref (F k).2.1 (F k).2.2.1 ∈ zz_ws ∧ (ref = (F k).1 ∨ Cond.sameField ref (F k).1 (F k).2.1 (F k).2.2.1 ∈ zz_ws) ∧
  parseFieldDescriptor (F k).2.2.1 = some ty ∧ ((F k).2.2.2 = false ∨ ((F k).2.2.2 = true ∧ M.1.name = "<init>" ∧ (F k).1 = M.1.cls))
theorem zz_wr {e : va_E} {a : Nat} (hx : (∃ x, e = .inl (4, x)) ∨ zz_b X ≤ a) (hne : ∀ x, e ≠ .inl (4, x)) : zz_b X ≤ a := by
  rcases hx with ⟨x, hx⟩ | hx
  · exact absurd hx (hne x)
  · exact hx
theorem zi_putf {ix ci k a : Nat} {ty : FieldType} {fs fs' : List Value} {v : Value} (hd : zz_d M pc (.putfield ix) 3 q) (hf : zz_fp M ix ci k ty) (ha : h a = some (.inr (ci, fs))) (hn : narrow ty v = v) (hfit : fits ty v = true) (hset : zz_set fs k v = some fs')
    (kk : zz_Z X M d Q kc ks q ls st n (zz_up h a (.inr (ci, fs')))) : zz_Z X M d Q kc ks pc ls (v :: .ref a :: st) n h := by
  obtain ⟨hd, rfl⟩ := hd
  obtain ⟨Cn, F, N, ref, hcl, hk, hl, hsm, hty, hfin⟩ := hf
  obtain ⟨hlen, rfl⟩ := zz_set_spec hset
  intro p e R s m args below meth c Qf H locs cells slots A C Re T S L hc hs
  obtain ⟨hin, hty0, hnm⟩ := zz_clok hcl
  have hap := va_apart (own := M.1.cls) C.ts hin (zz_fty ci) hty0 hnm C.k.1 hcl
  obtain ⟨hat, hbase⟩ := T.2.2 a _ ha
  have hb : zz_b X ≤ a := zz_wr hbase (fun x hx => by cases hx)
  obtain ⟨r, h1, cell, q1, q2, q3, q4⟩ := hat
  have hr : r = (Cn, F, N) := Option.some.inj (h1.symm.trans hcl)
  subst hr
  obtain ⟨hSl, hfc, kC, hkC, hkind⟩ := C.k.1.1 ci _ hcl
  obtain ⟨cf, kf, fi, f, hi, hsl⟩ := hSl k hk
  have hlay := C.ts _ (hin _ (u_in_lay hk))
  have hst := (u_facts hfc hkC (u_lays C.ts hin hk) hi).1
  have go : ∀ H' : Heap, H'[a]? = some (cell.setSlot f.slot v) → H'.size = H.size → (∀ x, x ≠ a → H'[x]? = H[x]?) → W p (zz_l X) e R s m args below meth c H' (locs ++ [⟨a, f.slot⟩]) cells slots Qf (F0 m (pc + 3) A st) := by
    intro H' e1 e2 e3
    rw [hsl] at e1
    refine kk p e R s m args below meth c Qf H' _ cells slots A C Re (T.put hb ?_ e2 e3) (S.put e2 e3 hb) L hc hs
    exact ⟨_, hcl, t_OB.to (V := updV (vp_V fs) k v) ⟨_, e1, q2, q3, t_set q4 hap hk v⟩ (fun j _ => vp_updV_set hlen v j)⟩
  unfold u_lay at hlay
  rcases hfin with hfin | ⟨hfin, hini, hdecl⟩
  · rw [if_neg (by rw [hfin]; decide)] at hlay
    have h6 := u_store hfc hkC hkind hlay hi hty hn hfit
    exact W.putK C.x C.b (f := f) ⟨C.ow, C.ts _ hl, ⟨_, _, _, zz_same C.ts hsm _ hi⟩, hst⟩ (by rw [q2]; exact h6) q1 q3 (by rw [hsl]; exact k2_hasslot (q4 k hk)) rfl rfl hd go
  · rw [if_pos hfin] at hlay
    have hcf : m.cls = cf := by
      obtain ⟨_, _, c', _, _, _, -, -, hf', -, -, -, hown2, -⟩ := Cond.laysFinal_spec hlay
      have e1 : c' = cf := by have := hi.symm.trans hf'; simp at this; exact this.1.symm
      rw [hdecl] at hown2
      rw [← e1]; exact Option.some.inj (C.ow.symm.trans hown2)
    have h6 := u_fits hfc hkC hkind (Or.inr hlay) hi hty hn hfit
    exact W.putFinK C.x C.b C.ow (C.ts _ hl) (zz_same C.ts hsm _ hi) hst hcf (C.nm.trans hini) (by rw [q2]; exact h6) q1 q3 (by rw [hsl]; exact k2_hasslot (q4 k hk)) rfl rfl hd go
theorem zi_iald {a N : Nat} {f : Nat → Int32} {i : Int32} (hd : zz_d M pc .iaload 1 q) (ha : h a = some (.inl (0, N, .inl f))) (hi : vp_in i N) (kk : zz_Z X M d Q kc ks q ls (.int (f i.toNatClampNeg) :: st) n h) : zz_Z X M d Q kc ks pc ls (.int i :: .ref a :: st) n h := by
  obtain ⟨hd, rfl⟩ := hd
  intro p e R s m args below meth c Qf H locs cells slots A C Re T S L hc hs
  have hP : va_P (zz_D X) zz_cl [(a, .inl (zz_a X 0, N, .inl f))] H := zz_one (T.2.2 a _ ha).1
  exact va_iald C.x C.b C.k.1 hP 0 0 rfl rfl hi hd (kk p e R s m args below meth c Qf H locs cells slots A C Re T S L hc hs)
theorem zi_cald {a N : Nat} {f : Nat → Int32} {i : Int32} (hd : zz_d M pc .caload 1 q) (ha : h a = some (.inl (1, N, .inl f))) (hi : vp_in i N) (kk : zz_Z X M d Q kc ks q ls (.int (f i.toNatClampNeg) :: st) n h) : zz_Z X M d Q kc ks pc ls (.int i :: .ref a :: st) n h := by
  obtain ⟨hd, rfl⟩ := hd
  intro p e R s m args below meth c Qf H locs cells slots A C Re T S L hc hs
  have hP : va_P (zz_D X) zz_cl [(a, .inl (zz_a X 1, N, .inl f))] H := zz_one (T.2.2 a _ ha).1
  exact va_cald C.x C.b C.k.1 hP 0 1 rfl rfl hi hd (kk p e R s m args below meth c Qf H locs cells slots A C Re T S L hc hs)
theorem zi_zald {a N : Nat} {f : Nat → Int32} {i : Int32} (hd : zz_d M pc .baload 1 q) (ha : h a = some (.inl (2, N, .inl f))) (hi : vp_in i N) (kk : zz_Z X M d Q kc ks q ls (.int (f i.toNatClampNeg) :: st) n h) : zz_Z X M d Q kc ks pc ls (.int i :: .ref a :: st) n h := by
  obtain ⟨hd, rfl⟩ := hd
  intro p e R s m args below meth c Qf H locs cells slots A C Re T S L hc hs
  have hP : va_P (zz_D X) zz_cl [(a, .inl (zz_a X 2, N, .inl f))] H := zz_one (T.2.2 a _ ha).1
  exact va_zald C.x C.b C.k.1 hP 0 2 rfl rfl hi hd (kk p e R s m args below meth c Qf H locs cells slots A C Re T S L hc hs)
theorem zi_alen {a kd : Nat} {x : vp_A} {ty : FieldType} (hd : zz_d M pc .arraylength 1 q) (ha : h a = some (.inl (kd, x))) (ht : (zz_ty X)[kd]? = some (zz_a X kd, ty)) (kk : zz_Z X M d Q kc ks q ls (.int (nI x.1) :: st) n h) : zz_Z X M d Q kc ks pc ls (.ref a :: st) n h := by
  obtain ⟨hd, rfl⟩ := hd
  intro p e R s m args below meth c Qf H locs cells slots A C Re T S L hc hs
  have hP : va_P (zz_D X) zz_cl [(a, .inl (zz_a X kd, x))] H := zz_one (T.2.2 a _ ha).1
  exact va_alen C.x C.b C.k.1 hP 0 kd rfl ht rfl hd (kk p e R s m args below meth c Qf H locs cells slots A C Re T S L hc hs)
theorem zi_aald {a N : Nat} {f : Nat → Option Nat} {i : Int32} {v : Value} (hd : zz_d M pc .aaload 1 q) (ha : h a = some (.inl (3, N, .inr (.inr (.inr (.inr f)))))) (hi : vp_in i N) (hv : va_rf (f i.toNatClampNeg) = v) (kk : zz_Z X M d Q kc ks q ls (v :: st) n h) : zz_Z X M d Q kc ks pc ls (.int i :: .ref a :: st) n h := by
  obtain ⟨hd, rfl⟩ := hd
  subst hv
  intro p e R s m args below meth c Qf H locs cells slots A C Re T S L hc hs
  have hP : va_P (zz_D X) zz_cl [(a, .inl (zz_a X 3, N, .inr (.inr (.inr (.inr f)))))] H := zz_one (T.2.2 a _ ha).1
  exact va_aldq C.x C.b C.k.1 hP 0 3 rfl rfl hi hd (kk p e R s m args below meth c Qf H locs cells slots A C Re T S L hc hs)
theorem zz_updV {f : Nat → Int32} {k : Nat} {x : Int32} : updV (fun j => Value.int (f j)) k (.int x) = fun j => Value.int (upd f k x j) := by
  funext j
  by_cases hj : j = k
  · subst hj; simp [updV, upd]
  · simp [updV, upd, hj]
theorem zi_iast {a N : Nat} {f : Nat → Int32} {i x : Int32} (hd : zz_d M pc .iastore 1 q) (ha : h a = some (.inl (0, N, .inl f))) (hi : vp_in i N) (kk : zz_Z X M d Q kc ks q ls st n (zz_up h a (.inl (0, N, .inl (upd f i.toNatClampNeg x))))) : zz_Z X M d Q kc ks pc ls (.int x :: .int i :: .ref a :: st) n h := by
  obtain ⟨hd, rfl⟩ := hd
  intro p e R s m args below meth c Qf H locs cells slots A C Re T S L hc hs
  obtain ⟨hat, hbase⟩ := T.2.2 a _ ha
  have hb : zz_b X ≤ a := zz_wr hbase (fun x hx => by cases hx)
  have hcell : H[a]? = some (vp_cell (zz_a X 0) (N, .inl f)) := hat
  refine W.iast C.x C.b hcell ((C.k.1.2 0 (zz_a X 0, .int) rfl).1 N (fun j => .int (f j))) (fun x => by cases x) (by show ¬ (i < 0 ∨ (arrV _ _ _).slots.size ≤ _); rw [arrV_size]; exact hi) rfl rfl hd fun H1 e1 z oq => ?_
  refine kk p e R s m args below meth c Qf H1 _ cells slots A C Re (T.put hb ?_ z oq) (S.put z oq hb) L hc hs
  show H1[a]? = some (vp_cell _ _)
  rw [e1, vp_cell_i, vp_cell_i, arrV_store, zz_updV]
theorem zi_cast {a N : Nat} {f : Nat → Int32} {i x : Int32} (hd : zz_d M pc .castore 1 q) (ha : h a = some (.inl (1, N, .inl f))) (hi : vp_in i N) (hx : narrow .char (.int x) = .int x) (kk : zz_Z X M d Q kc ks q ls st n (zz_up h a (.inl (1, N, .inl (upd f i.toNatClampNeg x))))) : zz_Z X M d Q kc ks pc ls (.int x :: .int i :: .ref a :: st) n h := by
  obtain ⟨hd, rfl⟩ := hd
  intro p e R s m args below meth c Qf H locs cells slots A C Re T S L hc hs
  obtain ⟨hat, hbase⟩ := T.2.2 a _ ha
  have hb : zz_b X ≤ a := zz_wr hbase (fun x hx => by cases hx)
  have hcell : H[a]? = some (vp_cell (zz_a X 1) (N, .inl f)) := hat
  refine W.cast C.x C.b hcell ((C.k.1.2 1 (zz_a X 1, .char) rfl).1 N (fun j => .int (f j))) (fun x => by cases x) (by show ¬ (i < 0 ∨ (arrV _ _ _).slots.size ≤ _); rw [arrV_size]; exact hi) rfl rfl hd fun H1 e1 z oq => ?_
  refine kk p e R s m args below meth c Qf H1 _ cells slots A C Re (T.put hb ?_ z oq) (S.put z oq hb) L hc hs
  show H1[a]? = some (vp_cell _ _)
  rw [e1, hx, vp_cell_i, vp_cell_i, arrV_store, zz_updV]
theorem zi_zast {a N : Nat} {f : Nat → Int32} {i x : Int32} (hd : zz_d M pc .bastore 1 q) (ha : h a = some (.inl (2, N, .inl f))) (hi : vp_in i N) (hx : narrow .boolean (.int x) = .int x) (kk : zz_Z X M d Q kc ks q ls st n (zz_up h a (.inl (2, N, .inl (upd f i.toNatClampNeg x))))) : zz_Z X M d Q kc ks pc ls (.int x :: .int i :: .ref a :: st) n h := by
  obtain ⟨hd, rfl⟩ := hd
  intro p e R s m args below meth c Qf H locs cells slots A C Re T S L hc hs
  obtain ⟨hat, hbase⟩ := T.2.2 a _ ha
  have hb : zz_b X ≤ a := zz_wr hbase (fun x hx => by cases hx)
  have hcell : H[a]? = some (vp_cell (zz_a X 2) (N, .inl f)) := hat
  refine W.zast C.x C.b hcell ((C.k.1.2 2 (zz_a X 2, .boolean) rfl).1 N (fun j => .int (f j))) (fun x => by cases x) (by show ¬ (i < 0 ∨ (arrV _ _ _).slots.size ≤ _); rw [arrV_size]; exact hi) rfl rfl hd fun H1 e1 z oq => ?_
  refine kk p e R s m args below meth c Qf H1 _ cells slots A C Re (T.put hb ?_ z oq) (S.put z oq hb) L hc hs
  show H1[a]? = some (vp_cell _ _)
  rw [e1, hx, vp_cell_i, vp_cell_i, arrV_store, zz_updV]
theorem zz_updQ {f : Nat → Option Nat} {k : Nat} {x : Option Nat} : updV (fun j => va_rf (f j)) k (va_rf x) = fun j => va_rf (va_up f k x j) := by
  funext j
  by_cases hj : j = k
  · subst hj; simp [updV, va_up]
  · simp [updV, va_up, hj]
/-- objects of this class may lie in an Object[] -/
def zz_el (h : zz_H) (v : Nat) : Prop := ∃ (ci : Nat) (vs : List Value) (r : vw_C), h v = some (.inr (ci, vs)) ∧ zz_cl[ci]? = some r ∧ (r.1, "java/lang/Object") ∈ zz_ca
theorem zz_el.any {n : Nat} {H : Heap} {s : State} {v : Nat} (hK : zz_K X s) (T : zz_T X n h H) (hv : zz_el h v) : va_Any "java/lang/Object" s H v := by
  obtain ⟨ci, vs, r, h1, h2, h3⟩ := hv
  have hP : va_P (zz_D X) zz_cl [(v, .inr (ci, vs))] H := zz_one (T.2.2 v _ h1).1
  exact va_rAny hK.1 hP (q0 := 0) rfl h2 (fun comp c0 g1 g2 => vb_asgC (hK.2.2.1 _ h3) comp c0 g1 g2)
theorem zi_aast {a v N : Nat} {f : Nat → Option Nat} {i : Int32} (hd : zz_d M pc .aastore 1 q) (ha : h a = some (.inl (3, N, .inr (.inr (.inr (.inr f)))))) (hv : zz_el h v) (hi : vp_in i N) (kk : zz_Z X M d Q kc ks q ls st n (zz_up h a (.inl (3, N, .inr (.inr (.inr (.inr (va_up f i.toNatClampNeg (some v))))))))) : zz_Z X M d Q kc ks pc ls (.ref v :: .int i :: .ref a :: st) n h := by
  obtain ⟨hd, rfl⟩ := hd
  intro p e R s m args below meth c Qf H locs cells slots A C Re T S L hc hs
  obtain ⟨hat, hbase⟩ := T.2.2 a _ ha
  have hb : zz_b X ≤ a := zz_wr hbase (fun x hx => by cases hx)
  have hcell : H[a]? = some (vp_cell (zz_a X 3) (N, .inr (.inr (.inr (.inr f))))) := hat
  have hlt : i.toNatClampNeg < N := Nat.not_le.mp fun x => hi (Or.inr x)
  have h0 : ¬ i < 0 := fun x => hi (Or.inl x)
  obtain ⟨cellV, g1, g3, ⟨kC, hkC⟩, hasg⟩ := hv.any C.k T
  obtain ⟨kA, comp, k1, k2, k3, -⟩ := (C.k.1.2 3 (zz_a X 3, .object "java/lang/Object") rfl).2
  obtain ⟨kE, hkE, -⟩ := Vm.findClass_spec k3
  refine W.aast C.x C.b hcell (fun x hx => by cases hx) (fun hx => by cases hx) k1 k2 rfl hkE ⟨h0, by show _ < (arrV _ _ _).slots.size; rw [arrV_size]; exact hlt⟩ g1 (fun x hx => by rw [hx] at g3; cases g3) hkC (hasg _ k3) rfl rfl hd fun H1 e1 z oq => ?_
  refine kk p e R s m args below meth c Qf H1 _ cells slots A C Re (T.put hb ?_ z oq) (S.put z oq hb) L hc hs
  show H1[a]? = some (vp_cell _ _)
  rw [e1, vp_cell_q, vp_cell_q, arrV_store]
  congr 2
  exact zz_updQ (x := some v)
theorem zi_aastN {a N : Nat} {f : Nat → Option Nat} {i : Int32} (hd : zz_d M pc .aastore 1 q) (ha : h a = some (.inl (3, N, .inr (.inr (.inr (.inr f)))))) (hi : vp_in i N) (kk : zz_Z X M d Q kc ks q ls st n (zz_up h a (.inl (3, N, .inr (.inr (.inr (.inr (va_up f i.toNatClampNeg none)))))))) : zz_Z X M d Q kc ks pc ls (.null :: .int i :: .ref a :: st) n h := by
  obtain ⟨hd, rfl⟩ := hd
  intro p e R s m args below meth c Qf H locs cells slots A C Re T S L hc hs
  obtain ⟨hat, hbase⟩ := T.2.2 a _ ha
  have hb : zz_b X ≤ a := zz_wr hbase (fun x hx => by cases hx)
  have hcell : H[a]? = some (vp_cell (zz_a X 3) (N, .inr (.inr (.inr (.inr f))))) := hat
  refine va_WaastN (C := "java/lang/Object") C.x C.b hcell ((C.k.1.2 3 (zz_a X 3, .object "java/lang/Object") rfl).1 N (fun j => va_rf (f j))) (fun hx => by cases hx) (by show ¬ (i < 0 ∨ (arrV _ _ _).slots.size ≤ _); rw [arrV_size]; exact hi) rfl rfl hd fun H1 e1 z oq => ?_
  refine kk p e R s m args below meth c Qf H1 _ cells slots A C Re (T.put hb ?_ z oq) (S.put z oq hb) L hc hs
  show H1[a]? = some (vp_cell _ _)
  rw [e1, vp_cell_q, vp_cell_q, arrV_store]
  congr 2
  exact zz_updQ (x := none)
theorem zi_newi {x : Int32} {N kc' ks' : Nat} (hd : zz_d M pc (.newarray .int) 2 q) (hw : Cond.arrayClass .int ∈ zz_ws) (h0 : ¬ x < 0) (hN : x.toNatClampNeg = N) (hb : N ≤ 100000) (hkc : kc = kc' + 1) (hks : ks = ks' + N)
    (kk : zz_Z X M d Q kc' ks' q ls (.ref n :: st) (n + 1) (zz_up h n (.inl (0, N, .inl (fun _ => 0))))) : zz_Z X M d Q kc ks pc ls (.int x :: st) n h := by
  obtain ⟨hd, rfl⟩ := hd
  subst hkc hks
  intro p e R s m args below meth c Qf H locs cells slots A C Re T S L hc hs
  refine va_newaK (atype := .int) C.x C.b (C.ts _ hw) rfl hd rfl h0 hN (by show N * 4 ≤ _; omega) (by omega) (by omega) T.1 fun H1 cA e1 z1 o1 hAr hNm => ?_
  have hca : cA = zz_a X 0 := Option.some.inj (hNm.symm.trans (C.k.1.2 0 (zz_a X 0, .int) rfl).2)
  subst hca
  have hz : s.heap.size ≤ n := by have := S.1; rw [T.1] at this; exact this
  refine kk p e R s m args below meth c Qf H1 _ (cells + 1) (slots + N) A C Re (T.push e1 z1 o1) ⟨by omega, fun y g1 g2 => (o1 y (Nat.lt_of_lt_of_le g1 hz)).trans (S.2.1 y g1 g2), S.2.2⟩ L (by omega) (by omega)
theorem zi_newc {x : Int32} {N kc' ks' : Nat} (hd : zz_d M pc (.newarray .char) 2 q) (hw : Cond.arrayClass .char ∈ zz_ws) (h0 : ¬ x < 0) (hN : x.toNatClampNeg = N) (hb : N ≤ 100000) (hkc : kc = kc' + 1) (hks : ks = ks' + N)
    (kk : zz_Z X M d Q kc' ks' q ls (.ref n :: st) (n + 1) (zz_up h n (.inl (1, N, .inl (fun _ => 0))))) : zz_Z X M d Q kc ks pc ls (.int x :: st) n h := by
  obtain ⟨hd, rfl⟩ := hd
  subst hkc hks
  intro p e R s m args below meth c Qf H locs cells slots A C Re T S L hc hs
  refine va_newaK (atype := .char) C.x C.b (C.ts _ hw) rfl hd rfl h0 hN (by show N * 2 ≤ _; omega) (by omega) (by omega) T.1 fun H1 cA e1 z1 o1 hAr hNm => ?_
  have hca : cA = zz_a X 1 := Option.some.inj (hNm.symm.trans (C.k.1.2 1 (zz_a X 1, .char) rfl).2)
  subst hca
  have hz : s.heap.size ≤ n := by have := S.1; rw [T.1] at this; exact this
  refine kk p e R s m args below meth c Qf H1 _ (cells + 1) (slots + N) A C Re (T.push e1 z1 o1) ⟨by omega, fun y g1 g2 => (o1 y (Nat.lt_of_lt_of_le g1 hz)).trans (S.2.1 y g1 g2), S.2.2⟩ L (by omega) (by omega)
theorem zi_newz {x : Int32} {N kc' ks' : Nat} (hd : zz_d M pc (.newarray .boolean) 2 q) (hw : Cond.arrayClass .boolean ∈ zz_ws) (h0 : ¬ x < 0) (hN : x.toNatClampNeg = N) (hb : N ≤ 100000) (hkc : kc = kc' + 1) (hks : ks = ks' + N)
    (kk : zz_Z X M d Q kc' ks' q ls (.ref n :: st) (n + 1) (zz_up h n (.inl (2, N, .inl (fun _ => 0))))) : zz_Z X M d Q kc ks pc ls (.int x :: st) n h := by
  obtain ⟨hd, rfl⟩ := hd
  subst hkc hks
  intro p e R s m args below meth c Qf H locs cells slots A C Re T S L hc hs
  refine va_newaK (atype := .boolean) C.x C.b (C.ts _ hw) rfl hd rfl h0 hN (by show N * 1 ≤ _; omega) (by omega) (by omega) T.1 fun H1 cA e1 z1 o1 hAr hNm => ?_
  have hca : cA = zz_a X 2 := Option.some.inj (hNm.symm.trans (C.k.1.2 2 (zz_a X 2, .boolean) rfl).2)
  subst hca
  have hz : s.heap.size ≤ n := by have := S.1; rw [T.1] at this; exact this
  refine kk p e R s m args below meth c Qf H1 _ (cells + 1) (slots + N) A C Re (T.push e1 z1 o1) ⟨by omega, fun y g1 g2 => (o1 y (Nat.lt_of_lt_of_le g1 hz)).trans (S.2.1 y g1 g2), S.2.2⟩ L (by omega) (by omega)
theorem zi_newq {x : Int32} {ix N kc' ks' : Nat} (hd : zz_d M pc (.anewarray ix) 3 q) (hw : Cond.classLink M.1.cls ix "java/lang/Object" ∈ zz_ws) (h0 : ¬ x < 0) (hN : x.toNatClampNeg = N) (hb : N ≤ 100000) (hkc : kc = kc' + 1) (hks : ks = ks' + N)
    (kk : zz_Z X M d Q kc' ks' q ls (.ref n :: st) (n + 1) (zz_up h n (.inl (3, N, .inr (.inr (.inr (.inr (fun _ => none)))))))) : zz_Z X M d Q kc ks pc ls (.int x :: st) n h := by
  obtain ⟨hd, rfl⟩ := hd
  subst hkc hks
  subst hN
  intro p e R s m args below meth c Qf H locs cells slots A C Re T S L hc hs
  refine W.anew C.x C.b C.ow (C.ts _ hw) (va_AO.use C.k.2.2.2.1) rfl hd rfl h0 (by omega) (by omega) (by omega) fun cA kA comp f1 f2 f3 f4 => ?_
  obtain ⟨-, -, -, -, -, f5⟩ := (C.k.1.2 3 (zz_a X 3, .object "java/lang/Object") rfl).2
  have hca : cA = zz_a X 3 := Option.some.inj (f1.symm.trans f5)
  subst hca
  have hT1 := T.1
  generalize hH1 : H.push ({ cls := zz_a X 3, slots := Array.replicate x.toNatClampNeg .null, vm := .none } : Cell) = H1
  have z1 : H1.size = n + 1 := by rw [← hH1, Array.size_push, T.1]
  have e1 : H1[n]? = some (arrV (zz_a X 3) x.toNatClampNeg (fun _ => .null)) := by rw [← hH1, ← T.1, Array.getElem?_push_size, ← arrV_new]
  have o1 : ∀ y : Nat, y < n → H1[y]? = H[y]? := fun y hy => by rw [← hH1, Array.getElem?_push, if_neg (by rw [T.1]; exact Nat.ne_of_lt hy)]
  have hz : s.heap.size ≤ n := by have := S.1; rw [T.1] at this; exact this
  have hg : W p (zz_l X) e R s m args below meth c H1 locs (cells + 1) (slots + x.toNatClampNeg) Qf (F0 m (pc + 3) A (.ref n :: st)) :=
    kk p e R s m args below meth c Qf H1 _ (cells + 1) (slots + x.toNatClampNeg) A C Re (T.push e1 z1 o1) ⟨by omega, fun y g1 g2 => (o1 y (Nat.lt_of_lt_of_le g1 hz)).trans (S.2.1 y g1 g2), S.2.2⟩ L (by omega) (by omega)
  rw [← hT1] at hg
  exact hg
def zz_nw (own : String) (ix ci N : Nat) (fs : List Value) : Prop := ∃ (Cn : String) (F : u_T), zz_cl[ci]? = some (Cn, F, N) ∧ Cond.classLink own ix Cn ∈ zz_ws ∧ Cond.instantiable Cn N ∈ zz_ws ∧ Cond.initialized Cn ∈ zz_ws ∧ ∀ j, j < N → defaultValue (zz_fty ci j) = vp_V fs j
theorem zi_new {ix ci N kc' ks' : Nat} {fs : List Value} (hd : zz_d M pc (.new ix) 3 q) (hw : zz_nw M.1.cls ix ci N fs) (hkc : kc = kc' + 1) (hks : ks = ks' + N)
    (kk : zz_Z X M d Q kc' ks' q ls (.ref n :: st) (n + 1) (zz_up h n (.inr (ci, fs)))) : zz_Z X M d Q kc ks pc ls st n h := by
  obtain ⟨hd, rfl⟩ := hd
  subst hkc hks
  obtain ⟨Cn, F, hcl, w1, w2, w3, hfs⟩ := hw
  intro p e R s m args below meth c Qf H locs cells slots A C Re T S L hc hs
  obtain ⟨hin, hty0, hnm⟩ := zz_clok hcl
  have hKn := C.k.1.1 ci _ hcl
  refine W.newcK C.x C.b C.ow (C.ts _ w1) (C.ts _ w2) (C.ts _ w3) rfl hd (by omega) (by omega) hKn.2.1 T.1 fun H1 kC hkC e1 z1 o1 => ?_
  have hz : s.heap.size ≤ n := by have := S.1; rw [T.1] at this; exact this
  exact kk p e R s m args below meth c Qf H1 _ (cells + 1) (slots + N) A C Re (T.push ⟨_, hcl, (u_born (zz_fty ci) C.ts hin hKn hkC e1 hty0).to hfs⟩ z1 o1) ⟨by omega, fun y g1 g2 => (o1 y (Nat.lt_of_lt_of_le g1 hz)).trans (S.2.1 y g1 g2), S.2.2⟩ L (by omega) (by omega)
theorem zi_gets {ix : Nat} (hd : zz_d M pc (.getstatic ix) 3 q) (hl : Cond.fieldLink M.1.cls ix "java/util/ArrayList" "DEFAULTCAPACITY_EMPTY_ELEMENTDATA" "[Ljava/lang/Object;" ∈ zz_ws) (kk : zz_Z X M d Q kc ks q ls (.ref (zz_e X) :: st) n h) : zz_Z X M d Q kc ks pc ls st n h := by
  obtain ⟨hd, rfl⟩ := hd
  intro p e R s m args below meth c Qf H locs cells slots A C Re T S L hc hs
  exact va_gets C.x C.b C.k.2.2.2.2.1 S C.ow (C.ts _ hl) (fun x hx => hx) hd (kk p e R s m args below meth c Qf H locs cells slots A C Re T S L hc hs)
theorem zz_recv {n : Nat} {H : Heap} {s : State} {a ci : Nat} {fs : List Value} {r : vw_C} (hK : zz_K X s) (T : zz_T X n h H) (ha : h a = some (.inr (ci, fs))) (hcl : zz_cl[ci]? = some r) : ∃ cell : Cell, H[a]? = some cell ∧ cell.vm.isStatics = false ∧ s.vm.findClass r.1 = some cell.cls := by
  have hP : va_P (zz_D X) zz_cl [(a, .inr (ci, fs))] H := zz_one (T.2.2 a _ ha).1
  exact va_recv hK.1 hP hcl (q0 := 0) rfl
theorem zi_castS {ix a ci N : Nat} {nm : String} {F : u_T} {fs : List Value} (hd : zz_d M pc (.checkcast ix) 3 q) (hl : Cond.classLink M.1.cls ix nm ∈ zz_ws) (ha : h a = some (.inr (ci, fs))) (hcl : zz_cl[ci]? = some (nm, F, N)) (kk : zz_Z X M d Q kc ks q ls (.ref a :: st) n h) : zz_Z X M d Q kc ks pc ls (.ref a :: st) n h := by
  obtain ⟨hd, rfl⟩ := hd
  intro p e R s m args below meth c Qf H locs cells slots A C Re T S L hc hs
  exact va_castS C.x C.b C.ow (C.ts _ hl) (C.k.1.1 ci _ hcl).2 (zz_recv C.k T ha hcl) hd (kk p e R s m args below meth c Qf H locs cells slots A C Re T S L hc hs)
theorem zi_castN {ix : Nat} (hd : zz_d M pc (.checkcast ix) 3 q) (kk : zz_Z X M d Q kc ks q ls (.null :: st) n h) : zz_Z X M d Q kc ks pc ls (.null :: st) n h := by
  obtain ⟨hd, rfl⟩ := hd
  intro p e R s m args below meth c Qf H locs cells slots A C Re T S L hc hs
  exact lv_castN C.x C.b hd (kk p e R s m args below meth c Qf H locs cells slots A C Re T S L hc hs)
theorem zi_castA {ix a : Nat} {x : vp_A} (hd : zz_d M pc (.checkcast ix) 3 q) (hl : Cond.classLink M.1.cls ix "[Ljava/lang/Object;" ∈ zz_ws) (ha : h a = some (.inl (3, x))) (kk : zz_Z X M d Q kc ks q ls (.ref a :: st) n h) : zz_Z X M d Q kc ks pc ls (.ref a :: st) n h := by
  obtain ⟨hd, rfl⟩ := hd
  intro p e R s m args below meth c Qf H locs cells slots A C Re T S L hc hs
  have hP : va_P (zz_D X) zz_cl [(a, .inl (zz_a X 3, x))] H := zz_one (T.2.2 a _ ha).1
  exact va_castA C.x C.b C.ow (C.ts _ hl) hP 0 rfl (va_nmO (C.k.1.2 3 (zz_a X 3, .object "java/lang/Object") rfl).2 rfl) hd (kk p e R s m args below meth c Qf H locs cells slots A C Re T S L hc hs)
/-! calls -/
theorem zz_blind {av : List Value} {n : Nat} {h : zz_H} : FrameBlind (zz_Pc X av n h) := fun _ _ _ _ x => ⟨x.1, x.2.1.calling, x.2.2⟩
theorem zz_G {M' : zz_M} (hc : Cond.code M'.1 M'.2.1 M'.2.2.1 M'.2.2.2 ∈ zz_ws) : GoodIn zz_ws (Cond.code M'.1 M'.2.1 M'.2.2.1 M'.2.2.2 :: zz_ws) := fun w hw => by
  rcases List.mem_cons.mp hw with rfl | hw
  · exact zz_wsG _ hc
  · exact zz_wsG _ hw
theorem zz_after {p : Program} {e : Env} {R : Room} {s : State} {m : MethodId} {args av : Array Value} {below : List Frame} {meth : Method} {c : Code} {Qf : State → Prop} {H : Heap} {locs : List Loc} {cells slots mc ms : Nat} {A : Array Slot} {st0 : List Value} {Q' : Option Value → Nat → zz_H → Prop}
    (hr : va_Run p (zz_l X) e R s m args below meth c H locs cells slots mc ms (F0 m pc A st0) st (zz_Qc X Q' av) (zz_A X)) (S : va_S (zz_A X) s.heap H locs)
    (kk : ∀ (r : Option Value) (n' : Nat) (h' : zz_H) (H1 : Heap) (locs1 : List Loc), Q' r n' h' → zz_T X n' h' H1 → va_S (zz_A X) s.heap H1 locs1 → W p (zz_l X) e R s m args below meth c H1 locs1 (cells + mc) (slots + ms) Qf (F0 m (pc + 3) A (r.toList ++ st))) :
    W p (zz_l X) e R s m args below meth c H locs cells slots Qf (F0 m pc A st0) := by
  intro T0 hT0 X0
  obtain ⟨v, st₀, t, T', L, h0, X', hL, e1, e2, ⟨⟨r, n', h', hv, hq, hT'⟩, hz, hk⟩, stp⟩ := hr T0 hT0 X0
  cases hv
  rw [h0] at hz hk
  obtain ⟨t2, a1, b1⟩ := kk v n' h' T'.heap (locs ++ L) hq (by rw [e1]; exact hT') ⟨Nat.le_trans S.1 (by rw [e1]; exact hz), fun y g1 g2 => by rw [e1, hk y (Nat.lt_of_lt_of_le g1 S.1) g2]; exact S.2.1 y g1 g2, fun y hy => by
      rcases List.mem_append.mp hy with g | g
      · exact S.2.2 y g
      · exact hL y g⟩ T' rfl X'
  exact ⟨t2, stp t2 a1, b1⟩
abbrev zz_ok (M' : zz_M) (nA : Nat) : Prop := Cond.code M'.1 M'.2.1 M'.2.2.1 M'.2.2.2 ∈ zz_ws ∧ Cond.initialized M'.1.cls ∈ zz_ws ∧ (M'.1.cls ≠ "java/lang/invoke/MethodHandle" ∧ M'.1.cls ≠ "java/lang/invoke/VarHandle" ∧ (parseMethodDescriptor M'.1.desc).map (fun d => d.parameters.length) = some nA) ∧ M'.2.2.1 ≤ 20
/-- an instance method, by its own name -/
def zz_iv (M' : zz_M) (nA : Nat) : Prop := zz_ok M' nA ∧ Cond.instanceMethod M'.1 ∈ zz_ws ∧ Cond.selects M'.1.cls M'.1 M'.1 ∈ zz_ws
def zz_is (M' : zz_M) (nA : Nat) : Prop := zz_ok M' nA ∧ Cond.static M'.1 ∈ zz_ws
def zz_ii (M' : zz_M) (nA : Nat) : Prop := zz_ok M' nA ∧ Cond.instanceMethod M'.1 ∈ zz_ws ∧ M'.1.name = "<init>" ∧ M'.2.2.2 = none
/-- a link from own's pool place ix to y: plain, or inside the nest -/
def zz_ml (own : String) (ix : Nat) (y : MethodName) : Prop := Cond.methodLink own ix y ∈ zz_ws ∨ ∃ host, (own, ix, y, host) ∈ zz_nl
theorem zi_invV {M' : zz_M} {ix d' mc ms kc' ks' a ci N nA : Nat} {F : u_T} {fs As st0 : List Value} {Q' : Option Value → Nat → zz_H → Prop} (hd : zz_d M pc (.invokevirtual ix) 3 q) (hl : zz_ml M.1.cls ix M'.1) (hv : zz_iv M' nA)
    (hM : zz_Ct X M' d' mc ms (.ref a :: As) n h Q') (ha : h a = some (.inr (ci, fs))) (hcl : zz_cl[ci]? = some (M'.1.cls, F, N)) (hst : st0 = As.reverse ++ .ref a :: st) (hn : As.length = nA) (hw : (st.map fun v => v.category).sum ≤ 8) (hdd : d' + 1 ≤ d) (hkc : kc = kc' + mc) (hks : ks = ks' + ms)
    (k : ∀ (r : Option Value) (n' : Nat) (h' : zz_H), Q' r n' h' → zz_Z X M d Q kc' ks' q ls (r.toList ++ st) n' h') : zz_Z X M d Q kc ks pc ls st0 n h := by
  obtain ⟨hd, rfl⟩ := hd
  obtain ⟨⟨c1, c2, c3, c4⟩, c5, c6⟩ := hv
  subst hkc hks hst
  intro p e R s m args below meth c Qf H locs cells slots A C Re T S L hc hs
  have hR : d' + 1 ≤ R.frames ∧ 8 + (M'.2.2.1 + 11) + 39 * d' ≤ R.locals := ⟨Nat.le_trans hdd C.f, by have := C.w; omega⟩
  have hPc : PreV s H M'.1.cls a (zz_Pc X (.ref a :: As) n h) As := ⟨zz_blind, zz_recv C.k T ha hcl, fun U hU hW => ⟨rfl, C.k.go hW (fun y g1 g2 => by rw [hU]; exact S.2.1 y g1 g2), by rw [hU]; exact T⟩⟩
  have hf : cells + mc ≤ R.cells ∧ slots + ms ≤ R.slots := ⟨by omega, by omega⟩
  have go := fun (hr : va_Run p (zz_l X) e R s m args below meth c H locs cells slots mc ms (F0 m pc A (As.reverse ++ .ref a :: st)) st (zz_Qc X Q' (Value.ref a :: As).toArray) (zz_A X)) => zz_after (Qf := Qf) hr S fun r n' h' H1 locs1 hq hT' hS' => k r n' h' hq p e R s m args below meth c Qf H1 locs1 (cells + mc) (slots + ms) A C Re hT' hS' L (by omega) (by omega)
  rcases hl with hl | ⟨host, hl⟩
  · exact go (va_runV ⟨C.x, C.b, C.ml, C.ow, C.ts⟩ hM ⟨callB_of nA C.ts (zz_G c1) rfl rfl rfl (C.ts _ c2) (C.ts _ hl) c3 hR, C.ts _ c5, C.ts _ c6⟩ hPc rfl hn L.1 rfl (lv_room hw) hd hf)
  · exact go (va_runVN ⟨C.x, C.b, C.ml, C.ow, C.ts⟩ hM ⟨va_cnB nA C.ts (zz_G c1) rfl rfl rfl (C.k.2.1 _ hl) (C.ts _ c2) c3 hR, C.ts _ c5, C.ts _ c6⟩ hPc rfl hn L.1 rfl (lv_room hw) hd hf)
theorem zi_invS {M' : zz_M} {ix d' mc ms kc' ks' nA : Nat} {As st0 : List Value} {Q' : Option Value → Nat → zz_H → Prop} (hd : zz_d M pc (.invokestatic ix) 3 q) (hl : zz_ml M.1.cls ix M'.1) (hv : zz_is M' nA)
    (hM : zz_Ct X M' d' mc ms As n h Q') (hst : st0 = As.reverse ++ st) (hn : As.length = nA) (hw : (st.map fun v => v.category).sum ≤ 8) (hdd : d' + 1 ≤ d) (hkc : kc = kc' + mc) (hks : ks = ks' + ms)
    (k : ∀ (r : Option Value) (n' : Nat) (h' : zz_H), Q' r n' h' → zz_Z X M d Q kc' ks' q ls (r.toList ++ st) n' h') : zz_Z X M d Q kc ks pc ls st0 n h := by
  obtain ⟨hd, rfl⟩ := hd
  obtain ⟨⟨c1, c2, c3, c4⟩, c5⟩ := hv
  subst hkc hks hst
  intro p e R s m args below meth c Qf H locs cells slots A C Re T S L hc hs
  have hR : d' + 1 ≤ R.frames ∧ 8 + (M'.2.2.1 + 11) + 39 * d' ≤ R.locals := ⟨Nat.le_trans hdd C.f, by have := C.w; omega⟩
  have hPc : PreS s H (zz_Pc X As n h) As := ⟨zz_blind, fun U hU hW => ⟨rfl, C.k.go hW (fun y g1 g2 => by rw [hU]; exact S.2.1 y g1 g2), by rw [hU]; exact T⟩⟩
  have hf : cells + mc ≤ R.cells ∧ slots + ms ≤ R.slots := ⟨by omega, by omega⟩
  have go := fun (hr : va_Run p (zz_l X) e R s m args below meth c H locs cells slots mc ms (F0 m pc A (As.reverse ++ st)) st (zz_Qc X Q' As.toArray) (zz_A X)) => zz_after (Qf := Qf) hr S fun r n' h' H1 locs1 hq hT' hS' => k r n' h' hq p e R s m args below meth c Qf H1 locs1 (cells + mc) (slots + ms) A C Re hT' hS' L (by omega) (by omega)
  rcases hl with hl | ⟨host, hl⟩
  · exact go (va_runS ⟨C.x, C.b, C.ml, C.ow, C.ts⟩ hM ⟨callB_of nA C.ts (zz_G c1) rfl rfl rfl (C.ts _ c2) (C.ts _ hl) c3 hR, C.ts _ c5⟩ hPc rfl hn L.1 rfl (lv_room hw) hd hf)
  · exact go (va_runSN ⟨C.x, C.b, C.ml, C.ow, C.ts⟩ hM ⟨va_cnB nA C.ts (zz_G c1) rfl rfl rfl (C.k.2.1 _ hl) (C.ts _ c2) c3 hR, C.ts _ c5, trivial⟩ hPc rfl hn L.1 rfl (lv_room hw) hd hf)
theorem zi_invI {M' : zz_M} {ix d' mc ms kc' ks' a nA : Nat} {As st0 : List Value} {Q' : Option Value → Nat → zz_H → Prop} (hd : zz_d M pc (.invokespecial ix) 3 q) (hl : zz_ml M.1.cls ix M'.1) (hv : zz_ii M' nA)
    (hM : zz_Ct X M' d' mc ms (.ref a :: As) n h Q') (hst : st0 = As.reverse ++ .ref a :: st) (hn : As.length = nA) (hw : (st.map fun v => v.category).sum ≤ 8) (hdd : d' + 1 ≤ d) (hkc : kc = kc' + mc) (hks : ks = ks' + ms)
    (k : ∀ (r : Option Value) (n' : Nat) (h' : zz_H), Q' r n' h' → zz_Z X M d Q kc' ks' q ls (r.toList ++ st) n' h') : zz_Z X M d Q kc ks pc ls st0 n h := by
  obtain ⟨hd, rfl⟩ := hd
  obtain ⟨y', cc', mL', ret'⟩ := M'
  obtain ⟨⟨c1, c2, c3, c4⟩, c5, c6, c7⟩ := hv
  dsimp only at c7
  subst c7
  subst hkc hks hst
  intro p e R s m args below meth c Qf H locs cells slots A C Re T S L hc hs
  have hR : d' + 1 ≤ R.frames ∧ 8 + (mL' + 11) + 39 * d' ≤ R.locals := ⟨Nat.le_trans hdd C.f, by have := C.w; dsimp only at c4; omega⟩
  have hPc : PreS s H (zz_Pc X (.ref a :: As) n h) (.ref a :: As) := ⟨zz_blind, fun U hU hW => ⟨rfl, C.k.go hW (fun y g1 g2 => by rw [hU]; exact S.2.1 y g1 g2), by rw [hU]; exact T⟩⟩
  have hf : cells + mc ≤ R.cells ∧ slots + ms ≤ R.slots := ⟨by omega, by omega⟩
  have go := fun (hr : va_Run p (zz_l X) e R s m args below meth c H locs cells slots mc ms (F0 m pc A (As.reverse ++ .ref a :: st)) st (zz_Qc X Q' (Value.ref a :: As).toArray) (zz_A X)) => zz_after (Qf := Qf) hr S fun r n' h' H1 locs1 hq hT' hS' => k r n' h' hq p e R s m args below meth c Qf H1 locs1 (cells + mc) (slots + ms) A C Re hT' hS' L (by omega) (by omega)
  rcases hl with hl | ⟨host, hl⟩
  · exact go (va_runI ⟨C.x, C.b, C.ml, C.ow, C.ts⟩ hM ⟨callB_of nA C.ts (zz_G c1) rfl rfl rfl (C.ts _ c2) (C.ts _ hl) c3 hR, c6, C.ts _ c5⟩ hPc rfl hn L.1 rfl (lv_room hw) hd hf)
  · exact go (va_runIN ⟨C.x, C.b, C.ml, C.ow, C.ts⟩ hM ⟨va_cnB nA C.ts (zz_G c1) rfl rfl rfl (C.k.2.1 _ hl) (C.ts _ c2) c3 hR, c6, C.ts _ c5⟩ hPc rfl hn L.1 rfl (lv_room hw) hd hf)
theorem zi_objI {ix a : Nat} (hd : zz_d M pc (.invokespecial ix) 3 q) (hl : Cond.methodLink M.1.cls ix Lib.objectInit ∈ zz_ws) (h1 : Cond.instanceMethod Lib.objectInit ∈ zz_ws) (h2 : Cond.code Lib.objectInit ⟨#[0xb1]⟩ 1 none ∈ zz_ws) (hw : (st.map fun v => v.category).sum ≤ 8) (hdd : 1 ≤ d) (k : zz_Z X M d Q kc ks q ls st n h) : zz_Z X M d Q kc ks pc ls (.ref a :: st) n h := by
  obtain ⟨hd, rfl⟩ := hd
  intro p e R s m args below meth c Qf H locs cells slots A C Re T S L hc hs
  exact W.objInit C.x C.b C.ow (C.ts _ hl) (C.ts _ h1) (C.ts _ h2) rfl (by rw [C.ml]; exact L.1) rfl hd (Nat.le_trans hdd C.f) (by have := lv_room (m := m) (pc := pc) (ls := A) (rest := .ref a :: st) hw; have := C.w; show 2 * (F0 m pc A (.ref a :: st)).monitorRoom + _ + 12 ≤ _; omega) (k p e R s m args below meth c Qf H locs cells slots A C Re T S L hc hs)
/-! ends -/
theorem zi_ireturn {v : Int32} {ty : FieldType} (hd : zz_d M pc .ireturn 1 q) (hr : M.2.2.2 = some ty) (hn : narrow ty (.int v) = .int v) (hQ : Q (some (.int v)) n h) : zz_Z X M d Q kc ks pc ls [.int v] n h := by
  intro p e R s m args below meth c Qf H locs cells slots A C Re T S L hc hs
  exact Re (some (.int v)) n h H locs cells slots pc A hQ T S (by omega) (by omega) (Or.inl ⟨v, ty, rfl, hr, hn, hd.1⟩)
theorem zi_return (hd : zz_d M pc .return_ 1 q) (hr : M.2.2.2 = none) (hQ : Q none n h) : zz_Z X M d Q kc ks pc ls [] n h := by
  intro p e R s m args below meth c Qf H locs cells slots A C Re T S L hc hs
  exact Re none n h H locs cells slots pc A hQ T S (by omega) (by omega) (Or.inr (Or.inl ⟨rfl, hr, hd.1⟩))
theorem zi_areturn {v : Value} {rt : FieldType} (hd : zz_d M pc .areturn 1 q) (hr : M.2.2.2 = some rt) (hrt : (∃ nm, rt = .object nm) ∨ ∃ t, rt = .array t) (hv : zz_ir v = true) (hQ : Q (some v) n h) : zz_Z X M d Q kc ks pc ls [v] n h := by
  intro p e R s m args below meth c Qf H locs cells slots A C Re T S L hc hs
  refine Re (some v) n h H locs cells slots pc A hQ T S (by omega) (by omega) (Or.inr (Or.inr ⟨v, rt, rfl, hr, hrt, ?_, hd.1⟩))
  cases v with
  | ref a => exact Or.inr ⟨a, rfl⟩
  | null => exact Or.inl rfl
  | int _ => cases hv
  | long _ => cases hv
  | float _ => cases hv
  | double _ => cases hv
  | retAddr _ => cases hv
/-! switches -/
theorem zi_tabIn {dflt lo hi : Int} {offs : Array Int} {len t : Nat} {x : Int32} {off : Int} (hd : zz_d M pc (.tableswitch dflt lo hi offs) len q) (h1 : ¬ x.toInt < lo) (h2 : ¬ hi < x.toInt) (ho : offs[(x.toInt - lo).toNat]? = some off) (ht : (pc : Int) + off = (t : Int)) (k : zz_Z X M d Q kc ks t ls st n h) : zz_Z X M d Q kc ks pc ls (.int x :: st) n h := by
  obtain ⟨hd, rfl⟩ := hd
  intro p e R s m args below meth c Qf H locs cells slots A C Re T S L hc hs
  exact lv_tableIn C.x C.b hd h1 h2 ho ht (k p e R s m args below meth c Qf H locs cells slots A C Re T S L hc hs)
theorem zi_tabOut {dflt lo hi : Int} {offs : Array Int} {len t : Nat} {x : Int32} (hd : zz_d M pc (.tableswitch dflt lo hi offs) len q) (hx : x.toInt < lo ∨ hi < x.toInt) (ht : (pc : Int) + dflt = (t : Int)) (k : zz_Z X M d Q kc ks t ls st n h) : zz_Z X M d Q kc ks pc ls (.int x :: st) n h := by
  obtain ⟨hd, rfl⟩ := hd
  intro p e R s m args below meth c Qf H locs cells slots A C Re T S L hc hs
  exact lv_tableOut C.x C.b hd hx ht (k p e R s m args below meth c Qf H locs cells slots A C Re T S L hc hs)
theorem zi_lookup {dflt : Int} {ps : Array (Int × Int)} {len t : Nat} {x : Int32} {off : Int} (hd : zz_d M pc (.lookupswitch dflt ps) len q) (hp : (ps.toList.zip (ps.toList.drop 1)).all (fun (a, next) => a.1 < next.1) = true) (ho : Op.lookupswitch.offset ps.toList dflt x.toInt = off) (ht : (pc : Int) + off = (t : Int)) (k : zz_Z X M d Q kc ks t ls st n h) : zz_Z X M d Q kc ks pc ls (.int x :: st) n h := by
  obtain ⟨hd, rfl⟩ := hd
  intro p e R s m args below meth c Qf H locs cells slots A C Re T S L hc hs
  exact lv_lookup C.x C.b hd hp ho ht (k p e R s m args below meth c Qf H locs cells slots A C Re T S L hc hs)
end ZV
end
section
/-! The same rules with every int as an Int: zv z is the JVM int of z. -/
def zv (z : Int) : Value := .int (Int32.ofInt z)
theorem zn_to {a : Int} (ha : -2147483648 ≤ a ∧ a < 2147483648) : (Int32.ofInt a).toInt = a := Int32.toInt_ofInt_of_le (by omega) (by omega)
theorem zn_eq {a b : Int} (ha : -2147483648 ≤ a ∧ a < 2147483648) (hb : -2147483648 ≤ b ∧ b < 2147483648) : Int32.ofInt a = Int32.ofInt b ↔ a = b := by
  rw [← Int32.toInt_inj, zn_to ha, zn_to hb]
theorem zn_lt {a b : Int} (ha : -2147483648 ≤ a ∧ a < 2147483648) (hb : -2147483648 ≤ b ∧ b < 2147483648) : Int32.ofInt a < Int32.ofInt b ↔ a < b := by
  rw [Int32.lt_iff_toInt_lt, zn_to ha, zn_to hb]
theorem zn_le {a b : Int} (ha : -2147483648 ≤ a ∧ a < 2147483648) (hb : -2147483648 ≤ b ∧ b < 2147483648) : Int32.ofInt a ≤ Int32.ofInt b ↔ a ≤ b := by
  rw [Int32.le_iff_toInt_le, zn_to ha, zn_to hb]
theorem zn_rg (x : Int32) : -2147483648 ≤ x.toInt ∧ x.toInt < 2147483648 := ⟨by have := x.le_toInt; omega, by have := x.toInt_lt; omega⟩
theorem zn_z : (0 : Int32) = Int32.ofInt 0 := rfl
theorem zn_of (x : Int32) : Value.int x = zv x.toInt := by unfold zv; rw [Int32.ofInt_toInt]
theorem zn_cl {i : Int} (hi : 0 ≤ i ∧ i < 2147483648) : (Int32.ofInt i).toNatClampNeg = i.toNat := by
  show (Int32.ofInt i).toInt.toNat = _
  rw [zn_to (by omega)]
theorem zn_in {i : Int} {N : Nat} (hi : 0 ≤ i ∧ i < (N : Int)) (hN : N < 2147483648) : vp_in (Int32.ofInt i) N := by
  intro hx
  rcases hx with hx | hx
  · rw [zn_z, zn_lt (by omega) (by omega)] at hx
    omega
  · rw [zn_cl (by omega)] at hx
    omega
theorem zn_nI (N : Nat) : Value.int (nI N) = zv (N : Int) := by
  show Value.int (Int32.ofNat N) = Value.int (Int32.ofInt (N : Int))
  rw [Int32.ofInt_eq_ofNat]
theorem zn_zb {a : Int} (ha : a = 0 ∨ a = 1) : narrow .boolean (zv a) = zv a := by
  rcases ha with rfl | rfl <;> rfl
theorem zn_ch {a : Int} (ha : 0 ≤ a ∧ a < 65536) : (Int32.ofInt a).toUInt32 % 65536 = (Int32.ofInt a).toUInt32 := by
  obtain ⟨k, rfl⟩ : ∃ k : Nat, a = (k : Int) := ⟨a.toNat, by omega⟩
  rw [Int32.ofInt_eq_ofNat]
  apply UInt32.toNat_inj.mp
  have h2 : k < 65536 := by omega
  have h1 : (Int32.ofNat k).toUInt32.toNat = k := by
    show (BitVec.ofNat 32 k).toNat = k
    rw [BitVec.toNat_ofNat]; omega
  rw [UInt32.toNat_mod, h1]
  show k % 65536 = k
  omega
theorem zn_nc {a : Int} (ha : 0 ≤ a ∧ a < 65536) : narrow .char (zv a) = zv a := by
  have h1 := zn_ch ha
  show Value.int (((Int32.ofInt a).toUInt32 % 65536).toInt32) = _
  rw [h1]
  rfl
/-! what the bits of ints do, on Ints -/
def zb_and (a b : Int) : Int := (Int32.ofInt a &&& Int32.ofInt b).toInt
def zb_or (a b : Int) : Int := (Int32.ofInt a ||| Int32.ofInt b).toInt
def zb_xor (a b : Int) : Int := (Int32.ofInt a ^^^ Int32.ofInt b).toInt
def zb_shl (a b : Int) : Int := (Int32.ofInt a <<< (Int32.ofInt b &&& 31)).toInt
def zb_shr (a b : Int) : Int := (Int32.ofInt a >>> (Int32.ofInt b &&& 31)).toInt
def zb_ushr (a b : Int) : Int := (((Int32.ofInt a).toUInt32 >>> ((Int32.ofInt b).toUInt32 &&& Int32.toUInt32 31)).toInt32).toInt
def zb_div (a b : Int) : Int := (Int32.ofInt a / Int32.ofInt b).toInt
/-- an array of ints, chars or booleans by a function on Ints -/
def zA (kd N : Nat) (g : Int → Int) : va_E := .inl (kd, N, .inl (fun j => Int32.ofInt (g (j : Int))))
def zU (g : Int → Int) (i x : Int) : Int → Int := fun j => if j = i then x else g j
theorem zU_eq (g : Int → Int) (i x : Int) : zU g i x i = x := if_pos rfl
theorem zU_ne {g : Int → Int} {i j x : Int} (hj : j ≠ i) : zU g i x j = g j := if_neg hj
theorem zA_set {kd N : Nat} {g : Int → Int} {i x : Int} (hi : 0 ≤ i ∧ i < 2147483648) : (Sum.inl (kd, N, Sum.inl (upd (fun j => Int32.ofInt (g (j : Int))) (Int32.ofInt i).toNatClampNeg (Int32.ofInt x))) : va_E) = zA kd N (zU g i x) := by
  unfold zA
  congr 4
  funext j
  rw [zn_cl hi]
  unfold upd zU
  by_cases hj : j = i.toNat
  · rw [if_pos hj, if_pos (by omega)]
  · rw [if_neg hj, if_neg (by omega)]
/-- an array of references -/
def zQ (kd N : Nat) (f : Nat → Option Nat) : va_E := .inl (kd, N, .inr (.inr (.inr (.inr f))))
section ZJ
variable {X : zz_X} {M : zz_M} {d kc ks pc q n : Nat} {Q : Option Value → Nat → zz_H → Prop} {ls ls' : List (Option Value)} {st : List Value} {h : zz_H}
theorem zj_iconst {z : Int} (hd : zz_d M pc (.iconst z) 1 q) (k : zz_Z X M d Q kc ks q ls (zv z :: st) n h) : zz_Z X M d Q kc ks pc ls st n h := zi_iconst hd k
theorem zj_bipush {z : Int} (hd : zz_d M pc (.bipush z) 2 q) (hz : -128 ≤ z ∧ z < 128) (k : zz_Z X M d Q kc ks q ls (zv z :: st) n h) : zz_Z X M d Q kc ks pc ls st n h := zi_bipush hd (by apply Int32.toInt_inj.mp; rw [Int8.toInt_toInt32, Int8.toInt_ofInt_of_le (by omega) (by omega), zn_to (by omega)]) k
theorem zj_sipush {z : Int} (hd : zz_d M pc (.sipush z) 3 q) (hz : -32768 ≤ z ∧ z < 32768) (k : zz_Z X M d Q kc ks q ls (zv z :: st) n h) : zz_Z X M d Q kc ks pc ls st n h := zi_sipush hd (by apply Int32.toInt_inj.mp; rw [Int16.toInt_toInt32, Int16.toInt_ofInt_of_le (by omega) (by omega), zn_to (by omega)]) k
theorem zj_iload_n {i : Fin 4} {a : Int} (hd : zz_d M pc (.iload_n i) 1 q) (hl : ls[(i : Nat)]? = some (some (zv a))) (k : zz_Z X M d Q kc ks q ls (zv a :: st) n h) : zz_Z X M d Q kc ks pc ls st n h := zi_iload_n hd hl k
theorem zj_iload {i : Nat} {a : Int} (hd : zz_d M pc (.iload i) 2 q) (hl : ls[i]? = some (some (zv a))) (k : zz_Z X M d Q kc ks q ls (zv a :: st) n h) : zz_Z X M d Q kc ks pc ls st n h := zi_iload hd hl k
theorem zj_istore_n {i : Fin 4} {a : Int} (hd : zz_d M pc (.istore_n i) 1 q) (hl : zz_set ls (i : Nat) (some (zv a)) = some ls') (k : zz_Z X M d Q kc ks q ls' st n h) : zz_Z X M d Q kc ks pc ls (zv a :: st) n h := zi_istore_n hd hl k
theorem zj_istore {i : Nat} {a : Int} (hd : zz_d M pc (.istore i) 2 q) (hl : zz_set ls i (some (zv a)) = some ls') (k : zz_Z X M d Q kc ks q ls' st n h) : zz_Z X M d Q kc ks pc ls (zv a :: st) n h := zi_istore hd hl k
theorem zj_iinc {i : Nat} {z a : Int} (hd : zz_d M pc (.iinc i z) 3 q) (hx : ls[i]? = some (some (zv a))) (hl : zz_set ls i (some (zv (a + z))) = some ls') (k : zz_Z X M d Q kc ks q ls' st n h) : zz_Z X M d Q kc ks pc ls st n h := zi_iinc hd hx (by rw [← Int32.ofInt_add]; exact hl) k
theorem zj_iadd {a b : Int} (hd : zz_d M pc .iadd 1 q) (k : zz_Z X M d Q kc ks q ls (zv (a + b) :: st) n h) : zz_Z X M d Q kc ks pc ls (zv b :: zv a :: st) n h := zi_iadd hd (by rw [← Int32.ofInt_add]; exact k)
theorem zj_isub {a b : Int} (hd : zz_d M pc .isub 1 q) (k : zz_Z X M d Q kc ks q ls (zv (a - b) :: st) n h) : zz_Z X M d Q kc ks pc ls (zv b :: zv a :: st) n h := zi_isub hd (by rw [← Int32.ofInt_sub]; exact k)
theorem zj_imul {a b : Int} (hd : zz_d M pc .imul 1 q) (k : zz_Z X M d Q kc ks q ls (zv (a * b) :: st) n h) : zz_Z X M d Q kc ks pc ls (zv b :: zv a :: st) n h := zi_imul hd (by rw [← Int32.ofInt_mul]; exact k)
theorem zj_iand {a b : Int} (hd : zz_d M pc .iand 1 q) (k : zz_Z X M d Q kc ks q ls (zv (zb_and a b) :: st) n h) : zz_Z X M d Q kc ks pc ls (zv b :: zv a :: st) n h := zi_iand hd (by rw [zn_of]; exact k)
theorem zj_ior {a b : Int} (hd : zz_d M pc .ior 1 q) (k : zz_Z X M d Q kc ks q ls (zv (zb_or a b) :: st) n h) : zz_Z X M d Q kc ks pc ls (zv b :: zv a :: st) n h := zi_ior hd (by rw [zn_of]; exact k)
theorem zj_ixor {a b : Int} (hd : zz_d M pc .ixor 1 q) (k : zz_Z X M d Q kc ks q ls (zv (zb_xor a b) :: st) n h) : zz_Z X M d Q kc ks pc ls (zv b :: zv a :: st) n h := zi_ixor hd (by rw [zn_of]; exact k)
theorem zj_ishl {a b : Int} (hd : zz_d M pc .ishl 1 q) (k : zz_Z X M d Q kc ks q ls (zv (zb_shl a b) :: st) n h) : zz_Z X M d Q kc ks pc ls (zv b :: zv a :: st) n h := zi_ishl hd (by rw [zn_of]; exact k)
theorem zj_ishr {a b : Int} (hd : zz_d M pc .ishr 1 q) (k : zz_Z X M d Q kc ks q ls (zv (zb_shr a b) :: st) n h) : zz_Z X M d Q kc ks pc ls (zv b :: zv a :: st) n h := zi_ishr hd (by rw [zn_of]; exact k)
theorem zj_iushr {a b : Int} (hd : zz_d M pc .iushr 1 q) (k : zz_Z X M d Q kc ks q ls (zv (zb_ushr a b) :: st) n h) : zz_Z X M d Q kc ks pc ls (zv b :: zv a :: st) n h := zi_iushr hd (by rw [zn_of]; exact k)
theorem zj_idiv {a b : Int} (hd : zz_d M pc .idiv 1 q) (hb : (-2147483648 ≤ b ∧ b < 2147483648) ∧ b ≠ 0) (k : zz_Z X M d Q kc ks q ls (zv (zb_div a b) :: st) n h) : zz_Z X M d Q kc ks pc ls (zv b :: zv a :: st) n h := zi_idiv hd (by rw [zn_z, zn_eq hb.1 (by omega)]; exact hb.2) (by rw [zn_of]; exact k)
theorem zj_i2c {a : Int} (hd : zz_d M pc .i2c 1 q) (ha : 0 ≤ a ∧ a < 65536) (k : zz_Z X M d Q kc ks q ls (zv a :: st) n h) : zz_Z X M d Q kc ks pc ls (zv a :: st) n h := zi_i2c hd (by rw [zn_ch ha]; exact k)
theorem zj_if_eq {a off : Int} {t : Nat} (hd : zz_d M pc (.ifCond .eq off) 3 q) (ht : (pc : Int) + off = (t : Int)) (ha : -2147483648 ≤ a ∧ a < 2147483648) (kt : a = 0 → zz_Z X M d Q kc ks t ls st n h) (kf : ¬ a = 0 → zz_Z X M d Q kc ks q ls st n h) : zz_Z X M d Q kc ks pc ls (zv a :: st) n h :=
  zi_if_eq hd ht (fun hx => kt (by rw [zn_z, zn_eq ha (by omega)] at hx; exact hx)) (fun hx => kf (by rw [zn_z, zn_eq ha (by omega)] at hx; exact hx))
theorem zj_if_ne {a off : Int} {t : Nat} (hd : zz_d M pc (.ifCond .ne off) 3 q) (ht : (pc : Int) + off = (t : Int)) (ha : -2147483648 ≤ a ∧ a < 2147483648) (kt : ¬ a = 0 → zz_Z X M d Q kc ks t ls st n h) (kf : a = 0 → zz_Z X M d Q kc ks q ls st n h) : zz_Z X M d Q kc ks pc ls (zv a :: st) n h :=
  zi_if_ne hd ht (fun hx => kt (by rw [zn_z, zn_eq ha (by omega)] at hx; exact hx)) (fun hx => kf (by rw [zn_z, zn_eq ha (by omega)] at hx; exact hx))
theorem zj_if_lt {a off : Int} {t : Nat} (hd : zz_d M pc (.ifCond .lt off) 3 q) (ht : (pc : Int) + off = (t : Int)) (ha : -2147483648 ≤ a ∧ a < 2147483648) (kt : a < 0 → zz_Z X M d Q kc ks t ls st n h) (kf : ¬ a < 0 → zz_Z X M d Q kc ks q ls st n h) : zz_Z X M d Q kc ks pc ls (zv a :: st) n h :=
  zi_if_lt hd ht (fun hx => kt (by rw [zn_z, zn_lt ha (by omega)] at hx; exact hx)) (fun hx => kf (by rw [zn_z, zn_lt ha (by omega)] at hx; exact hx))
theorem zj_if_ge {a off : Int} {t : Nat} (hd : zz_d M pc (.ifCond .ge off) 3 q) (ht : (pc : Int) + off = (t : Int)) (ha : -2147483648 ≤ a ∧ a < 2147483648) (kt : 0 ≤ a → zz_Z X M d Q kc ks t ls st n h) (kf : ¬ 0 ≤ a → zz_Z X M d Q kc ks q ls st n h) : zz_Z X M d Q kc ks pc ls (zv a :: st) n h :=
  zi_if_ge hd ht (fun hx => kt (by rw [zn_z, zn_le (by omega) ha] at hx; exact hx)) (fun hx => kf (by rw [zn_z, zn_le (by omega) ha] at hx; exact hx))
theorem zj_if_gt {a off : Int} {t : Nat} (hd : zz_d M pc (.ifCond .gt off) 3 q) (ht : (pc : Int) + off = (t : Int)) (ha : -2147483648 ≤ a ∧ a < 2147483648) (kt : 0 < a → zz_Z X M d Q kc ks t ls st n h) (kf : ¬ 0 < a → zz_Z X M d Q kc ks q ls st n h) : zz_Z X M d Q kc ks pc ls (zv a :: st) n h :=
  zi_if_gt hd ht (fun hx => kt (by rw [zn_z, zn_lt (by omega) ha] at hx; exact hx)) (fun hx => kf (by rw [zn_z, zn_lt (by omega) ha] at hx; exact hx))
theorem zj_if_le {a off : Int} {t : Nat} (hd : zz_d M pc (.ifCond .le off) 3 q) (ht : (pc : Int) + off = (t : Int)) (ha : -2147483648 ≤ a ∧ a < 2147483648) (kt : a ≤ 0 → zz_Z X M d Q kc ks t ls st n h) (kf : ¬ a ≤ 0 → zz_Z X M d Q kc ks q ls st n h) : zz_Z X M d Q kc ks pc ls (zv a :: st) n h :=
  zi_if_le hd ht (fun hx => kt (by rw [zn_z, zn_le ha (by omega)] at hx; exact hx)) (fun hx => kf (by rw [zn_z, zn_le ha (by omega)] at hx; exact hx))
theorem zj_icmp_eq {a b off : Int} {t : Nat} (hd : zz_d M pc (.if_icmp .eq off) 3 q) (ht : (pc : Int) + off = (t : Int)) (ha : (-2147483648 ≤ a ∧ a < 2147483648) ∧ -2147483648 ≤ b ∧ b < 2147483648) (kt : a = b → zz_Z X M d Q kc ks t ls st n h) (kf : ¬ a = b → zz_Z X M d Q kc ks q ls st n h) : zz_Z X M d Q kc ks pc ls (zv b :: zv a :: st) n h :=
  zi_icmp_eq hd ht (fun hx => kt (by rw [zn_eq ha.1 ha.2] at hx; exact hx)) (fun hx => kf (by rw [zn_eq ha.1 ha.2] at hx; exact hx))
theorem zj_icmp_ne {a b off : Int} {t : Nat} (hd : zz_d M pc (.if_icmp .ne off) 3 q) (ht : (pc : Int) + off = (t : Int)) (ha : (-2147483648 ≤ a ∧ a < 2147483648) ∧ -2147483648 ≤ b ∧ b < 2147483648) (kt : ¬ a = b → zz_Z X M d Q kc ks t ls st n h) (kf : a = b → zz_Z X M d Q kc ks q ls st n h) : zz_Z X M d Q kc ks pc ls (zv b :: zv a :: st) n h :=
  zi_icmp_ne hd ht (fun hx => kt (by rw [zn_eq ha.1 ha.2] at hx; exact hx)) (fun hx => kf (by rw [zn_eq ha.1 ha.2] at hx; exact hx))
theorem zj_icmp_lt {a b off : Int} {t : Nat} (hd : zz_d M pc (.if_icmp .lt off) 3 q) (ht : (pc : Int) + off = (t : Int)) (ha : (-2147483648 ≤ a ∧ a < 2147483648) ∧ -2147483648 ≤ b ∧ b < 2147483648) (kt : a < b → zz_Z X M d Q kc ks t ls st n h) (kf : ¬ a < b → zz_Z X M d Q kc ks q ls st n h) : zz_Z X M d Q kc ks pc ls (zv b :: zv a :: st) n h :=
  zi_icmp_lt hd ht (fun hx => kt (by rw [zn_lt ha.1 ha.2] at hx; exact hx)) (fun hx => kf (by rw [zn_lt ha.1 ha.2] at hx; exact hx))
theorem zj_icmp_ge {a b off : Int} {t : Nat} (hd : zz_d M pc (.if_icmp .ge off) 3 q) (ht : (pc : Int) + off = (t : Int)) (ha : (-2147483648 ≤ a ∧ a < 2147483648) ∧ -2147483648 ≤ b ∧ b < 2147483648) (kt : b ≤ a → zz_Z X M d Q kc ks t ls st n h) (kf : ¬ b ≤ a → zz_Z X M d Q kc ks q ls st n h) : zz_Z X M d Q kc ks pc ls (zv b :: zv a :: st) n h :=
  zi_icmp_ge hd ht (fun hx => kt (by rw [zn_le ha.2 ha.1] at hx; exact hx)) (fun hx => kf (by rw [zn_le ha.2 ha.1] at hx; exact hx))
theorem zj_icmp_gt {a b off : Int} {t : Nat} (hd : zz_d M pc (.if_icmp .gt off) 3 q) (ht : (pc : Int) + off = (t : Int)) (ha : (-2147483648 ≤ a ∧ a < 2147483648) ∧ -2147483648 ≤ b ∧ b < 2147483648) (kt : b < a → zz_Z X M d Q kc ks t ls st n h) (kf : ¬ b < a → zz_Z X M d Q kc ks q ls st n h) : zz_Z X M d Q kc ks pc ls (zv b :: zv a :: st) n h :=
  zi_icmp_gt hd ht (fun hx => kt (by rw [zn_lt ha.2 ha.1] at hx; exact hx)) (fun hx => kf (by rw [zn_lt ha.2 ha.1] at hx; exact hx))
theorem zj_icmp_le {a b off : Int} {t : Nat} (hd : zz_d M pc (.if_icmp .le off) 3 q) (ht : (pc : Int) + off = (t : Int)) (ha : (-2147483648 ≤ a ∧ a < 2147483648) ∧ -2147483648 ≤ b ∧ b < 2147483648) (kt : a ≤ b → zz_Z X M d Q kc ks t ls st n h) (kf : ¬ a ≤ b → zz_Z X M d Q kc ks q ls st n h) : zz_Z X M d Q kc ks pc ls (zv b :: zv a :: st) n h :=
  zi_icmp_le hd ht (fun hx => kt (by rw [zn_le ha.1 ha.2] at hx; exact hx)) (fun hx => kf (by rw [zn_le ha.1 ha.2] at hx; exact hx))
theorem zj_iald {a N : Nat} {g : Int → Int} {i : Int} (hd : zz_d M pc .iaload 1 q) (ha : h a = some (zA 0 N g)) (hi : (0 ≤ i ∧ i < (N : Int)) ∧ N < 2147483648) (k : zz_Z X M d Q kc ks q ls (zv (g i) :: st) n h) : zz_Z X M d Q kc ks pc ls (zv i :: .ref a :: st) n h :=
  zi_iald hd ha (zn_in hi.1 hi.2) (by rw [zn_cl (by omega)]; show zz_Z X M d Q kc ks q ls (zv (g ((i.toNat : Nat) : Int)) :: st) n h; rw [Int.toNat_of_nonneg hi.1.1]; exact k)
theorem zj_cald {a N : Nat} {g : Int → Int} {i : Int} (hd : zz_d M pc .caload 1 q) (ha : h a = some (zA 1 N g)) (hi : (0 ≤ i ∧ i < (N : Int)) ∧ N < 2147483648) (k : zz_Z X M d Q kc ks q ls (zv (g i) :: st) n h) : zz_Z X M d Q kc ks pc ls (zv i :: .ref a :: st) n h :=
  zi_cald hd ha (zn_in hi.1 hi.2) (by rw [zn_cl (by omega)]; show zz_Z X M d Q kc ks q ls (zv (g ((i.toNat : Nat) : Int)) :: st) n h; rw [Int.toNat_of_nonneg hi.1.1]; exact k)
theorem zj_zald {a N : Nat} {g : Int → Int} {i : Int} (hd : zz_d M pc .baload 1 q) (ha : h a = some (zA 2 N g)) (hi : (0 ≤ i ∧ i < (N : Int)) ∧ N < 2147483648) (k : zz_Z X M d Q kc ks q ls (zv (g i) :: st) n h) : zz_Z X M d Q kc ks pc ls (zv i :: .ref a :: st) n h :=
  zi_zald hd ha (zn_in hi.1 hi.2) (by rw [zn_cl (by omega)]; show zz_Z X M d Q kc ks q ls (zv (g ((i.toNat : Nat) : Int)) :: st) n h; rw [Int.toNat_of_nonneg hi.1.1]; exact k)
theorem zj_iast {a N : Nat} {g : Int → Int} {i x : Int} (hd : zz_d M pc .iastore 1 q) (ha : h a = some (zA 0 N g)) (hi : (0 ≤ i ∧ i < (N : Int)) ∧ N < 2147483648) (k : zz_Z X M d Q kc ks q ls st n (zz_up h a (zA 0 N (zU g i x)))) : zz_Z X M d Q kc ks pc ls (zv x :: zv i :: .ref a :: st) n h :=
  zi_iast hd ha (zn_in hi.1 hi.2)  (by rw [zA_set (by omega)]; exact k)
theorem zj_cast {a N : Nat} {g : Int → Int} {i x : Int} (hd : zz_d M pc .castore 1 q) (ha : h a = some (zA 1 N g)) (hi : (0 ≤ i ∧ i < (N : Int)) ∧ N < 2147483648) (hx : 0 ≤ x ∧ x < 65536) (k : zz_Z X M d Q kc ks q ls st n (zz_up h a (zA 1 N (zU g i x)))) : zz_Z X M d Q kc ks pc ls (zv x :: zv i :: .ref a :: st) n h :=
  zi_cast hd ha (zn_in hi.1 hi.2) (zn_nc hx) (by rw [zA_set (by omega)]; exact k)
theorem zj_zast {a N : Nat} {g : Int → Int} {i x : Int} (hd : zz_d M pc .bastore 1 q) (ha : h a = some (zA 2 N g)) (hi : (0 ≤ i ∧ i < (N : Int)) ∧ N < 2147483648) (hx : x = 0 ∨ x = 1) (k : zz_Z X M d Q kc ks q ls st n (zz_up h a (zA 2 N (zU g i x)))) : zz_Z X M d Q kc ks pc ls (zv x :: zv i :: .ref a :: st) n h :=
  zi_zast hd ha (zn_in hi.1 hi.2) (zn_zb hx) (by rw [zA_set (by omega)]; exact k)
theorem zj_alen {a kd N : Nat} {g : Int → Int} {ty : FieldType} (hd : zz_d M pc .arraylength 1 q) (ha : h a = some (zA kd N g)) (ht : (zz_ty X)[kd]? = some (zz_a X kd, ty)) (k : zz_Z X M d Q kc ks q ls (zv (N : Int) :: st) n h) : zz_Z X M d Q kc ks pc ls (.ref a :: st) n h := zi_alen hd ha ht (by show zz_Z X M d Q kc ks q ls (Value.int (nI N) :: st) n h; rw [zn_nI]; exact k)
theorem zj_qlen {a kd N : Nat} {f : Nat → Option Nat} {ty : FieldType} (hd : zz_d M pc .arraylength 1 q) (ha : h a = some (zQ kd N f)) (ht : (zz_ty X)[kd]? = some (zz_a X kd, ty)) (k : zz_Z X M d Q kc ks q ls (zv (N : Int) :: st) n h) : zz_Z X M d Q kc ks pc ls (.ref a :: st) n h := zi_alen hd ha ht (by show zz_Z X M d Q kc ks q ls (Value.int (nI N) :: st) n h; rw [zn_nI]; exact k)
theorem zj_aald {a N : Nat} {f : Nat → Option Nat} {i : Int} {v : Value} (hd : zz_d M pc .aaload 1 q) (ha : h a = some (zQ 3 N f)) (hi : (0 ≤ i ∧ i < (N : Int)) ∧ N < 2147483648) (hv : va_rf (f i.toNat) = v) (k : zz_Z X M d Q kc ks q ls (v :: st) n h) : zz_Z X M d Q kc ks pc ls (zv i :: .ref a :: st) n h :=
  zi_aald hd ha (zn_in hi.1 hi.2) (by rw [zn_cl (by omega)]; exact hv) k
theorem zj_aast {a N v : Nat} {f : Nat → Option Nat} {i : Int} (hd : zz_d M pc .aastore 1 q) (ha : h a = some (zQ 3 N f)) (hv : zz_el h v) (hi : (0 ≤ i ∧ i < (N : Int)) ∧ N < 2147483648) (k : zz_Z X M d Q kc ks q ls st n (zz_up h a (zQ 3 N (va_up f i.toNat (some v))))) : zz_Z X M d Q kc ks pc ls (.ref v :: zv i :: .ref a :: st) n h :=
  zi_aast hd ha hv (zn_in hi.1 hi.2) (by rw [zn_cl (by omega)]; exact k)
theorem zj_aastN {a N : Nat} {f : Nat → Option Nat} {i : Int} (hd : zz_d M pc .aastore 1 q) (ha : h a = some (zQ 3 N f)) (hi : (0 ≤ i ∧ i < (N : Int)) ∧ N < 2147483648) (k : zz_Z X M d Q kc ks q ls st n (zz_up h a (zQ 3 N (va_up f i.toNat none)))) : zz_Z X M d Q kc ks pc ls (.null :: zv i :: .ref a :: st) n h :=
  zi_aastN hd ha (zn_in hi.1 hi.2) (by rw [zn_cl (by omega)]; exact k)
theorem zj_newi {z : Int} {N kc' ks' : Nat} (hd : zz_d M pc (.newarray .int) 2 q) (hw : Cond.arrayClass .int ∈ zz_ws) (hz : z = (N : Int)) (hb : N ≤ 100000) (hkc : kc = kc' + 1) (hks : ks = ks' + N) (k : zz_Z X M d Q kc' ks' q ls (.ref n :: st) (n + 1) (zz_up h n (zA 0 N (fun _ => 0)))) : zz_Z X M d Q kc ks pc ls (zv z :: st) n h := by
  subst hz
  exact zi_newi hd hw (by rw [zn_z, zn_lt (by omega) (by omega)]; omega) (by rw [zn_cl (by omega)]; rfl) hb hkc hks k
theorem zj_newc {z : Int} {N kc' ks' : Nat} (hd : zz_d M pc (.newarray .char) 2 q) (hw : Cond.arrayClass .char ∈ zz_ws) (hz : z = (N : Int)) (hb : N ≤ 100000) (hkc : kc = kc' + 1) (hks : ks = ks' + N) (k : zz_Z X M d Q kc' ks' q ls (.ref n :: st) (n + 1) (zz_up h n (zA 1 N (fun _ => 0)))) : zz_Z X M d Q kc ks pc ls (zv z :: st) n h := by
  subst hz
  exact zi_newc hd hw (by rw [zn_z, zn_lt (by omega) (by omega)]; omega) (by rw [zn_cl (by omega)]; rfl) hb hkc hks k
theorem zj_newz {z : Int} {N kc' ks' : Nat} (hd : zz_d M pc (.newarray .boolean) 2 q) (hw : Cond.arrayClass .boolean ∈ zz_ws) (hz : z = (N : Int)) (hb : N ≤ 100000) (hkc : kc = kc' + 1) (hks : ks = ks' + N) (k : zz_Z X M d Q kc' ks' q ls (.ref n :: st) (n + 1) (zz_up h n (zA 2 N (fun _ => 0)))) : zz_Z X M d Q kc ks pc ls (zv z :: st) n h := by
  subst hz
  exact zi_newz hd hw (by rw [zn_z, zn_lt (by omega) (by omega)]; omega) (by rw [zn_cl (by omega)]; rfl) hb hkc hks k
theorem zj_newq {z : Int} {ix N kc' ks' : Nat} (hd : zz_d M pc (.anewarray ix) 3 q) (hw : Cond.classLink M.1.cls ix "java/lang/Object" ∈ zz_ws) (hz : z = (N : Int)) (hb : N ≤ 100000) (hkc : kc = kc' + 1) (hks : ks = ks' + N) (k : zz_Z X M d Q kc' ks' q ls (.ref n :: st) (n + 1) (zz_up h n (zQ 3 N (fun _ => none)))) : zz_Z X M d Q kc ks pc ls (zv z :: st) n h := by
  subst hz
  exact zi_newq hd hw (by rw [zn_z, zn_lt (by omega) (by omega)]; omega) (by rw [zn_cl (by omega)]; rfl) hb hkc hks k
theorem zj_putI {ix ci k a : Nat} {fs fs' : List Value} {x : Int} (hd : zz_d M pc (.putfield ix) 3 q) (hf : zz_fp M ix ci k .int) (ha : h a = some (.inr (ci, fs))) (hset : zz_set fs k (zv x) = some fs') (kk : zz_Z X M d Q kc ks q ls st n (zz_up h a (.inr (ci, fs')))) : zz_Z X M d Q kc ks pc ls (zv x :: .ref a :: st) n h := zi_putf hd hf ha rfl rfl hset kk
theorem zj_putZ {ix ci k a : Nat} {fs fs' : List Value} {x : Int} (hd : zz_d M pc (.putfield ix) 3 q) (hf : zz_fp M ix ci k .boolean) (ha : h a = some (.inr (ci, fs))) (hx : x = 0 ∨ x = 1) (hset : zz_set fs k (zv x) = some fs') (kk : zz_Z X M d Q kc ks q ls st n (zz_up h a (.inr (ci, fs')))) : zz_Z X M d Q kc ks pc ls (zv x :: .ref a :: st) n h := zi_putf hd hf ha (zn_zb hx) (by rcases hx with rfl | rfl <;> rfl) hset kk
theorem zj_putA {ix ci k a x : Nat} {C : String} {fs fs' : List Value} (hd : zz_d M pc (.putfield ix) 3 q) (hf : zz_fp M ix ci k (.object C)) (ha : h a = some (.inr (ci, fs))) (hset : zz_set fs k (.ref x) = some fs') (kk : zz_Z X M d Q kc ks q ls st n (zz_up h a (.inr (ci, fs')))) : zz_Z X M d Q kc ks pc ls (.ref x :: .ref a :: st) n h := zi_putf hd hf ha rfl rfl hset kk
theorem zj_putR {ix ci k a x : Nat} {ty : FieldType} {fs fs' : List Value} (hd : zz_d M pc (.putfield ix) 3 q) (hf : zz_fp M ix ci k (.array ty)) (ha : h a = some (.inr (ci, fs))) (hset : zz_set fs k (.ref x) = some fs') (kk : zz_Z X M d Q kc ks q ls st n (zz_up h a (.inr (ci, fs')))) : zz_Z X M d Q kc ks pc ls (.ref x :: .ref a :: st) n h := zi_putf hd hf ha rfl rfl hset kk
theorem zj_ireturn {a : Int} (hd : zz_d M pc .ireturn 1 q) (hr : M.2.2.2 = some .int) (hQ : Q (some (zv a)) n h) : zz_Z X M d Q kc ks pc ls [zv a] n h := zi_ireturn hd hr rfl hQ
theorem zj_zreturn {a : Int} (hd : zz_d M pc .ireturn 1 q) (hr : M.2.2.2 = some .boolean) (ha : a = 0 ∨ a = 1) (hQ : Q (some (zv a)) n h) : zz_Z X M d Q kc ks pc ls [zv a] n h := zi_ireturn hd hr (zn_zb ha) hQ
theorem zj_creturn {a : Int} (hd : zz_d M pc .ireturn 1 q) (hr : M.2.2.2 = some .char) (ha : 0 ≤ a ∧ a < 65536) (hQ : Q (some (zv a)) n h) : zz_Z X M d Q kc ks pc ls [zv a] n h := zi_ireturn hd hr (zn_nc ha) hQ
theorem zj_tabIn {dflt lo hi off a : Int} {offs : Array Int} {len t : Nat} (hd : zz_d M pc (.tableswitch dflt lo hi offs) len q) (ha : (-2147483648 ≤ a ∧ a < 2147483648) ∧ lo ≤ a ∧ a ≤ hi) (ho : offs[(a - lo).toNat]? = some off) (ht : (pc : Int) + off = (t : Int)) (k : zz_Z X M d Q kc ks t ls st n h) : zz_Z X M d Q kc ks pc ls (zv a :: st) n h :=
  zi_tabIn hd (by rw [zn_to ha.1]; omega) (by rw [zn_to ha.1]; omega) (by rw [zn_to ha.1]; exact ho) ht k
theorem zj_tabOut {dflt lo hi a : Int} {offs : Array Int} {len t : Nat} (hd : zz_d M pc (.tableswitch dflt lo hi offs) len q) (ha : (-2147483648 ≤ a ∧ a < 2147483648) ∧ (a < lo ∨ hi < a)) (ht : (pc : Int) + dflt = (t : Int)) (k : zz_Z X M d Q kc ks t ls st n h) : zz_Z X M d Q kc ks pc ls (zv a :: st) n h :=
  zi_tabOut hd (by rw [zn_to ha.1]; exact ha.2) ht k
theorem zj_lookup {dflt off a : Int} {ps : Array (Int × Int)} {len t : Nat} (hd : zz_d M pc (.lookupswitch dflt ps) len q) (hp : (ps.toList.zip (ps.toList.drop 1)).all (fun (a, next) => a.1 < next.1) = true) (ha : -2147483648 ≤ a ∧ a < 2147483648) (ho : Op.lookupswitch.offset ps.toList dflt a = off) (ht : (pc : Int) + off = (t : Int)) (k : zz_Z X M d Q kc ks t ls st n h) : zz_Z X M d Q kc ks pc ls (zv a :: st) n h :=
  zi_lookup hd hp (by rw [zn_to ha]; exact ho) ht k
end ZJ
end
section
abbrev mm_0 : zz_M := (⟨"RequestGate", "<init>", "()V"⟩, prog_1_method_1_code, 1, none)
abbrev mm_1 : zz_M := (⟨"java/lang/Object", "<init>", "()V"⟩, object_method_1_code, 1, none)
abbrev mm_2 : zz_M := (⟨"RequestGate$Text", "<init>", "()V"⟩, prog_9_method_1_code, 1, none)
abbrev mm_3 : zz_M := (⟨"RequestGate$PlainPath", "<init>", "()V"⟩, prog_5_method_1_code, 1, none)
abbrev mm_4 : zz_M := (⟨"RequestGate$Pieces", "<init>", "()V"⟩, prog_4_method_1_code, 1, none)
abbrev mm_5 : zz_M := (⟨"RequestGate$Layer", "<init>", "()V"⟩, prog_3_method_1_code, 1, none)
abbrev mm_6 : zz_M := (⟨"RequestGate$Conditions", "<init>", "()V"⟩, prog_2_method_1_code, 1, none)
abbrev mm_7 : zz_M := (⟨"RequestGate$Roles", "<init>", "()V"⟩, prog_6_method_1_code, 2, none)
abbrev mm_8 : zz_M := (⟨"java/util/ArrayList", "<init>", "()V"⟩, prog_22_method_2_code, 1, none)
abbrev mm_9 : zz_M := (⟨"java/util/AbstractList", "<init>", "()V"⟩, prog_21_method_1_code, 1, none)
abbrev mm_10 : zz_M := (⟨"java/util/AbstractCollection", "<init>", "()V"⟩, prog_20_method_1_code, 1, none)
abbrev mm_11 : zz_M := (⟨"RequestGate$Tickets", "<init>", "()V"⟩, prog_11_method_1_code, 1, none)
abbrev mm_12 : zz_M := (⟨"RequestGate", "type", "(I)Z"⟩, prog_1_method_2_code, 2, (some .boolean))
abbrev mm_13 : zz_M := (⟨"RequestGate$Text", "append", "(I)Z"⟩, prog_9_method_3_code, 2, (some .boolean))
abbrev mm_14 : zz_M := (⟨"RequestGate$Text", "isCode", "(I)Z"⟩, prog_9_method_2_code, 1, (some .boolean))
abbrev mm_15 : zz_M := (⟨"RequestGate", "clear", "()V"⟩, prog_1_method_3_code, 1, none)
abbrev mm_16 : zz_M := (⟨"RequestGate$Text", "empty", "()V"⟩, prog_9_method_4_code, 1, none)
abbrev mm_17 : zz_M := (⟨"RequestGate", "expression", "(III)I"⟩, prog_1_method_4_code, 4, (some .int))
abbrev mm_18 : zz_M := (⟨"RequestGate$Conditions", "add", "(III)I"⟩, prog_2_method_3_code, 4, (some .int))
abbrev mm_19 : zz_M := (⟨"RequestGate$Conditions", "canTake", "(III)Z"⟩, prog_2_method_4_code, 4, (some .boolean))
abbrev mm_20 : zz_M := (⟨"RequestGate$Roles", "isRole", "(I)Z"⟩, prog_6_method_2_code, 1, (some .boolean))
abbrev mm_21 : zz_M := (⟨"RequestGate$Conditions", "has", "(I)Z"⟩, prog_2_method_2_code, 2, (some .boolean))
abbrev mm_22 : zz_M := (⟨"RequestGate", "rule", "(II)I"⟩, prog_1_method_5_code, 3, (some .int))
abbrev mm_23 : zz_M := (⟨"java/util/ArrayList", "size", "()I"⟩, prog_22_method_8_code, 1, (some .int))
abbrev mm_24 : zz_M := (⟨"RequestGate$Rule", "isPattern", "(LRequestGate$Text;)Z"⟩, prog_7_method_3_code, 3, (some .boolean))
abbrev mm_25 : zz_M := (⟨"RequestGate$Text", "at", "(I)C"⟩, prog_9_method_5_code, 2, (some .char))
abbrev mm_26 : zz_M := (⟨"RequestGate$Text", "holds", "(C)Z"⟩, prog_9_method_7_code, 2, (some .boolean))
abbrev mm_27 : zz_M := (⟨"RequestGate$Text", "find", "(CII)I"⟩, prog_9_method_6_code, 5, (some .int))
abbrev mm_28 : zz_M := (⟨"RequestGate$Text", "endsPieceAt", "(I)Z"⟩, prog_9_method_8_code, 2, (some .boolean))
abbrev mm_29 : zz_M := (⟨"RequestGate$Rule", "isPiece", "(LRequestGate$Text;II)Z"⟩, prog_7_method_4_code, 4, (some .boolean))
abbrev mm_30 : zz_M := (⟨"RequestGate$Rule", "<init>", "(LRequestGate$Text;II)V"⟩, prog_7_method_1_code, 5, none)
abbrev mm_31 : zz_M := (⟨"RequestGate$Pieces", "write", "(I)V"⟩, prog_4_method_3_code, 2, none)
abbrev mm_32 : zz_M := (⟨"RequestGate$Pieces", "keepWritten", "()V"⟩, prog_4_method_6_code, 1, none)
abbrev mm_33 : zz_M := (⟨"java/util/ArrayList", "add", "(Ljava/lang/Object;)Z"⟩, prog_22_method_25_code, 2, (some .boolean))
abbrev mm_34 : zz_M := (⟨"java/util/ArrayList", "add", "(Ljava/lang/Object;[Ljava/lang/Object;I)V"⟩, prog_22_method_24_code, 4, none)
abbrev mm_35 : zz_M := (⟨"java/util/ArrayList", "grow", "()[Ljava/lang/Object;"⟩, prog_22_method_7_code, 1, (some (.array (.object "java/lang/Object"))))
abbrev mm_36 : zz_M := (⟨"java/util/ArrayList", "grow", "(I)[Ljava/lang/Object;"⟩, prog_22_method_6_code, 4, (some (.array (.object "java/lang/Object"))))
abbrev mm_37 : zz_M := (⟨"jdk/internal/util/ArraysSupport", "newLength", "(III)I"⟩, prog_29_method_27_code, 4, (some .int))
abbrev mm_38 : zz_M := (⟨"java/lang/Math", "max", "(II)I"⟩, prog_18_method_65_code, 2, (some .int))
abbrev mm_39 : zz_M := (⟨"jdk/internal/util/ArraysSupport", "hugeLength", "(II)I"⟩, prog_29_method_28_code, 3, (some .int))
abbrev mm_40 : zz_M := (⟨"java/util/Arrays", "copyOf", "([Ljava/lang/Object;I)[Ljava/lang/Object;"⟩, prog_23_method_119_code, 2, (some (.array (.object "java/lang/Object"))))
abbrev mm_41 : zz_M := (⟨"java/util/Arrays", "copyOf", "([Ljava/lang/Object;ILjava/lang/Class;)[Ljava/lang/Object;"⟩, prog_23_method_120_code, 4, (some (.array (.object "java/lang/Object"))))
abbrev mm_42 : zz_M := (⟨"java/lang/Math", "min", "(II)I"⟩, prog_18_method_69_code, 2, (some .int))
abbrev mm_43 : zz_M := (⟨"RequestGate", "role", "(II)Z"⟩, prog_1_method_6_code, 3, (some .boolean))
abbrev mm_44 : zz_M := (⟨"RequestGate$Roles", "add", "(II)Z"⟩, prog_6_method_4_code, 4, (some .boolean))
abbrev mm_45 : zz_M := (⟨"RequestGate$Roles", "contains", "(II)Z"⟩, prog_6_method_3_code, 2, (some .boolean))
abbrev mm_46 : zz_M := (⟨"RequestGate", "user", "(III)I"⟩, prog_1_method_7_code, 4, (some .int))
abbrev mm_47 : zz_M := (⟨"RequestGate", "draw", "()I"⟩, prog_1_method_27_code, 1, (some .int))
abbrev mm_48 : zz_M := (⟨"RequestGate$User", "<init>", "(IIII)V"⟩, prog_12_method_1_code, 5, none)
abbrev mm_49 : zz_M := (⟨"RequestGate$User", "hashOf", "(III)I"⟩, prog_12_method_2_code, 6, (some .int))
abbrev mm_50 : zz_M := (⟨"RequestGate", "service", "(III)I"⟩, prog_1_method_8_code, 4, (some .int))
abbrev mm_51 : zz_M := (⟨"RequestGate", "isConditionOrNone", "(I)Z"⟩, prog_1_method_25_code, 2, (some .boolean))
abbrev mm_52 : zz_M := (⟨"RequestGate", "isTypeOrNone", "(I)Z"⟩, prog_1_method_24_code, 2, (some .boolean))
abbrev mm_53 : zz_M := (⟨"RequestGate", "isType", "(I)Z"⟩, prog_1_method_23_code, 2, (some .boolean))
abbrev mm_54 : zz_M := (⟨"RequestGate$Service", "<init>", "(III)V"⟩, prog_8_method_1_code, 4, none)
abbrev mm_55 : zz_M := (⟨"RequestGate", "declare", "(III)Z"⟩, prog_1_method_9_code, 4, (some .boolean))
abbrev mm_56 : zz_M := (⟨"RequestGate", "isOperation", "(I)Z"⟩, prog_1_method_26_code, 1, (some .boolean))
abbrev mm_57 : zz_M := (⟨"java/util/ArrayList", "get", "(I)Ljava/lang/Object;"⟩, prog_22_method_20_code, 2, (some (.object "java/lang/Object")))
abbrev mm_58 : zz_M := (⟨"java/util/Objects", "checkIndex", "(II)I"⟩, prog_26_method_17_code, 2, (some .int))
abbrev mm_59 : zz_M := (⟨"jdk/internal/util/Preconditions", "checkIndex", "(IILjava/util/function/BiFunction;)I"⟩, prog_30_method_11_code, 3, (some .int))
abbrev mm_60 : zz_M := (⟨"java/util/ArrayList", "elementData", "(I)Ljava/lang/Object;"⟩, prog_22_method_18_code, 2, (some (.object "java/lang/Object")))
abbrev mm_61 : zz_M := (⟨"RequestGate$Service", "add", "(II)Z"⟩, prog_8_method_3_code, 3, (some .boolean))
abbrev mm_62 : zz_M := (⟨"RequestGate", "tick", "(I)Z"⟩, prog_1_method_10_code, 2, (some .boolean))
abbrev mm_63 : zz_M := (⟨"RequestGate$Tickets", "dropDead", "(I)V"⟩, prog_11_method_7_code, 3, none)
abbrev mm_64 : zz_M := (⟨"RequestGate$Ticket", "isDead", "(I)Z"⟩, prog_10_method_2_code, 2, (some .boolean))
abbrev mm_65 : zz_M := (⟨"java/util/ArrayList", "remove", "(I)Ljava/lang/Object;"⟩, prog_22_method_29_code, 4, (some (.object "java/lang/Object")))
abbrev mm_66 : zz_M := (⟨"java/util/ArrayList", "fastRemove", "([Ljava/lang/Object;I)V"⟩, prog_22_method_39_code, 4, none)
abbrev mm_67 : zz_M := (⟨"RequestGate", "login", "(IIIZ)I"⟩, prog_1_method_11_code, 7, (some .int))
abbrev mm_68 : zz_M := (⟨"RequestGate", "isUser", "(I)Z"⟩, prog_1_method_22_code, 2, (some .boolean))
abbrev mm_69 : zz_M := (⟨"RequestGate$User", "isLocked", "(I)Z"⟩, prog_12_method_6_code, 2, (some .boolean))
abbrev mm_70 : zz_M := (⟨"RequestGate$User", "hasPassword", "(I)Z"⟩, prog_12_method_3_code, 2, (some .boolean))
abbrev mm_71 : zz_M := (⟨"RequestGate$User", "lockAfterTooManyTries", "(I)Z"⟩, prog_12_method_8_code, 2, (some .boolean))
abbrev mm_72 : zz_M := (⟨"RequestGate$User", "forgetWrongTries", "()V"⟩, prog_12_method_7_code, 1, none)
abbrev mm_73 : zz_M := (⟨"RequestGate$User", "isOfOldScheme", "()Z"⟩, prog_12_method_4_code, 1, (some .boolean))
abbrev mm_74 : zz_M := (⟨"RequestGate$User", "moveToNewScheme", "(II)V"⟩, prog_12_method_5_code, 3, none)
abbrev mm_75 : zz_M := (⟨"RequestGate$Tickets", "end", "(I)V"⟩, prog_11_method_5_code, 3, none)
abbrev mm_76 : zz_M := (⟨"RequestGate", "make", "(LRequestGate$Tickets;IZ)I"⟩, prog_1_method_28_code, 6, (some .int))
abbrev mm_77 : zz_M := (⟨"RequestGate$Ticket", "<init>", "(IIIZI)V"⟩, prog_10_method_1_code, 6, none)
abbrev mm_78 : zz_M := (⟨"RequestGate$Tickets", "add", "(LRequestGate$Ticket;)V"⟩, prog_11_method_4_code, 4, none)
abbrev mm_79 : zz_M := (⟨"RequestGate$Tickets", "findOf", "(II)LRequestGate$Ticket;"⟩, prog_11_method_3_code, 6, (some (.object "RequestGate$Ticket")))
abbrev mm_80 : zz_M := (⟨"RequestGate", "logout", "(I)Z"⟩, prog_1_method_12_code, 3, (some .boolean))
abbrev mm_81 : zz_M := (⟨"RequestGate$Tickets", "find", "(I)LRequestGate$Ticket;"⟩, prog_11_method_2_code, 4, (some (.object "RequestGate$Ticket")))
abbrev mm_82 : zz_M := (⟨"RequestGate$Tickets", "endAllOf", "(I)V"⟩, prog_11_method_6_code, 3, none)
abbrev mm_83 : zz_M := (⟨"RequestGate", "open", "(IIIII)I"⟩, prog_1_method_13_code, 10, (some .int))
abbrev mm_84 : zz_M := (⟨"RequestGate$PlainPath", "read", "(LRequestGate$Text;)Z"⟩, prog_5_method_2_code, 5, (some .boolean))
abbrev mm_85 : zz_M := (⟨"RequestGate$Pieces", "empty", "()V"⟩, prog_4_method_2_code, 1, none)
abbrev mm_86 : zz_M := (⟨"RequestGate$PlainPath", "decode", "(LRequestGate$Text;II)Z"⟩, prog_5_method_3_code, 6, (some .boolean))
abbrev mm_87 : zz_M := (⟨"RequestGate$PlainPath", "codeOf", "(CC)I"⟩, prog_5_method_4_code, 6, (some .int))
abbrev mm_88 : zz_M := (⟨"RequestGate$PlainPath", "digitOf", "(C)I"⟩, prog_5_method_5_code, 1, (some .int))
abbrev mm_89 : zz_M := (⟨"RequestGate$PlainPath", "place", "(Z)Z"⟩, prog_5_method_6_code, 3, (some .boolean))
abbrev mm_90 : zz_M := (⟨"RequestGate$Pieces", "writtenLength", "()I"⟩, prog_4_method_4_code, 1, (some .int))
abbrev mm_91 : zz_M := (⟨"RequestGate$Pieces", "wroteDots", "(I)Z"⟩, prog_4_method_5_code, 3, (some .boolean))
abbrev mm_92 : zz_M := (⟨"RequestGate$Pieces", "dropWritten", "()V"⟩, prog_4_method_7_code, 1, none)
abbrev mm_93 : zz_M := (⟨"RequestGate$Pieces", "dropLastKept", "()V"⟩, prog_4_method_8_code, 1, none)
abbrev mm_94 : zz_M := (⟨"RequestGate", "subjectOf", "(LRequestGate$Ticket;)I"⟩, prog_1_method_29_code, 2, (some .int))
abbrev mm_95 : zz_M := (⟨"RequestGate", "subjectBySeries", "(II)I"⟩, prog_1_method_30_code, 4, (some .int))
abbrev mm_96 : zz_M := (⟨"RequestGate", "decide", "(II)I"⟩, prog_1_method_31_code, 4, (some .int))
abbrev mm_97 : zz_M := (⟨"RequestGate", "firstRuleThatFits", "(I)I"⟩, prog_1_method_32_code, 4, (some .int))
abbrev mm_98 : zz_M := (⟨"RequestGate$Rule", "isFor", "(I)Z"⟩, prog_7_method_2_code, 2, (some .boolean))
abbrev mm_99 : zz_M := (⟨"RequestGate$Layer", "canLay", "(LRequestGate$Pieces;LRequestGate$Pieces;)Z"⟩, prog_3_method_2_code, 4, (some .boolean))
abbrev mm_100 : zz_M := (⟨"RequestGate$Layer", "begin", "([Z)V"⟩, prog_3_method_5_code, 2, none)
abbrev mm_101 : zz_M := (⟨"RequestGate$Pieces", "isTwoStars", "(I)Z"⟩, prog_4_method_11_code, 2, (some .boolean))
abbrev mm_102 : zz_M := (⟨"RequestGate$Pieces", "lengthOf", "(I)I"⟩, prog_4_method_9_code, 2, (some .int))
abbrev mm_103 : zz_M := (⟨"RequestGate$Pieces", "at", "(II)C"⟩, prog_4_method_10_code, 3, (some .char))
abbrev mm_104 : zz_M := (⟨"RequestGate$Layer", "spread", "([Z)V"⟩, prog_3_method_6_code, 2, none)
abbrev mm_105 : zz_M := (⟨"RequestGate$Layer", "layOnOne", "(LRequestGate$Pieces;ILRequestGate$Pieces;)V"⟩, prog_3_method_3_code, 5, none)
abbrev mm_106 : zz_M := (⟨"RequestGate$Layer", "covers", "(LRequestGate$Pieces;ILRequestGate$Pieces;I)Z"⟩, prog_3_method_4_code, 9, (some .boolean))
abbrev mm_107 : zz_M := (⟨"RequestGate", "isTrue", "(III)Z"⟩, prog_1_method_33_code, 6, (some .boolean))
abbrev mm_108 : zz_M := (⟨"RequestGate$Roles", "includedIn", "(I)I"⟩, prog_6_method_5_code, 4, (some .int))
abbrev mm_109 : zz_M := (⟨"RequestGate$Conditions", "isTrueFor", "(IIII)Z"⟩, prog_2_method_5_code, 7, (some .boolean))
abbrev mm_110 : zz_M := (⟨"RequestGate$Conditions", "jointValue", "(I)I"⟩, prog_2_method_6_code, 4, (some .int))
abbrev mm_111 : zz_M := (⟨"RequestGate$Conditions", "truth", "(Z)I"⟩, prog_2_method_8_code, 1, (some .int))
abbrev mm_112 : zz_M := (⟨"RequestGate$Conditions", "singleValue", "(IIII)I"⟩, prog_2_method_7_code, 7, (some .int))
abbrev mm_113 : zz_M := (⟨"RequestGate", "call", "(III)I"⟩, prog_1_method_14_code, 6, (some .int))
abbrev mm_114 : zz_M := (⟨"RequestGate", "typeThatDeclares", "(II)I"⟩, prog_1_method_34_code, 6, (some .int))
abbrev mm_115 : zz_M := (⟨"RequestGate$Service", "declares", "(I)Z"⟩, prog_8_method_2_code, 2, (some .boolean))
abbrev mm_116 : zz_M := (⟨"RequestGate", "conditionAt", "(II)I"⟩, prog_1_method_36_code, 3, (some .int))
abbrev mm_117 : zz_M := (⟨"RequestGate$Service", "conditionOf", "(I)I"⟩, prog_8_method_4_code, 2, (some .int))
abbrev mm_118 : zz_M := (⟨"RequestGate", "conditionByInterfaces", "(II)I"⟩, prog_1_method_35_code, 7, (some .int))
abbrev mm_119 : zz_M := (⟨"RequestGate", "close", "()Z"⟩, prog_1_method_15_code, 1, (some .boolean))
abbrev mm_120 : zz_M := (⟨"RequestGate", "who", "()I"⟩, prog_1_method_16_code, 1, (some .int))
abbrev mm_121 : zz_M := (⟨"RequestGate", "fits", "(I)I"⟩, prog_1_method_17_code, 2, (some .int))
abbrev mm_122 : zz_M := (⟨"RequestGate", "session", "(III)I"⟩, prog_1_method_18_code, 5, (some .int))
abbrev mm_123 : zz_M := (⟨"RequestGate", "series", "(III)I"⟩, prog_1_method_19_code, 5, (some .int))
abbrev mm_124 : zz_M := (⟨"RequestGate", "hash", "(I)I"⟩, prog_1_method_20_code, 2, (some .int))
abbrev mm_125 : zz_M := (⟨"RequestGate", "count", "(I)I"⟩, prog_1_method_21_code, 2, (some .int))
abbrev mm_126 : zz_M := (⟨"RequestGateModel", "<init>", "()V"⟩, prog_14_method_1_code, 1, none)
abbrev mm_127 : zz_M := (⟨"RequestGateModel", "type", "(I)Z"⟩, prog_14_method_2_code, 2, (some .boolean))
abbrev mm_128 : zz_M := (⟨"RequestGateModel", "clear", "()V"⟩, prog_14_method_3_code, 1, none)
abbrev mm_129 : zz_M := (⟨"RequestGateModel", "expression", "(III)I"⟩, prog_14_method_13_code, 4, (some .int))
abbrev mm_130 : zz_M := (⟨"RequestGateModel", "isExpression", "(I)Z"⟩, prog_14_method_12_code, 2, (some .boolean))
abbrev mm_131 : zz_M := (⟨"RequestGateModel", "role", "(II)Z"⟩, prog_14_method_15_code, 3, (some .boolean))
abbrev mm_132 : zz_M := (⟨"RequestGateModel", "included", "(I)I"⟩, prog_14_method_14_code, 5, (some .int))
abbrev mm_133 : zz_M := (⟨"RequestGateModel", "rule", "(II)I"⟩, prog_14_method_19_code, 4, (some .int))
abbrev mm_134 : zz_M := (⟨"RequestGateModel", "isPattern", "()Z"⟩, prog_14_method_9_code, 4, (some .boolean))
abbrev mm_135 : zz_M := (⟨"RequestGateModel", "barred", "(I)Z"⟩, prog_14_method_5_code, 1, (some .boolean))
abbrev mm_136 : zz_M := (⟨"RequestGateModel", "user", "(III)I"⟩, prog_14_method_23_code, 4, (some .int))
abbrev mm_137 : zz_M := (⟨"RequestGateModel", "draw", "()I"⟩, prog_14_method_20_code, 1, (some .int))
abbrev mm_138 : zz_M := (⟨"RequestGateModel", "hashOf", "(III)I"⟩, prog_14_method_21_code, 6, (some .int))
abbrev mm_139 : zz_M := (⟨"RequestGateModel", "login", "(IIIZ)I"⟩, prog_14_method_29_code, 7, (some .int))
abbrev mm_140 : zz_M := (⟨"RequestGateModel", "isUser", "(I)Z"⟩, prog_14_method_22_code, 2, (some .boolean))
abbrev mm_141 : zz_M := (⟨"RequestGateModel", "sessionBy", "(I)I"⟩, prog_14_method_25_code, 4, (some .int))
abbrev mm_142 : zz_M := (⟨"RequestGateModel", "live", "(I)Z"⟩, prog_14_method_24_code, 2, (some .boolean))
abbrev mm_143 : zz_M := (⟨"RequestGateModel", "makeSession", "(IZ)I"⟩, prog_14_method_27_code, 7, (some .int))
abbrev mm_144 : zz_M := (⟨"RequestGateModel", "makeSeries", "(I)V"⟩, prog_14_method_28_code, 5, none)
abbrev mm_145 : zz_M := (⟨"RequestGateModel", "logout", "(I)Z"⟩, prog_14_method_31_code, 3, (some .boolean))
abbrev mm_146 : zz_M := (⟨"RequestGateModel", "endSeries", "(I)V"⟩, prog_14_method_30_code, 2, none)
abbrev mm_147 : zz_M := (⟨"RequestGateModel", "tick", "(I)Z"⟩, prog_14_method_32_code, 2, (some .boolean))
abbrev mm_148 : zz_M := (⟨"RequestGateModel", "service", "(III)I"⟩, prog_14_method_34_code, 4, (some .int))
abbrev mm_149 : zz_M := (⟨"RequestGateModel", "mayBe", "(II)Z"⟩, prog_14_method_33_code, 3, (some .boolean))
abbrev mm_150 : zz_M := (⟨"RequestGateModel", "declare", "(III)Z"⟩, prog_14_method_35_code, 5, (some .boolean))
abbrev mm_151 : zz_M := (⟨"RequestGateModel", "call", "(III)I"⟩, prog_14_method_37_code, 7, (some .int))
abbrev mm_152 : zz_M := (⟨"RequestGateModel", "guard", "(III)I"⟩, prog_14_method_36_code, 8, (some .int))
abbrev mm_153 : zz_M := (⟨"RequestGateModel", "valueOf", "(IIZI)I"⟩, prog_14_method_18_code, 9, (some .int))
abbrev mm_154 : zz_M := (⟨"RequestGateModel", "simple", "(IIZI)I"⟩, prog_14_method_17_code, 5, (some .int))
abbrev mm_155 : zz_M := (⟨"RequestGateModel", "truth", "(Z)I"⟩, prog_14_method_16_code, 1, (some .int))
abbrev mm_156 : zz_M := (⟨"RequestGateModel", "open", "(IIIII)I"⟩, prog_14_method_39_code, 9, (some .int))
abbrev mm_157 : zz_M := (⟨"RequestGateModel", "read", "()Z"⟩, prog_14_method_6_code, 10, (some .boolean))
abbrev mm_158 : zz_M := (⟨"RequestGateModel", "digit", "(I)I"⟩, prog_14_method_4_code, 1, (some .int))
abbrev mm_159 : zz_M := (⟨"RequestGateModel", "settle", "(I)Z"⟩, prog_14_method_8_code, 4, (some .boolean))
abbrev mm_160 : zz_M := (⟨"RequestGateModel", "dots", "(II)Z"⟩, prog_14_method_7_code, 5, (some .boolean))
abbrev mm_161 : zz_M := (⟨"RequestGateModel", "ask", "(III)I"⟩, prog_14_method_38_code, 6, (some .int))
abbrev mm_162 : zz_M := (⟨"RequestGateModel", "seriesBy", "(I)I"⟩, prog_14_method_26_code, 4, (some .int))
abbrev mm_163 : zz_M := (⟨"RequestGateModel", "ruleFits", "(I)Z"⟩, prog_14_method_11_code, 8, (some .boolean))
abbrev mm_164 : zz_M := (⟨"RequestGateModel", "pieceFits", "(III)Z"⟩, prog_14_method_10_code, 9, (some .boolean))
abbrev mm_165 : zz_M := (⟨"RequestGateModel", "close", "()Z"⟩, prog_14_method_40_code, 2, (some .boolean))
abbrev mm_166 : zz_M := (⟨"RequestGateModel", "who", "()I"⟩, prog_14_method_41_code, 1, (some .int))
abbrev mm_167 : zz_M := (⟨"RequestGateModel", "fits", "(I)I"⟩, prog_14_method_42_code, 2, (some .int))
abbrev mm_168 : zz_M := (⟨"RequestGateModel", "session", "(III)I"⟩, prog_14_method_43_code, 9, (some .int))
abbrev mm_169 : zz_M := (⟨"RequestGateModel", "series", "(III)I"⟩, prog_14_method_44_code, 9, (some .int))
abbrev mm_170 : zz_M := (⟨"RequestGateModel", "hash", "(I)I"⟩, prog_14_method_45_code, 2, (some .int))
abbrev mm_171 : zz_M := (⟨"RequestGateModel", "count", "(I)I"⟩, prog_14_method_46_code, 2, (some .int))
abbrev mm_law : zz_M := (⟨"RequestGateLaw", "law", "([I)Z"⟩, code, 4, some .boolean)
theorem ii_0 : zz_ii mm_0 0 := ⟨⟨zw_27, zw_1, ⟨by decide +kernel, by decide +kernel, by decide +kernel⟩, by decide⟩, zw_26, rfl, rfl⟩
-- 1 ['java/lang/Object', '<init>', '()V']: class not initialized by words
theorem ii_2 : zz_ii mm_2 0 := ⟨⟨zw_35, zw_2, ⟨by decide +kernel, by decide +kernel, by decide +kernel⟩, by decide⟩, zw_34, rfl, rfl⟩
theorem ii_3 : zz_ii mm_3 0 := ⟨⟨zw_51, zw_3, ⟨by decide +kernel, by decide +kernel, by decide +kernel⟩, by decide⟩, zw_50, rfl, rfl⟩
theorem ii_4 : zz_ii mm_4 0 := ⟨⟨zw_57, zw_4, ⟨by decide +kernel, by decide +kernel, by decide +kernel⟩, by decide⟩, zw_56, rfl, rfl⟩
theorem ii_5 : zz_ii mm_5 0 := ⟨⟨zw_91, zw_5, ⟨by decide +kernel, by decide +kernel, by decide +kernel⟩, by decide⟩, zw_90, rfl, rfl⟩
theorem ii_6 : zz_ii mm_6 0 := ⟨⟨zw_105, zw_6, ⟨by decide +kernel, by decide +kernel, by decide +kernel⟩, by decide⟩, zw_104, rfl, rfl⟩
theorem ii_7 : zz_ii mm_7 0 := ⟨⟨zw_127, zw_7, ⟨by decide +kernel, by decide +kernel, by decide +kernel⟩, by decide⟩, zw_126, rfl, rfl⟩
theorem ii_8 : zz_ii mm_8 0 := ⟨⟨zw_137, zw_10, ⟨by decide +kernel, by decide +kernel, by decide +kernel⟩, by decide⟩, zw_136, rfl, rfl⟩
theorem ii_9 : zz_ii mm_9 0 := ⟨⟨zw_140, zw_9, ⟨by decide +kernel, by decide +kernel, by decide +kernel⟩, by decide⟩, zw_139, rfl, rfl⟩
theorem ii_10 : zz_ii mm_10 0 := ⟨⟨zw_143, zw_8, ⟨by decide +kernel, by decide +kernel, by decide +kernel⟩, by decide⟩, zw_142, rfl, rfl⟩
theorem ii_11 : zz_ii mm_11 0 := ⟨⟨zw_163, zw_11, ⟨by decide +kernel, by decide +kernel, by decide +kernel⟩, by decide⟩, zw_162, rfl, rfl⟩
theorem iv_12 : zz_iv mm_12 1 := ⟨⟨zw_232, zw_1, ⟨by decide +kernel, by decide +kernel, by decide +kernel⟩, by decide⟩, zw_230, zw_231⟩
theorem iv_13 : zz_iv mm_13 1 := ⟨⟨zw_236, zw_2, ⟨by decide +kernel, by decide +kernel, by decide +kernel⟩, by decide⟩, zw_234, zw_235⟩
theorem is_14 : zz_is mm_14 1 := ⟨⟨zw_239, zw_2, ⟨by decide +kernel, by decide +kernel, by decide +kernel⟩, by decide⟩, zw_238⟩
theorem iv_15 : zz_iv mm_15 0 := ⟨⟨zw_243, zw_1, ⟨by decide +kernel, by decide +kernel, by decide +kernel⟩, by decide⟩, zw_241, zw_242⟩
theorem iv_16 : zz_iv mm_16 0 := ⟨⟨zw_247, zw_2, ⟨by decide +kernel, by decide +kernel, by decide +kernel⟩, by decide⟩, zw_245, zw_246⟩
theorem iv_17 : zz_iv mm_17 3 := ⟨⟨zw_251, zw_1, ⟨by decide +kernel, by decide +kernel, by decide +kernel⟩, by decide⟩, zw_249, zw_250⟩
theorem iv_18 : zz_iv mm_18 3 := ⟨⟨zw_255, zw_6, ⟨by decide +kernel, by decide +kernel, by decide +kernel⟩, by decide⟩, zw_253, zw_254⟩
theorem iv_19 : zz_iv mm_19 3 := ⟨⟨zw_259, zw_6, ⟨by decide +kernel, by decide +kernel, by decide +kernel⟩, by decide⟩, zw_258, zz_inp (n := 5) (by decide +kernel)⟩
theorem is_20 : zz_is mm_20 1 := ⟨⟨zw_262, zw_7, ⟨by decide +kernel, by decide +kernel, by decide +kernel⟩, by decide⟩, zw_261⟩
theorem iv_21 : zz_iv mm_21 1 := ⟨⟨zw_266, zw_6, ⟨by decide +kernel, by decide +kernel, by decide +kernel⟩, by decide⟩, zw_264, zw_265⟩
theorem iv_22 : zz_iv mm_22 2 := ⟨⟨zw_270, zw_1, ⟨by decide +kernel, by decide +kernel, by decide +kernel⟩, by decide⟩, zw_268, zw_269⟩
theorem iv_23 : zz_iv mm_23 0 := ⟨⟨zw_274, zw_10, ⟨by decide +kernel, by decide +kernel, by decide +kernel⟩, by decide⟩, zw_272, zw_273⟩
theorem is_24 : zz_is mm_24 1 := ⟨⟨zw_278, zw_13, ⟨by decide +kernel, by decide +kernel, by decide +kernel⟩, by decide⟩, zw_277⟩
theorem iv_25 : zz_iv mm_25 1 := ⟨⟨zw_282, zw_2, ⟨by decide +kernel, by decide +kernel, by decide +kernel⟩, by decide⟩, zw_280, zw_281⟩
theorem iv_26 : zz_iv mm_26 1 := ⟨⟨zw_286, zw_2, ⟨by decide +kernel, by decide +kernel, by decide +kernel⟩, by decide⟩, zw_284, zw_285⟩
theorem iv_27 : zz_iv mm_27 3 := ⟨⟨zw_290, zw_2, ⟨by decide +kernel, by decide +kernel, by decide +kernel⟩, by decide⟩, zw_288, zw_289⟩
theorem iv_28 : zz_iv mm_28 1 := ⟨⟨zw_295, zw_2, ⟨by decide +kernel, by decide +kernel, by decide +kernel⟩, by decide⟩, zw_293, zw_294⟩
theorem is_29 : zz_is mm_29 3 := ⟨⟨zw_298, zw_13, ⟨by decide +kernel, by decide +kernel, by decide +kernel⟩, by decide⟩, zw_297⟩
theorem ii_30 : zz_ii mm_30 3 := ⟨⟨zw_303, zw_13, ⟨by decide +kernel, by decide +kernel, by decide +kernel⟩, by decide⟩, zw_302, rfl, rfl⟩
theorem iv_31 : zz_iv mm_31 1 := ⟨⟨zw_310, zw_4, ⟨by decide +kernel, by decide +kernel, by decide +kernel⟩, by decide⟩, zw_308, zw_309⟩
theorem iv_32 : zz_iv mm_32 0 := ⟨⟨zw_314, zw_4, ⟨by decide +kernel, by decide +kernel, by decide +kernel⟩, by decide⟩, zw_312, zw_313⟩
theorem iv_33 : zz_iv mm_33 1 := ⟨⟨zw_330, zw_10, ⟨by decide +kernel, by decide +kernel, by decide +kernel⟩, by decide⟩, zw_328, zw_329⟩
theorem iv_34 : zz_iv mm_34 3 := ⟨⟨zw_334, zw_10, ⟨by decide +kernel, by decide +kernel, by decide +kernel⟩, by decide⟩, zw_333, zz_inp (n := 3) (by decide +kernel)⟩
theorem iv_35 : zz_iv mm_35 0 := ⟨⟨zw_338, zw_10, ⟨by decide +kernel, by decide +kernel, by decide +kernel⟩, by decide⟩, zw_337, zz_inp (n := 3) (by decide +kernel)⟩
theorem iv_36 : zz_iv mm_36 1 := ⟨⟨zw_342, zw_10, ⟨by decide +kernel, by decide +kernel, by decide +kernel⟩, by decide⟩, zw_341, zz_inp (n := 3) (by decide +kernel)⟩
theorem is_37 : zz_is mm_37 3 := ⟨⟨zw_345, zw_14, ⟨by decide +kernel, by decide +kernel, by decide +kernel⟩, by decide⟩, zw_344⟩
theorem is_38 : zz_is mm_38 2 := ⟨⟨zw_348, zw_15, ⟨by decide +kernel, by decide +kernel, by decide +kernel⟩, by decide⟩, zw_347⟩
theorem is_39 : zz_is mm_39 2 := ⟨⟨zw_352, zw_14, ⟨by decide +kernel, by decide +kernel, by decide +kernel⟩, by decide⟩, zw_351⟩
theorem is_40 : zz_is mm_40 2 := ⟨⟨zw_355, zw_16, ⟨by decide +kernel, by decide +kernel, by decide +kernel⟩, by decide⟩, zw_354⟩
theorem is_41 : zz_is mm_41 3 := ⟨⟨zw_376, zw_16, ⟨by decide +kernel, by decide +kernel, by decide +kernel⟩, by decide⟩, zw_375⟩
theorem is_42 : zz_is mm_42 2 := ⟨⟨zw_382, zw_15, ⟨by decide +kernel, by decide +kernel, by decide +kernel⟩, by decide⟩, zw_381⟩
theorem iv_43 : zz_iv mm_43 2 := ⟨⟨zw_391, zw_1, ⟨by decide +kernel, by decide +kernel, by decide +kernel⟩, by decide⟩, zw_389, zw_390⟩
theorem iv_44 : zz_iv mm_44 2 := ⟨⟨zw_395, zw_7, ⟨by decide +kernel, by decide +kernel, by decide +kernel⟩, by decide⟩, zw_393, zw_394⟩
theorem is_45 : zz_is mm_45 2 := ⟨⟨zw_399, zw_7, ⟨by decide +kernel, by decide +kernel, by decide +kernel⟩, by decide⟩, zw_398⟩
theorem iv_46 : zz_iv mm_46 3 := ⟨⟨zw_403, zw_1, ⟨by decide +kernel, by decide +kernel, by decide +kernel⟩, by decide⟩, zw_401, zw_402⟩
theorem iv_47 : zz_iv mm_47 0 := ⟨⟨zw_409, zw_1, ⟨by decide +kernel, by decide +kernel, by decide +kernel⟩, by decide⟩, zw_408, zz_inp (n := 19) (by decide +kernel)⟩
theorem ii_48 : zz_ii mm_48 4 := ⟨⟨zw_412, zw_18, ⟨by decide +kernel, by decide +kernel, by decide +kernel⟩, by decide⟩, zw_411, rfl, rfl⟩
theorem is_49 : zz_is mm_49 3 := ⟨⟨zw_416, zw_18, ⟨by decide +kernel, by decide +kernel, by decide +kernel⟩, by decide⟩, zw_415⟩
theorem iv_50 : zz_iv mm_50 3 := ⟨⟨zw_441, zw_1, ⟨by decide +kernel, by decide +kernel, by decide +kernel⟩, by decide⟩, zw_439, zw_440⟩
theorem iv_51 : zz_iv mm_51 1 := ⟨⟨zw_445, zw_1, ⟨by decide +kernel, by decide +kernel, by decide +kernel⟩, by decide⟩, zw_444, zz_inp (n := 19) (by decide +kernel)⟩
theorem iv_52 : zz_iv mm_52 1 := ⟨⟨zw_449, zw_1, ⟨by decide +kernel, by decide +kernel, by decide +kernel⟩, by decide⟩, zw_448, zz_inp (n := 19) (by decide +kernel)⟩
theorem iv_53 : zz_iv mm_53 1 := ⟨⟨zw_453, zw_1, ⟨by decide +kernel, by decide +kernel, by decide +kernel⟩, by decide⟩, zw_452, zz_inp (n := 19) (by decide +kernel)⟩
theorem ii_54 : zz_ii mm_54 3 := ⟨⟨zw_458, zw_19, ⟨by decide +kernel, by decide +kernel, by decide +kernel⟩, by decide⟩, zw_457, rfl, rfl⟩
theorem iv_55 : zz_iv mm_55 3 := ⟨⟨zw_481, zw_1, ⟨by decide +kernel, by decide +kernel, by decide +kernel⟩, by decide⟩, zw_479, zw_480⟩
theorem is_56 : zz_is mm_56 1 := ⟨⟨zw_484, zw_1, ⟨by decide +kernel, by decide +kernel, by decide +kernel⟩, by decide⟩, zw_483⟩
theorem iv_57 : zz_iv mm_57 1 := ⟨⟨zw_488, zw_10, ⟨by decide +kernel, by decide +kernel, by decide +kernel⟩, by decide⟩, zw_486, zw_487⟩
theorem is_58 : zz_is mm_58 2 := ⟨⟨zw_491, zw_20, ⟨by decide +kernel, by decide +kernel, by decide +kernel⟩, by decide⟩, zw_490⟩
theorem is_59 : zz_is mm_59 3 := ⟨⟨zw_494, zw_21, ⟨by decide +kernel, by decide +kernel, by decide +kernel⟩, by decide⟩, zw_493⟩
theorem iv_60 : zz_iv mm_60 1 := ⟨⟨zw_498, zw_10, ⟨by decide +kernel, by decide +kernel, by decide +kernel⟩, by decide⟩, zw_496, zw_497⟩
theorem iv_61 : zz_iv mm_61 2 := ⟨⟨zw_502, zw_19, ⟨by decide +kernel, by decide +kernel, by decide +kernel⟩, by decide⟩, zw_500, zw_501⟩
theorem iv_62 : zz_iv mm_62 1 := ⟨⟨zw_507, zw_1, ⟨by decide +kernel, by decide +kernel, by decide +kernel⟩, by decide⟩, zw_505, zw_506⟩
theorem iv_63 : zz_iv mm_63 1 := ⟨⟨zw_511, zw_11, ⟨by decide +kernel, by decide +kernel, by decide +kernel⟩, by decide⟩, zw_509, zw_510⟩
theorem iv_64 : zz_iv mm_64 1 := ⟨⟨zw_518, zw_22, ⟨by decide +kernel, by decide +kernel, by decide +kernel⟩, by decide⟩, zw_516, zw_517⟩
theorem iv_65 : zz_iv mm_65 1 := ⟨⟨zw_522, zw_10, ⟨by decide +kernel, by decide +kernel, by decide +kernel⟩, by decide⟩, zw_520, zw_521⟩
theorem iv_66 : zz_iv mm_66 2 := ⟨⟨zw_526, zw_10, ⟨by decide +kernel, by decide +kernel, by decide +kernel⟩, by decide⟩, zw_525, zz_inp (n := 3) (by decide +kernel)⟩
theorem iv_67 : zz_iv mm_67 4 := ⟨⟨zw_531, zw_1, ⟨by decide +kernel, by decide +kernel, by decide +kernel⟩, by decide⟩, zw_529, zw_530⟩
theorem iv_68 : zz_iv mm_68 1 := ⟨⟨zw_535, zw_1, ⟨by decide +kernel, by decide +kernel, by decide +kernel⟩, by decide⟩, zw_534, zz_inp (n := 19) (by decide +kernel)⟩
theorem iv_69 : zz_iv mm_69 1 := ⟨⟨zw_539, zw_18, ⟨by decide +kernel, by decide +kernel, by decide +kernel⟩, by decide⟩, zw_537, zw_538⟩
theorem iv_70 : zz_iv mm_70 1 := ⟨⟨zw_543, zw_18, ⟨by decide +kernel, by decide +kernel, by decide +kernel⟩, by decide⟩, zw_541, zw_542⟩
theorem iv_71 : zz_iv mm_71 1 := ⟨⟨zw_547, zw_18, ⟨by decide +kernel, by decide +kernel, by decide +kernel⟩, by decide⟩, zw_545, zw_546⟩
theorem iv_72 : zz_iv mm_72 0 := ⟨⟨zw_551, zw_18, ⟨by decide +kernel, by decide +kernel, by decide +kernel⟩, by decide⟩, zw_549, zw_550⟩
theorem iv_73 : zz_iv mm_73 0 := ⟨⟨zw_556, zw_18, ⟨by decide +kernel, by decide +kernel, by decide +kernel⟩, by decide⟩, zw_554, zw_555⟩
theorem iv_74 : zz_iv mm_74 2 := ⟨⟨zw_560, zw_18, ⟨by decide +kernel, by decide +kernel, by decide +kernel⟩, by decide⟩, zw_558, zw_559⟩
theorem iv_75 : zz_iv mm_75 1 := ⟨⟨zw_564, zw_11, ⟨by decide +kernel, by decide +kernel, by decide +kernel⟩, by decide⟩, zw_562, zw_563⟩
theorem iv_76 : zz_iv mm_76 3 := ⟨⟨zw_568, zw_1, ⟨by decide +kernel, by decide +kernel, by decide +kernel⟩, by decide⟩, zw_567, zz_inp (n := 19) (by decide +kernel)⟩
theorem ii_77 : zz_ii mm_77 5 := ⟨⟨zw_573, zw_22, ⟨by decide +kernel, by decide +kernel, by decide +kernel⟩, by decide⟩, zw_572, rfl, rfl⟩
theorem iv_78 : zz_iv mm_78 1 := ⟨⟨zw_605, zw_11, ⟨by decide +kernel, by decide +kernel, by decide +kernel⟩, by decide⟩, zw_603, zw_604⟩
theorem iv_79 : zz_iv mm_79 2 := ⟨⟨zw_609, zw_11, ⟨by decide +kernel, by decide +kernel, by decide +kernel⟩, by decide⟩, zw_607, zw_608⟩
theorem iv_80 : zz_iv mm_80 1 := ⟨⟨zw_615, zw_1, ⟨by decide +kernel, by decide +kernel, by decide +kernel⟩, by decide⟩, zw_613, zw_614⟩
theorem iv_81 : zz_iv mm_81 1 := ⟨⟨zw_619, zw_11, ⟨by decide +kernel, by decide +kernel, by decide +kernel⟩, by decide⟩, zw_617, zw_618⟩
theorem iv_82 : zz_iv mm_82 1 := ⟨⟨zw_623, zw_11, ⟨by decide +kernel, by decide +kernel, by decide +kernel⟩, by decide⟩, zw_621, zw_622⟩
theorem iv_83 : zz_iv mm_83 5 := ⟨⟨zw_627, zw_1, ⟨by decide +kernel, by decide +kernel, by decide +kernel⟩, by decide⟩, zw_625, zw_626⟩
theorem iv_84 : zz_iv mm_84 1 := ⟨⟨zw_631, zw_3, ⟨by decide +kernel, by decide +kernel, by decide +kernel⟩, by decide⟩, zw_629, zw_630⟩
theorem iv_85 : zz_iv mm_85 0 := ⟨⟨zw_635, zw_4, ⟨by decide +kernel, by decide +kernel, by decide +kernel⟩, by decide⟩, zw_633, zw_634⟩
theorem iv_86 : zz_iv mm_86 3 := ⟨⟨zw_643, zw_3, ⟨by decide +kernel, by decide +kernel, by decide +kernel⟩, by decide⟩, zw_642, zz_inp (n := 1) (by decide +kernel)⟩
theorem is_87 : zz_is mm_87 2 := ⟨⟨zw_646, zw_3, ⟨by decide +kernel, by decide +kernel, by decide +kernel⟩, by decide⟩, zw_645⟩
theorem is_88 : zz_is mm_88 1 := ⟨⟨zw_649, zw_3, ⟨by decide +kernel, by decide +kernel, by decide +kernel⟩, by decide⟩, zw_648⟩
theorem iv_89 : zz_iv mm_89 1 := ⟨⟨zw_655, zw_3, ⟨by decide +kernel, by decide +kernel, by decide +kernel⟩, by decide⟩, zw_654, zz_inp (n := 1) (by decide +kernel)⟩
theorem iv_90 : zz_iv mm_90 0 := ⟨⟨zw_659, zw_4, ⟨by decide +kernel, by decide +kernel, by decide +kernel⟩, by decide⟩, zw_657, zw_658⟩
theorem iv_91 : zz_iv mm_91 1 := ⟨⟨zw_663, zw_4, ⟨by decide +kernel, by decide +kernel, by decide +kernel⟩, by decide⟩, zw_661, zw_662⟩
theorem iv_92 : zz_iv mm_92 0 := ⟨⟨zw_668, zw_4, ⟨by decide +kernel, by decide +kernel, by decide +kernel⟩, by decide⟩, zw_666, zw_667⟩
theorem iv_93 : zz_iv mm_93 0 := ⟨⟨zw_672, zw_4, ⟨by decide +kernel, by decide +kernel, by decide +kernel⟩, by decide⟩, zw_670, zw_671⟩
theorem iv_94 : zz_iv mm_94 1 := ⟨⟨zw_677, zw_1, ⟨by decide +kernel, by decide +kernel, by decide +kernel⟩, by decide⟩, zw_676, zz_inp (n := 19) (by decide +kernel)⟩
theorem iv_95 : zz_iv mm_95 2 := ⟨⟨zw_681, zw_1, ⟨by decide +kernel, by decide +kernel, by decide +kernel⟩, by decide⟩, zw_680, zz_inp (n := 19) (by decide +kernel)⟩
theorem iv_96 : zz_iv mm_96 2 := ⟨⟨zw_685, zw_1, ⟨by decide +kernel, by decide +kernel, by decide +kernel⟩, by decide⟩, zw_684, zz_inp (n := 19) (by decide +kernel)⟩
theorem iv_97 : zz_iv mm_97 1 := ⟨⟨zw_689, zw_1, ⟨by decide +kernel, by decide +kernel, by decide +kernel⟩, by decide⟩, zw_688, zz_inp (n := 19) (by decide +kernel)⟩
theorem iv_98 : zz_iv mm_98 1 := ⟨⟨zw_693, zw_13, ⟨by decide +kernel, by decide +kernel, by decide +kernel⟩, by decide⟩, zw_691, zw_692⟩
theorem iv_99 : zz_iv mm_99 2 := ⟨⟨zw_697, zw_5, ⟨by decide +kernel, by decide +kernel, by decide +kernel⟩, by decide⟩, zw_695, zw_696⟩
theorem is_100 : zz_is mm_100 1 := ⟨⟨zw_700, zw_5, ⟨by decide +kernel, by decide +kernel, by decide +kernel⟩, by decide⟩, zw_699⟩
theorem iv_101 : zz_iv mm_101 1 := ⟨⟨zw_704, zw_4, ⟨by decide +kernel, by decide +kernel, by decide +kernel⟩, by decide⟩, zw_702, zw_703⟩
theorem iv_102 : zz_iv mm_102 1 := ⟨⟨zw_708, zw_4, ⟨by decide +kernel, by decide +kernel, by decide +kernel⟩, by decide⟩, zw_706, zw_707⟩
theorem iv_103 : zz_iv mm_103 2 := ⟨⟨zw_712, zw_4, ⟨by decide +kernel, by decide +kernel, by decide +kernel⟩, by decide⟩, zw_710, zw_711⟩
theorem is_104 : zz_is mm_104 1 := ⟨⟨zw_715, zw_5, ⟨by decide +kernel, by decide +kernel, by decide +kernel⟩, by decide⟩, zw_714⟩
theorem iv_105 : zz_iv mm_105 3 := ⟨⟨zw_719, zw_5, ⟨by decide +kernel, by decide +kernel, by decide +kernel⟩, by decide⟩, zw_718, zz_inp (n := 2) (by decide +kernel)⟩
theorem iv_106 : zz_iv mm_106 4 := ⟨⟨zw_723, zw_5, ⟨by decide +kernel, by decide +kernel, by decide +kernel⟩, by decide⟩, zw_722, zz_inp (n := 2) (by decide +kernel)⟩
theorem iv_107 : zz_iv mm_107 3 := ⟨⟨zw_729, zw_1, ⟨by decide +kernel, by decide +kernel, by decide +kernel⟩, by decide⟩, zw_728, zz_inp (n := 19) (by decide +kernel)⟩
theorem iv_108 : zz_iv mm_108 1 := ⟨⟨zw_733, zw_7, ⟨by decide +kernel, by decide +kernel, by decide +kernel⟩, by decide⟩, zw_731, zw_732⟩
theorem iv_109 : zz_iv mm_109 4 := ⟨⟨zw_737, zw_6, ⟨by decide +kernel, by decide +kernel, by decide +kernel⟩, by decide⟩, zw_735, zw_736⟩
theorem iv_110 : zz_iv mm_110 1 := ⟨⟨zw_741, zw_6, ⟨by decide +kernel, by decide +kernel, by decide +kernel⟩, by decide⟩, zw_740, zz_inp (n := 5) (by decide +kernel)⟩
theorem is_111 : zz_is mm_111 1 := ⟨⟨zw_744, zw_6, ⟨by decide +kernel, by decide +kernel, by decide +kernel⟩, by decide⟩, zw_743⟩
theorem iv_112 : zz_iv mm_112 4 := ⟨⟨zw_748, zw_6, ⟨by decide +kernel, by decide +kernel, by decide +kernel⟩, by decide⟩, zw_747, zz_inp (n := 5) (by decide +kernel)⟩
theorem iv_113 : zz_iv mm_113 3 := ⟨⟨zw_753, zw_1, ⟨by decide +kernel, by decide +kernel, by decide +kernel⟩, by decide⟩, zw_751, zw_752⟩
theorem iv_114 : zz_iv mm_114 2 := ⟨⟨zw_757, zw_1, ⟨by decide +kernel, by decide +kernel, by decide +kernel⟩, by decide⟩, zw_756, zz_inp (n := 19) (by decide +kernel)⟩
theorem iv_115 : zz_iv mm_115 1 := ⟨⟨zw_761, zw_19, ⟨by decide +kernel, by decide +kernel, by decide +kernel⟩, by decide⟩, zw_759, zw_760⟩
theorem iv_116 : zz_iv mm_116 2 := ⟨⟨zw_765, zw_1, ⟨by decide +kernel, by decide +kernel, by decide +kernel⟩, by decide⟩, zw_764, zz_inp (n := 19) (by decide +kernel)⟩
theorem iv_117 : zz_iv mm_117 1 := ⟨⟨zw_769, zw_19, ⟨by decide +kernel, by decide +kernel, by decide +kernel⟩, by decide⟩, zw_767, zw_768⟩
theorem iv_118 : zz_iv mm_118 2 := ⟨⟨zw_774, zw_1, ⟨by decide +kernel, by decide +kernel, by decide +kernel⟩, by decide⟩, zw_773, zz_inp (n := 19) (by decide +kernel)⟩
theorem iv_119 : zz_iv mm_119 0 := ⟨⟨zw_778, zw_1, ⟨by decide +kernel, by decide +kernel, by decide +kernel⟩, by decide⟩, zw_776, zw_777⟩
theorem iv_120 : zz_iv mm_120 0 := ⟨⟨zw_782, zw_1, ⟨by decide +kernel, by decide +kernel, by decide +kernel⟩, by decide⟩, zw_780, zw_781⟩
theorem iv_121 : zz_iv mm_121 1 := ⟨⟨zw_786, zw_1, ⟨by decide +kernel, by decide +kernel, by decide +kernel⟩, by decide⟩, zw_784, zw_785⟩
theorem iv_122 : zz_iv mm_122 3 := ⟨⟨zw_790, zw_1, ⟨by decide +kernel, by decide +kernel, by decide +kernel⟩, by decide⟩, zw_788, zw_789⟩
theorem iv_123 : zz_iv mm_123 3 := ⟨⟨zw_795, zw_1, ⟨by decide +kernel, by decide +kernel, by decide +kernel⟩, by decide⟩, zw_793, zw_794⟩
theorem iv_124 : zz_iv mm_124 1 := ⟨⟨zw_799, zw_1, ⟨by decide +kernel, by decide +kernel, by decide +kernel⟩, by decide⟩, zw_797, zw_798⟩
theorem iv_125 : zz_iv mm_125 1 := ⟨⟨zw_803, zw_1, ⟨by decide +kernel, by decide +kernel, by decide +kernel⟩, by decide⟩, zw_801, zw_802⟩
theorem ii_126 : zz_ii mm_126 0 := ⟨⟨zw_808, zw_12, ⟨by decide +kernel, by decide +kernel, by decide +kernel⟩, by decide⟩, zw_807, rfl, rfl⟩
theorem iv_127 : zz_iv mm_127 1 := ⟨⟨zw_982, zw_12, ⟨by decide +kernel, by decide +kernel, by decide +kernel⟩, by decide⟩, zw_980, zw_981⟩
theorem iv_128 : zz_iv mm_128 0 := ⟨⟨zw_986, zw_12, ⟨by decide +kernel, by decide +kernel, by decide +kernel⟩, by decide⟩, zw_984, zw_985⟩
theorem iv_129 : zz_iv mm_129 3 := ⟨⟨zw_990, zw_12, ⟨by decide +kernel, by decide +kernel, by decide +kernel⟩, by decide⟩, zw_988, zw_989⟩
theorem iv_130 : zz_iv mm_130 1 := ⟨⟨zw_994, zw_12, ⟨by decide +kernel, by decide +kernel, by decide +kernel⟩, by decide⟩, zw_993, zz_inp (n := 56) (by decide +kernel)⟩
theorem iv_131 : zz_iv mm_131 2 := ⟨⟨zw_998, zw_12, ⟨by decide +kernel, by decide +kernel, by decide +kernel⟩, by decide⟩, zw_996, zw_997⟩
theorem iv_132 : zz_iv mm_132 1 := ⟨⟨zw_1002, zw_12, ⟨by decide +kernel, by decide +kernel, by decide +kernel⟩, by decide⟩, zw_1001, zz_inp (n := 56) (by decide +kernel)⟩
theorem iv_133 : zz_iv mm_133 2 := ⟨⟨zw_1006, zw_12, ⟨by decide +kernel, by decide +kernel, by decide +kernel⟩, by decide⟩, zw_1004, zw_1005⟩
theorem iv_134 : zz_iv mm_134 0 := ⟨⟨zw_1010, zw_12, ⟨by decide +kernel, by decide +kernel, by decide +kernel⟩, by decide⟩, zw_1009, zz_inp (n := 56) (by decide +kernel)⟩
theorem is_135 : zz_is mm_135 1 := ⟨⟨zw_1013, zw_12, ⟨by decide +kernel, by decide +kernel, by decide +kernel⟩, by decide⟩, zw_1012⟩
theorem iv_136 : zz_iv mm_136 3 := ⟨⟨zw_1017, zw_12, ⟨by decide +kernel, by decide +kernel, by decide +kernel⟩, by decide⟩, zw_1015, zw_1016⟩
theorem iv_137 : zz_iv mm_137 0 := ⟨⟨zw_1021, zw_12, ⟨by decide +kernel, by decide +kernel, by decide +kernel⟩, by decide⟩, zw_1020, zz_inp (n := 56) (by decide +kernel)⟩
theorem is_138 : zz_is mm_138 3 := ⟨⟨zw_1024, zw_12, ⟨by decide +kernel, by decide +kernel, by decide +kernel⟩, by decide⟩, zw_1023⟩
theorem iv_139 : zz_iv mm_139 4 := ⟨⟨zw_1028, zw_12, ⟨by decide +kernel, by decide +kernel, by decide +kernel⟩, by decide⟩, zw_1026, zw_1027⟩
theorem iv_140 : zz_iv mm_140 1 := ⟨⟨zw_1032, zw_12, ⟨by decide +kernel, by decide +kernel, by decide +kernel⟩, by decide⟩, zw_1031, zz_inp (n := 56) (by decide +kernel)⟩
theorem iv_141 : zz_iv mm_141 1 := ⟨⟨zw_1036, zw_12, ⟨by decide +kernel, by decide +kernel, by decide +kernel⟩, by decide⟩, zw_1035, zz_inp (n := 56) (by decide +kernel)⟩
theorem iv_142 : zz_iv mm_142 1 := ⟨⟨zw_1040, zw_12, ⟨by decide +kernel, by decide +kernel, by decide +kernel⟩, by decide⟩, zw_1039, zz_inp (n := 56) (by decide +kernel)⟩
theorem iv_143 : zz_iv mm_143 2 := ⟨⟨zw_1044, zw_12, ⟨by decide +kernel, by decide +kernel, by decide +kernel⟩, by decide⟩, zw_1043, zz_inp (n := 56) (by decide +kernel)⟩
theorem iv_144 : zz_iv mm_144 1 := ⟨⟨zw_1048, zw_12, ⟨by decide +kernel, by decide +kernel, by decide +kernel⟩, by decide⟩, zw_1047, zz_inp (n := 56) (by decide +kernel)⟩
theorem iv_145 : zz_iv mm_145 1 := ⟨⟨zw_1052, zw_12, ⟨by decide +kernel, by decide +kernel, by decide +kernel⟩, by decide⟩, zw_1050, zw_1051⟩
theorem iv_146 : zz_iv mm_146 1 := ⟨⟨zw_1056, zw_12, ⟨by decide +kernel, by decide +kernel, by decide +kernel⟩, by decide⟩, zw_1055, zz_inp (n := 56) (by decide +kernel)⟩
theorem iv_147 : zz_iv mm_147 1 := ⟨⟨zw_1060, zw_12, ⟨by decide +kernel, by decide +kernel, by decide +kernel⟩, by decide⟩, zw_1058, zw_1059⟩
theorem iv_148 : zz_iv mm_148 3 := ⟨⟨zw_1064, zw_12, ⟨by decide +kernel, by decide +kernel, by decide +kernel⟩, by decide⟩, zw_1062, zw_1063⟩
theorem iv_149 : zz_iv mm_149 2 := ⟨⟨zw_1068, zw_12, ⟨by decide +kernel, by decide +kernel, by decide +kernel⟩, by decide⟩, zw_1067, zz_inp (n := 56) (by decide +kernel)⟩
theorem iv_150 : zz_iv mm_150 3 := ⟨⟨zw_1072, zw_12, ⟨by decide +kernel, by decide +kernel, by decide +kernel⟩, by decide⟩, zw_1070, zw_1071⟩
theorem iv_151 : zz_iv mm_151 3 := ⟨⟨zw_1076, zw_12, ⟨by decide +kernel, by decide +kernel, by decide +kernel⟩, by decide⟩, zw_1074, zw_1075⟩
theorem iv_152 : zz_iv mm_152 3 := ⟨⟨zw_1080, zw_12, ⟨by decide +kernel, by decide +kernel, by decide +kernel⟩, by decide⟩, zw_1079, zz_inp (n := 56) (by decide +kernel)⟩
theorem iv_153 : zz_iv mm_153 4 := ⟨⟨zw_1084, zw_12, ⟨by decide +kernel, by decide +kernel, by decide +kernel⟩, by decide⟩, zw_1083, zz_inp (n := 56) (by decide +kernel)⟩
theorem iv_154 : zz_iv mm_154 4 := ⟨⟨zw_1088, zw_12, ⟨by decide +kernel, by decide +kernel, by decide +kernel⟩, by decide⟩, zw_1087, zz_inp (n := 56) (by decide +kernel)⟩
theorem is_155 : zz_is mm_155 1 := ⟨⟨zw_1091, zw_12, ⟨by decide +kernel, by decide +kernel, by decide +kernel⟩, by decide⟩, zw_1090⟩
theorem iv_156 : zz_iv mm_156 5 := ⟨⟨zw_1095, zw_12, ⟨by decide +kernel, by decide +kernel, by decide +kernel⟩, by decide⟩, zw_1093, zw_1094⟩
theorem iv_157 : zz_iv mm_157 0 := ⟨⟨zw_1099, zw_12, ⟨by decide +kernel, by decide +kernel, by decide +kernel⟩, by decide⟩, zw_1098, zz_inp (n := 56) (by decide +kernel)⟩
theorem is_158 : zz_is mm_158 1 := ⟨⟨zw_1102, zw_12, ⟨by decide +kernel, by decide +kernel, by decide +kernel⟩, by decide⟩, zw_1101⟩
theorem iv_159 : zz_iv mm_159 1 := ⟨⟨zw_1106, zw_12, ⟨by decide +kernel, by decide +kernel, by decide +kernel⟩, by decide⟩, zw_1105, zz_inp (n := 56) (by decide +kernel)⟩
theorem iv_160 : zz_iv mm_160 2 := ⟨⟨zw_1110, zw_12, ⟨by decide +kernel, by decide +kernel, by decide +kernel⟩, by decide⟩, zw_1109, zz_inp (n := 56) (by decide +kernel)⟩
theorem iv_161 : zz_iv mm_161 3 := ⟨⟨zw_1114, zw_12, ⟨by decide +kernel, by decide +kernel, by decide +kernel⟩, by decide⟩, zw_1113, zz_inp (n := 56) (by decide +kernel)⟩
theorem iv_162 : zz_iv mm_162 1 := ⟨⟨zw_1118, zw_12, ⟨by decide +kernel, by decide +kernel, by decide +kernel⟩, by decide⟩, zw_1117, zz_inp (n := 56) (by decide +kernel)⟩
theorem iv_163 : zz_iv mm_163 1 := ⟨⟨zw_1122, zw_12, ⟨by decide +kernel, by decide +kernel, by decide +kernel⟩, by decide⟩, zw_1121, zz_inp (n := 56) (by decide +kernel)⟩
theorem iv_164 : zz_iv mm_164 3 := ⟨⟨zw_1126, zw_12, ⟨by decide +kernel, by decide +kernel, by decide +kernel⟩, by decide⟩, zw_1125, zz_inp (n := 56) (by decide +kernel)⟩
theorem iv_165 : zz_iv mm_165 0 := ⟨⟨zw_1130, zw_12, ⟨by decide +kernel, by decide +kernel, by decide +kernel⟩, by decide⟩, zw_1128, zw_1129⟩
theorem iv_166 : zz_iv mm_166 0 := ⟨⟨zw_1134, zw_12, ⟨by decide +kernel, by decide +kernel, by decide +kernel⟩, by decide⟩, zw_1132, zw_1133⟩
theorem iv_167 : zz_iv mm_167 1 := ⟨⟨zw_1138, zw_12, ⟨by decide +kernel, by decide +kernel, by decide +kernel⟩, by decide⟩, zw_1136, zw_1137⟩
theorem iv_168 : zz_iv mm_168 3 := ⟨⟨zw_1142, zw_12, ⟨by decide +kernel, by decide +kernel, by decide +kernel⟩, by decide⟩, zw_1140, zw_1141⟩
theorem iv_169 : zz_iv mm_169 3 := ⟨⟨zw_1146, zw_12, ⟨by decide +kernel, by decide +kernel, by decide +kernel⟩, by decide⟩, zw_1144, zw_1145⟩
theorem iv_170 : zz_iv mm_170 1 := ⟨⟨zw_1150, zw_12, ⟨by decide +kernel, by decide +kernel, by decide +kernel⟩, by decide⟩, zw_1148, zw_1149⟩
theorem iv_171 : zz_iv mm_171 1 := ⟨⟨zw_1154, zw_12, ⟨by decide +kernel, by decide +kernel, by decide +kernel⟩, by decide⟩, zw_1152, zw_1153⟩
theorem zo_i : Cond.instanceMethod Lib.objectInit ∈ zz_ws := zw_29
theorem zo_c : Cond.code Lib.objectInit ⟨#[0xb1]⟩ 1 none ∈ zz_ws := zw_30
theorem zw_ac_int : Cond.arrayClass .int ∈ zz_ws := zw_81
theorem zw_ac_char : Cond.arrayClass .char ∈ zz_ws := zw_46
theorem zw_ac_boolean : Cond.arrayClass .boolean ∈ zz_ws := zw_100
theorem ml_RequestGateLaw_9 : zz_ml "RequestGateLaw" 9 ⟨"RequestGate", "<init>", "()V"⟩ := Or.inl zw_25
theorem ml_0_3 : zz_ml "RequestGate" 3 ⟨"java/lang/Object", "<init>", "()V"⟩ := Or.inl zw_28
theorem ml_0_11 : zz_ml "RequestGate" 11 ⟨"RequestGate$Text", "<init>", "()V"⟩ := Or.inr ⟨"RequestGate", by decide +kernel⟩
theorem ml_1_3 : zz_ml "RequestGate$Text" 3 ⟨"java/lang/Object", "<init>", "()V"⟩ := Or.inl zw_36
theorem ml_0_18 : zz_ml "RequestGate" 18 ⟨"RequestGate$PlainPath", "<init>", "()V"⟩ := Or.inr ⟨"RequestGate", by decide +kernel⟩
theorem ml_3_3 : zz_ml "RequestGate$PlainPath" 3 ⟨"java/lang/Object", "<init>", "()V"⟩ := Or.inl zw_52
theorem ml_3_11 : zz_ml "RequestGate$PlainPath" 11 ⟨"RequestGate$Pieces", "<init>", "()V"⟩ := Or.inr ⟨"RequestGate", by decide +kernel⟩
theorem ml_2_3 : zz_ml "RequestGate$Pieces" 3 ⟨"java/lang/Object", "<init>", "()V"⟩ := Or.inl zw_58
theorem ml_0_25 : zz_ml "RequestGate" 25 ⟨"RequestGate$Layer", "<init>", "()V"⟩ := Or.inr ⟨"RequestGate", by decide +kernel⟩
theorem ml_4_3 : zz_ml "RequestGate$Layer" 3 ⟨"java/lang/Object", "<init>", "()V"⟩ := Or.inl zw_92
theorem ml_0_32 : zz_ml "RequestGate" 32 ⟨"RequestGate$Conditions", "<init>", "()V"⟩ := Or.inr ⟨"RequestGate", by decide +kernel⟩
theorem ml_7_3 : zz_ml "RequestGate$Conditions" 3 ⟨"java/lang/Object", "<init>", "()V"⟩ := Or.inl zw_106
theorem ml_0_39 : zz_ml "RequestGate" 39 ⟨"RequestGate$Roles", "<init>", "()V"⟩ := Or.inl zw_125
theorem ml_6_3 : zz_ml "RequestGate$Roles" 3 ⟨"java/lang/Object", "<init>", "()V"⟩ := Or.inl zw_128
theorem ml_0_46 : zz_ml "RequestGate" 46 ⟨"java/util/ArrayList", "<init>", "()V"⟩ := Or.inl zw_135
theorem ml_12_1 : zz_ml "java/util/ArrayList" 1 ⟨"java/util/AbstractList", "<init>", "()V"⟩ := Or.inl zw_138
theorem ml_java_util_AbstractList_1 : zz_ml "java/util/AbstractList" 1 ⟨"java/util/AbstractCollection", "<init>", "()V"⟩ := Or.inl zw_141
theorem ml_java_util_AbstractCollection_1 : zz_ml "java/util/AbstractCollection" 1 ⟨"java/lang/Object", "<init>", "()V"⟩ := Or.inl zw_144
theorem ml_0_59 : zz_ml "RequestGate" 59 ⟨"RequestGate$Tickets", "<init>", "()V"⟩ := Or.inr ⟨"RequestGate", by decide +kernel⟩
theorem ml_10_1 : zz_ml "RequestGate$Tickets" 1 ⟨"java/lang/Object", "<init>", "()V"⟩ := Or.inl zw_164
theorem ml_10_9 : zz_ml "RequestGate$Tickets" 9 ⟨"java/util/ArrayList", "<init>", "()V"⟩ := Or.inl zw_166
theorem ml_RequestGateLaw_13 : zz_ml "RequestGateLaw" 13 ⟨"RequestGate", "type", "(I)Z"⟩ := Or.inl zw_229
theorem ml_0_71 : zz_ml "RequestGate" 71 ⟨"RequestGate$Text", "append", "(I)Z"⟩ := Or.inl zw_233
theorem ml_1_15 : zz_ml "RequestGate$Text" 15 ⟨"RequestGate$Text", "isCode", "(I)Z"⟩ := Or.inl zw_237
theorem ml_RequestGateLaw_18 : zz_ml "RequestGateLaw" 18 ⟨"RequestGate", "clear", "()V"⟩ := Or.inl zw_240
theorem ml_0_75 : zz_ml "RequestGate" 75 ⟨"RequestGate$Text", "empty", "()V"⟩ := Or.inl zw_244
theorem ml_RequestGateLaw_22 : zz_ml "RequestGateLaw" 22 ⟨"RequestGate", "expression", "(III)I"⟩ := Or.inl zw_248
theorem ml_0_78 : zz_ml "RequestGate" 78 ⟨"RequestGate$Conditions", "add", "(III)I"⟩ := Or.inl zw_252
theorem ml_7_28 : zz_ml "RequestGate$Conditions" 28 ⟨"RequestGate$Conditions", "canTake", "(III)Z"⟩ := Or.inl zw_256
theorem ml_7_32 : zz_ml "RequestGate$Conditions" 32 ⟨"RequestGate$Roles", "isRole", "(I)Z"⟩ := Or.inl zw_260
theorem ml_7_38 : zz_ml "RequestGate$Conditions" 38 ⟨"RequestGate$Conditions", "has", "(I)Z"⟩ := Or.inl zw_263
theorem ml_RequestGateLaw_27 : zz_ml "RequestGateLaw" 27 ⟨"RequestGate", "rule", "(II)I"⟩ := Or.inl zw_267
theorem ml_0_82 : zz_ml "RequestGate" 82 ⟨"java/util/ArrayList", "size", "()I"⟩ := Or.inl zw_271
theorem ml_0_86 : zz_ml "RequestGate" 86 ⟨"RequestGate$Conditions", "has", "(I)Z"⟩ := Or.inl zw_275
theorem ml_0_89 : zz_ml "RequestGate" 89 ⟨"RequestGate$Rule", "isPattern", "(LRequestGate$Text;)Z"⟩ := Or.inl zw_276
theorem ml_5_32 : zz_ml "RequestGate$Rule" 32 ⟨"RequestGate$Text", "at", "(I)C"⟩ := Or.inl zw_279
theorem ml_5_43 : zz_ml "RequestGate$Rule" 43 ⟨"RequestGate$Text", "holds", "(C)Z"⟩ := Or.inl zw_283
theorem ml_1_27 : zz_ml "RequestGate$Text" 27 ⟨"RequestGate$Text", "find", "(CII)I"⟩ := Or.inl zw_287
theorem ml_1_23 : zz_ml "RequestGate$Text" 23 ⟨"RequestGate$Text", "at", "(I)C"⟩ := Or.inl zw_291
theorem ml_5_28 : zz_ml "RequestGate$Rule" 28 ⟨"RequestGate$Text", "endsPieceAt", "(I)Z"⟩ := Or.inl zw_292
theorem ml_5_47 : zz_ml "RequestGate$Rule" 47 ⟨"RequestGate$Rule", "isPiece", "(LRequestGate$Text;II)Z"⟩ := Or.inl zw_296
theorem ml_0_95 : zz_ml "RequestGate" 95 ⟨"RequestGate$Rule", "<init>", "(LRequestGate$Text;II)V"⟩ := Or.inl zw_301
theorem ml_5_1 : zz_ml "RequestGate$Rule" 1 ⟨"java/lang/Object", "<init>", "()V"⟩ := Or.inl zw_304
theorem ml_5_9 : zz_ml "RequestGate$Rule" 9 ⟨"RequestGate$Pieces", "<init>", "()V"⟩ := Or.inr ⟨"RequestGate", by decide +kernel⟩
theorem ml_5_36 : zz_ml "RequestGate$Rule" 36 ⟨"RequestGate$Pieces", "write", "(I)V"⟩ := Or.inl zw_307
theorem ml_5_40 : zz_ml "RequestGate$Rule" 40 ⟨"RequestGate$Pieces", "keepWritten", "()V"⟩ := Or.inl zw_311
theorem ml_0_98 : zz_ml "RequestGate" 98 ⟨"java/util/ArrayList", "add", "(Ljava/lang/Object;)Z"⟩ := Or.inl zw_327
theorem ml_12_131 : zz_ml "java/util/ArrayList" 131 ⟨"java/util/ArrayList", "add", "(Ljava/lang/Object;[Ljava/lang/Object;I)V"⟩ := Or.inl zw_331
theorem ml_12_129 : zz_ml "java/util/ArrayList" 129 ⟨"java/util/ArrayList", "grow", "()[Ljava/lang/Object;"⟩ := Or.inl zw_335
theorem ml_12_69 : zz_ml "java/util/ArrayList" 69 ⟨"java/util/ArrayList", "grow", "(I)[Ljava/lang/Object;"⟩ := Or.inl zw_339
theorem ml_12_73 : zz_ml "java/util/ArrayList" 73 ⟨"jdk/internal/util/ArraysSupport", "newLength", "(III)I"⟩ := Or.inl zw_343
theorem ml_jdk_internal_util_ArraysSupport_194 : zz_ml "jdk/internal/util/ArraysSupport" 194 ⟨"java/lang/Math", "max", "(II)I"⟩ := Or.inl zw_346
theorem ml_jdk_internal_util_ArraysSupport_201 : zz_ml "jdk/internal/util/ArraysSupport" 201 ⟨"jdk/internal/util/ArraysSupport", "hugeLength", "(II)I"⟩ := Or.inl zw_350
theorem ml_12_66 : zz_ml "java/util/ArrayList" 66 ⟨"java/util/Arrays", "copyOf", "([Ljava/lang/Object;I)[Ljava/lang/Object;"⟩ := Or.inl zw_353
theorem ml_java_util_Arrays_86 : zz_ml "java/util/Arrays" 86 ⟨"java/lang/Object", "getClass", "()Ljava/lang/Class;"⟩ := Or.inl zw_356
theorem ml_java_util_Arrays_300 : zz_ml "java/util/Arrays" 300 ⟨"java/util/Arrays", "copyOf", "([Ljava/lang/Object;ILjava/lang/Class;)[Ljava/lang/Object;"⟩ := Or.inl zw_374
theorem ml_java_util_Arrays_304 : zz_ml "java/util/Arrays" 304 ⟨"java/lang/Math", "min", "(II)I"⟩ := Or.inl zw_380
theorem ml_java_util_Arrays_150 : zz_ml "java/util/Arrays" 150 ⟨"java/lang/System", "arraycopy", "(Ljava/lang/Object;ILjava/lang/Object;II)V"⟩ := Or.inl zw_383
theorem ml_12_79 : zz_ml "java/util/ArrayList" 79 ⟨"java/lang/Math", "max", "(II)I"⟩ := Or.inl zw_386
theorem ml_RequestGateLaw_32 : zz_ml "RequestGateLaw" 32 ⟨"RequestGate", "role", "(II)Z"⟩ := Or.inl zw_388
theorem ml_0_101 : zz_ml "RequestGate" 101 ⟨"RequestGate$Roles", "add", "(II)Z"⟩ := Or.inl zw_392
theorem ml_6_15 : zz_ml "RequestGate$Roles" 15 ⟨"RequestGate$Roles", "isRole", "(I)Z"⟩ := Or.inl zw_396
theorem ml_6_19 : zz_ml "RequestGate$Roles" 19 ⟨"RequestGate$Roles", "contains", "(II)Z"⟩ := Or.inl zw_397
theorem ml_RequestGateLaw_37 : zz_ml "RequestGateLaw" 37 ⟨"RequestGate", "user", "(III)I"⟩ := Or.inl zw_400
theorem ml_0_106 : zz_ml "RequestGate" 106 ⟨"RequestGate", "draw", "()I"⟩ := Or.inl zw_406
theorem ml_0_109 : zz_ml "RequestGate" 109 ⟨"RequestGate$User", "<init>", "(IIII)V"⟩ := Or.inl zw_410
theorem ml_8_1 : zz_ml "RequestGate$User" 1 ⟨"java/lang/Object", "<init>", "()V"⟩ := Or.inl zw_413
theorem ml_8_19 : zz_ml "RequestGate$User" 19 ⟨"RequestGate$User", "hashOf", "(III)I"⟩ := Or.inl zw_414
theorem ml_RequestGateLaw_41 : zz_ml "RequestGateLaw" 41 ⟨"RequestGate", "service", "(III)I"⟩ := Or.inl zw_438
theorem ml_0_112 : zz_ml "RequestGate" 112 ⟨"RequestGate", "isConditionOrNone", "(I)Z"⟩ := Or.inl zw_442
theorem ml_0_115 : zz_ml "RequestGate" 115 ⟨"RequestGate", "isTypeOrNone", "(I)Z"⟩ := Or.inl zw_446
theorem ml_0_123 : zz_ml "RequestGate" 123 ⟨"RequestGate", "isType", "(I)Z"⟩ := Or.inl zw_450
theorem ml_0_120 : zz_ml "RequestGate" 120 ⟨"RequestGate$Service", "<init>", "(III)V"⟩ := Or.inl zw_456
theorem ml_11_3 : zz_ml "RequestGate$Service" 3 ⟨"java/lang/Object", "<init>", "()V"⟩ := Or.inl zw_459
theorem ml_RequestGateLaw_45 : zz_ml "RequestGateLaw" 45 ⟨"RequestGate", "declare", "(III)Z"⟩ := Or.inl zw_478
theorem ml_0_126 : zz_ml "RequestGate" 126 ⟨"RequestGate", "isOperation", "(I)Z"⟩ := Or.inl zw_482
theorem ml_0_129 : zz_ml "RequestGate" 129 ⟨"java/util/ArrayList", "get", "(I)Ljava/lang/Object;"⟩ := Or.inl zw_485
theorem ml_12_118 : zz_ml "java/util/ArrayList" 118 ⟨"java/util/Objects", "checkIndex", "(II)I"⟩ := Or.inl zw_489
theorem ml_java_util_Objects_105 : zz_ml "java/util/Objects" 105 ⟨"jdk/internal/util/Preconditions", "checkIndex", "(IILjava/util/function/BiFunction;)I"⟩ := Or.inl zw_492
theorem ml_12_123 : zz_ml "java/util/ArrayList" 123 ⟨"java/util/ArrayList", "elementData", "(I)Ljava/lang/Object;"⟩ := Or.inl zw_495
theorem ml_0_133 : zz_ml "RequestGate" 133 ⟨"RequestGate$Service", "add", "(II)Z"⟩ := Or.inl zw_499
theorem ml_11_29 : zz_ml "RequestGate$Service" 29 ⟨"RequestGate", "isOperation", "(I)Z"⟩ := Or.inr ⟨"RequestGate", by decide +kernel⟩
theorem ml_RequestGateLaw_50 : zz_ml "RequestGateLaw" 50 ⟨"RequestGate", "tick", "(I)Z"⟩ := Or.inl zw_504
theorem ml_0_137 : zz_ml "RequestGate" 137 ⟨"RequestGate$Tickets", "dropDead", "(I)V"⟩ := Or.inl zw_508
theorem ml_10_16 : zz_ml "RequestGate$Tickets" 16 ⟨"java/util/ArrayList", "size", "()I"⟩ := Or.inl zw_512
theorem ml_10_20 : zz_ml "RequestGate$Tickets" 20 ⟨"java/util/ArrayList", "get", "(I)Ljava/lang/Object;"⟩ := Or.inl zw_513
theorem ml_10_51 : zz_ml "RequestGate$Tickets" 51 ⟨"RequestGate$Ticket", "isDead", "(I)Z"⟩ := Or.inl zw_515
theorem ml_10_48 : zz_ml "RequestGate$Tickets" 48 ⟨"java/util/ArrayList", "remove", "(I)Ljava/lang/Object;"⟩ := Or.inl zw_519
theorem ml_12_144 : zz_ml "java/util/ArrayList" 144 ⟨"java/util/ArrayList", "fastRemove", "([Ljava/lang/Object;I)V"⟩ := Or.inl zw_523
theorem ml_12_112 : zz_ml "java/util/ArrayList" 112 ⟨"java/lang/System", "arraycopy", "(Ljava/lang/Object;ILjava/lang/Object;II)V"⟩ := Or.inl zw_527
theorem ml_RequestGateLaw_54 : zz_ml "RequestGateLaw" 54 ⟨"RequestGate", "login", "(IIIZ)I"⟩ := Or.inl zw_528
theorem ml_0_141 : zz_ml "RequestGate" 141 ⟨"RequestGate", "isUser", "(I)Z"⟩ := Or.inl zw_532
theorem ml_0_144 : zz_ml "RequestGate" 144 ⟨"RequestGate$User", "isLocked", "(I)Z"⟩ := Or.inl zw_536
theorem ml_0_147 : zz_ml "RequestGate" 147 ⟨"RequestGate$User", "hasPassword", "(I)Z"⟩ := Or.inl zw_540
theorem ml_0_150 : zz_ml "RequestGate" 150 ⟨"RequestGate$User", "lockAfterTooManyTries", "(I)Z"⟩ := Or.inl zw_544
theorem ml_8_32 : zz_ml "RequestGate$User" 32 ⟨"RequestGate$User", "forgetWrongTries", "()V"⟩ := Or.inl zw_548
theorem ml_0_156 : zz_ml "RequestGate" 156 ⟨"RequestGate$User", "forgetWrongTries", "()V"⟩ := Or.inl zw_552
theorem ml_0_159 : zz_ml "RequestGate" 159 ⟨"RequestGate$User", "isOfOldScheme", "()Z"⟩ := Or.inl zw_553
theorem ml_0_163 : zz_ml "RequestGate" 163 ⟨"RequestGate$User", "moveToNewScheme", "(II)V"⟩ := Or.inl zw_557
theorem ml_0_167 : zz_ml "RequestGate" 167 ⟨"RequestGate$Tickets", "end", "(I)V"⟩ := Or.inl zw_561
theorem ml_0_170 : zz_ml "RequestGate" 170 ⟨"RequestGate", "make", "(LRequestGate$Tickets;IZ)I"⟩ := Or.inl zw_565
theorem ml_0_259 : zz_ml "RequestGate" 259 ⟨"RequestGate$Ticket", "<init>", "(IIIZI)V"⟩ := Or.inl zw_571
theorem ml_9_1 : zz_ml "RequestGate$Ticket" 1 ⟨"java/lang/Object", "<init>", "()V"⟩ := Or.inl zw_574
theorem ml_0_262 : zz_ml "RequestGate" 262 ⟨"RequestGate$Tickets", "add", "(LRequestGate$Ticket;)V"⟩ := Or.inl zw_602
theorem ml_10_33 : zz_ml "RequestGate$Tickets" 33 ⟨"RequestGate$Tickets", "findOf", "(II)LRequestGate$Ticket;"⟩ := Or.inl zw_606
theorem ml_10_40 : zz_ml "RequestGate$Tickets" 40 ⟨"RequestGate$Tickets", "end", "(I)V"⟩ := Or.inl zw_610
theorem ml_10_44 : zz_ml "RequestGate$Tickets" 44 ⟨"java/util/ArrayList", "add", "(Ljava/lang/Object;)Z"⟩ := Or.inl zw_611
theorem ml_RequestGateLaw_59 : zz_ml "RequestGateLaw" 59 ⟨"RequestGate", "logout", "(I)Z"⟩ := Or.inl zw_612
theorem ml_0_174 : zz_ml "RequestGate" 174 ⟨"RequestGate$Tickets", "find", "(I)LRequestGate$Ticket;"⟩ := Or.inl zw_616
theorem ml_0_183 : zz_ml "RequestGate" 183 ⟨"RequestGate$Tickets", "endAllOf", "(I)V"⟩ := Or.inl zw_620
theorem ml_RequestGateLaw_63 : zz_ml "RequestGateLaw" 63 ⟨"RequestGate", "open", "(IIIII)I"⟩ := Or.inl zw_624
theorem ml_0_190 : zz_ml "RequestGate" 190 ⟨"RequestGate$PlainPath", "read", "(LRequestGate$Text;)Z"⟩ := Or.inl zw_628
theorem ml_3_18 : zz_ml "RequestGate$PlainPath" 18 ⟨"RequestGate$Pieces", "empty", "()V"⟩ := Or.inl zw_632
theorem ml_3_21 : zz_ml "RequestGate$PlainPath" 21 ⟨"RequestGate$Text", "at", "(I)C"⟩ := Or.inl zw_636
theorem ml_3_27 : zz_ml "RequestGate$PlainPath" 27 ⟨"RequestGate$Text", "holds", "(C)Z"⟩ := Or.inl zw_637
theorem ml_3_35 : zz_ml "RequestGate$PlainPath" 35 ⟨"RequestGate$Text", "endsPieceAt", "(I)Z"⟩ := Or.inl zw_638
theorem ml_3_39 : zz_ml "RequestGate$PlainPath" 39 ⟨"RequestGate$Text", "find", "(CII)I"⟩ := Or.inl zw_639
theorem ml_3_43 : zz_ml "RequestGate$PlainPath" 43 ⟨"RequestGate$PlainPath", "decode", "(LRequestGate$Text;II)Z"⟩ := Or.inl zw_640
theorem ml_3_51 : zz_ml "RequestGate$PlainPath" 51 ⟨"RequestGate$PlainPath", "codeOf", "(CC)I"⟩ := Or.inl zw_644
theorem ml_3_59 : zz_ml "RequestGate$PlainPath" 59 ⟨"RequestGate$PlainPath", "digitOf", "(C)I"⟩ := Or.inl zw_647
theorem ml_3_63 : zz_ml "RequestGate$PlainPath" 63 ⟨"RequestGate$Text", "isCode", "(I)Z"⟩ := Or.inl zw_650
theorem ml_3_55 : zz_ml "RequestGate$PlainPath" 55 ⟨"RequestGate$Pieces", "write", "(I)V"⟩ := Or.inl zw_651
theorem ml_3_47 : zz_ml "RequestGate$PlainPath" 47 ⟨"RequestGate$PlainPath", "place", "(Z)Z"⟩ := Or.inl zw_652
theorem ml_3_66 : zz_ml "RequestGate$PlainPath" 66 ⟨"RequestGate$Pieces", "writtenLength", "()I"⟩ := Or.inl zw_656
theorem ml_3_70 : zz_ml "RequestGate$PlainPath" 70 ⟨"RequestGate$Pieces", "wroteDots", "(I)Z"⟩ := Or.inl zw_660
theorem ml_2_32 : zz_ml "RequestGate$Pieces" 32 ⟨"RequestGate$Pieces", "writtenLength", "()I"⟩ := Or.inl zw_664
theorem ml_3_73 : zz_ml "RequestGate$PlainPath" 73 ⟨"RequestGate$Pieces", "dropWritten", "()V"⟩ := Or.inl zw_665
theorem ml_3_79 : zz_ml "RequestGate$PlainPath" 79 ⟨"RequestGate$Pieces", "dropLastKept", "()V"⟩ := Or.inl zw_669
theorem ml_3_82 : zz_ml "RequestGate$PlainPath" 82 ⟨"RequestGate$Pieces", "keepWritten", "()V"⟩ := Or.inl zw_673
theorem ml_0_193 : zz_ml "RequestGate" 193 ⟨"RequestGate", "subjectOf", "(LRequestGate$Ticket;)I"⟩ := Or.inl zw_674
theorem ml_0_197 : zz_ml "RequestGate" 197 ⟨"RequestGate", "subjectBySeries", "(II)I"⟩ := Or.inl zw_678
theorem ml_0_204 : zz_ml "RequestGate" 204 ⟨"RequestGate", "decide", "(II)I"⟩ := Or.inl zw_682
theorem ml_0_268 : zz_ml "RequestGate" 268 ⟨"RequestGate", "firstRuleThatFits", "(I)I"⟩ := Or.inl zw_686
theorem ml_0_279 : zz_ml "RequestGate" 279 ⟨"RequestGate$Rule", "isFor", "(I)Z"⟩ := Or.inl zw_690
theorem ml_0_233 : zz_ml "RequestGate" 233 ⟨"RequestGate$Layer", "canLay", "(LRequestGate$Pieces;LRequestGate$Pieces;)Z"⟩ := Or.inl zw_694
theorem ml_4_18 : zz_ml "RequestGate$Layer" 18 ⟨"RequestGate$Layer", "begin", "([Z)V"⟩ := Or.inl zw_698
theorem ml_4_28 : zz_ml "RequestGate$Layer" 28 ⟨"RequestGate$Pieces", "isTwoStars", "(I)Z"⟩ := Or.inl zw_701
theorem ml_2_36 : zz_ml "RequestGate$Pieces" 36 ⟨"RequestGate$Pieces", "lengthOf", "(I)I"⟩ := Or.inl zw_705
theorem ml_2_40 : zz_ml "RequestGate$Pieces" 40 ⟨"RequestGate$Pieces", "at", "(II)C"⟩ := Or.inl zw_709
theorem ml_4_32 : zz_ml "RequestGate$Layer" 32 ⟨"RequestGate$Layer", "spread", "([Z)V"⟩ := Or.inl zw_713
theorem ml_4_35 : zz_ml "RequestGate$Layer" 35 ⟨"RequestGate$Layer", "layOnOne", "(LRequestGate$Pieces;ILRequestGate$Pieces;)V"⟩ := Or.inl zw_716
theorem ml_4_39 : zz_ml "RequestGate$Layer" 39 ⟨"RequestGate$Layer", "covers", "(LRequestGate$Pieces;ILRequestGate$Pieces;I)Z"⟩ := Or.inl zw_720
theorem ml_4_43 : zz_ml "RequestGate$Layer" 43 ⟨"RequestGate$Pieces", "lengthOf", "(I)I"⟩ := Or.inl zw_724
theorem ml_4_47 : zz_ml "RequestGate$Layer" 47 ⟨"RequestGate$Pieces", "at", "(II)C"⟩ := Or.inl zw_725
theorem ml_0_216 : zz_ml "RequestGate" 216 ⟨"RequestGate", "isTrue", "(III)Z"⟩ := Or.inl zw_726
theorem ml_0_285 : zz_ml "RequestGate" 285 ⟨"RequestGate$Roles", "includedIn", "(I)I"⟩ := Or.inl zw_730
theorem ml_0_288 : zz_ml "RequestGate" 288 ⟨"RequestGate$Conditions", "isTrueFor", "(IIII)Z"⟩ := Or.inl zw_734
theorem ml_7_41 : zz_ml "RequestGate$Conditions" 41 ⟨"RequestGate$Conditions", "jointValue", "(I)I"⟩ := Or.inl zw_738
theorem ml_7_49 : zz_ml "RequestGate$Conditions" 49 ⟨"RequestGate$Conditions", "truth", "(Z)I"⟩ := Or.inl zw_742
theorem ml_7_45 : zz_ml "RequestGate$Conditions" 45 ⟨"RequestGate$Conditions", "singleValue", "(IIII)I"⟩ := Or.inl zw_745
theorem ml_7_53 : zz_ml "RequestGate$Conditions" 53 ⟨"RequestGate$Roles", "contains", "(II)Z"⟩ := Or.inl zw_749
theorem ml_RequestGateLaw_68 : zz_ml "RequestGateLaw" 68 ⟨"RequestGate", "call", "(III)I"⟩ := Or.inl zw_750
theorem ml_0_207 : zz_ml "RequestGate" 207 ⟨"RequestGate", "typeThatDeclares", "(II)I"⟩ := Or.inl zw_754
theorem ml_0_292 : zz_ml "RequestGate" 292 ⟨"RequestGate$Service", "declares", "(I)Z"⟩ := Or.inl zw_758
theorem ml_0_210 : zz_ml "RequestGate" 210 ⟨"RequestGate", "conditionAt", "(II)I"⟩ := Or.inl zw_762
theorem ml_0_301 : zz_ml "RequestGate" 301 ⟨"RequestGate$Service", "conditionOf", "(I)I"⟩ := Or.inl zw_766
theorem ml_11_33 : zz_ml "RequestGate$Service" 33 ⟨"RequestGate$Service", "declares", "(I)Z"⟩ := Or.inl zw_770
theorem ml_0_213 : zz_ml "RequestGate" 213 ⟨"RequestGate", "conditionByInterfaces", "(II)I"⟩ := Or.inl zw_771
theorem ml_RequestGateLaw_72 : zz_ml "RequestGateLaw" 72 ⟨"RequestGate", "close", "()Z"⟩ := Or.inl zw_775
theorem ml_RequestGateLaw_77 : zz_ml "RequestGateLaw" 77 ⟨"RequestGate", "who", "()I"⟩ := Or.inl zw_779
theorem ml_RequestGateLaw_82 : zz_ml "RequestGateLaw" 82 ⟨"RequestGate", "fits", "(I)I"⟩ := Or.inl zw_783
theorem ml_RequestGateLaw_87 : zz_ml "RequestGateLaw" 87 ⟨"RequestGate", "session", "(III)I"⟩ := Or.inl zw_787
theorem ml_0_237 : zz_ml "RequestGate" 237 ⟨"RequestGate$Tickets", "findOf", "(II)LRequestGate$Ticket;"⟩ := Or.inl zw_791
theorem ml_RequestGateLaw_91 : zz_ml "RequestGateLaw" 91 ⟨"RequestGate", "series", "(III)I"⟩ := Or.inl zw_792
theorem ml_RequestGateLaw_95 : zz_ml "RequestGateLaw" 95 ⟨"RequestGate", "hash", "(I)I"⟩ := Or.inl zw_796
theorem ml_RequestGateLaw_99 : zz_ml "RequestGateLaw" 99 ⟨"RequestGate", "count", "(I)I"⟩ := Or.inl zw_800
theorem ml_RequestGateLaw_12 : zz_ml "RequestGateLaw" 12 ⟨"RequestGateModel", "<init>", "()V"⟩ := Or.inl zw_806
theorem ml_13_1 : zz_ml "RequestGateModel" 1 ⟨"java/lang/Object", "<init>", "()V"⟩ := Or.inl zw_809
theorem ml_RequestGateLaw_17 : zz_ml "RequestGateLaw" 17 ⟨"RequestGateModel", "type", "(I)Z"⟩ := Or.inl zw_979
theorem ml_RequestGateLaw_21 : zz_ml "RequestGateLaw" 21 ⟨"RequestGateModel", "clear", "()V"⟩ := Or.inl zw_983
theorem ml_RequestGateLaw_26 : zz_ml "RequestGateLaw" 26 ⟨"RequestGateModel", "expression", "(III)I"⟩ := Or.inl zw_987
theorem ml_13_157 : zz_ml "RequestGateModel" 157 ⟨"RequestGateModel", "isExpression", "(I)Z"⟩ := Or.inl zw_991
theorem ml_RequestGateLaw_36 : zz_ml "RequestGateLaw" 36 ⟨"RequestGateModel", "role", "(II)Z"⟩ := Or.inl zw_995
theorem ml_13_160 : zz_ml "RequestGateModel" 160 ⟨"RequestGateModel", "included", "(I)I"⟩ := Or.inl zw_999
theorem ml_RequestGateLaw_31 : zz_ml "RequestGateLaw" 31 ⟨"RequestGateModel", "rule", "(II)I"⟩ := Or.inl zw_1003
theorem ml_13_174 : zz_ml "RequestGateModel" 174 ⟨"RequestGateModel", "isPattern", "()Z"⟩ := Or.inl zw_1007
theorem ml_13_136 : zz_ml "RequestGateModel" 136 ⟨"RequestGateModel", "barred", "(I)Z"⟩ := Or.inl zw_1011
theorem ml_RequestGateLaw_40 : zz_ml "RequestGateLaw" 40 ⟨"RequestGateModel", "user", "(III)I"⟩ := Or.inl zw_1014
theorem ml_13_184 : zz_ml "RequestGateModel" 184 ⟨"RequestGateModel", "draw", "()I"⟩ := Or.inl zw_1018
theorem ml_13_188 : zz_ml "RequestGateModel" 188 ⟨"RequestGateModel", "hashOf", "(III)I"⟩ := Or.inl zw_1022
theorem ml_RequestGateLaw_58 : zz_ml "RequestGateLaw" 58 ⟨"RequestGateModel", "login", "(IIIZ)I"⟩ := Or.inl zw_1025
theorem ml_13_198 : zz_ml "RequestGateModel" 198 ⟨"RequestGateModel", "isUser", "(I)Z"⟩ := Or.inl zw_1029
theorem ml_13_204 : zz_ml "RequestGateModel" 204 ⟨"RequestGateModel", "sessionBy", "(I)I"⟩ := Or.inl zw_1033
theorem ml_13_195 : zz_ml "RequestGateModel" 195 ⟨"RequestGateModel", "live", "(I)Z"⟩ := Or.inl zw_1037
theorem ml_13_207 : zz_ml "RequestGateModel" 207 ⟨"RequestGateModel", "makeSession", "(IZ)I"⟩ := Or.inl zw_1041
theorem ml_13_211 : zz_ml "RequestGateModel" 211 ⟨"RequestGateModel", "makeSeries", "(I)V"⟩ := Or.inl zw_1045
theorem ml_RequestGateLaw_62 : zz_ml "RequestGateLaw" 62 ⟨"RequestGateModel", "logout", "(I)Z"⟩ := Or.inl zw_1049
theorem ml_13_215 : zz_ml "RequestGateModel" 215 ⟨"RequestGateModel", "endSeries", "(I)V"⟩ := Or.inl zw_1053
theorem ml_RequestGateLaw_53 : zz_ml "RequestGateLaw" 53 ⟨"RequestGateModel", "tick", "(I)Z"⟩ := Or.inl zw_1057
theorem ml_RequestGateLaw_44 : zz_ml "RequestGateLaw" 44 ⟨"RequestGateModel", "service", "(III)I"⟩ := Or.inl zw_1061
theorem ml_13_221 : zz_ml "RequestGateModel" 221 ⟨"RequestGateModel", "mayBe", "(II)Z"⟩ := Or.inl zw_1065
theorem ml_RequestGateLaw_49 : zz_ml "RequestGateLaw" 49 ⟨"RequestGateModel", "declare", "(III)Z"⟩ := Or.inl zw_1069
theorem ml_RequestGateLaw_71 : zz_ml "RequestGateLaw" 71 ⟨"RequestGateModel", "call", "(III)I"⟩ := Or.inl zw_1073
theorem ml_13_224 : zz_ml "RequestGateModel" 224 ⟨"RequestGateModel", "guard", "(III)I"⟩ := Or.inl zw_1077
theorem ml_13_231 : zz_ml "RequestGateModel" 231 ⟨"RequestGateModel", "valueOf", "(IIZI)I"⟩ := Or.inl zw_1081
theorem ml_13_167 : zz_ml "RequestGateModel" 167 ⟨"RequestGateModel", "simple", "(IIZI)I"⟩ := Or.inl zw_1085
theorem ml_13_163 : zz_ml "RequestGateModel" 163 ⟨"RequestGateModel", "truth", "(Z)I"⟩ := Or.inl zw_1089
theorem ml_RequestGateLaw_67 : zz_ml "RequestGateLaw" 67 ⟨"RequestGateModel", "open", "(IIIII)I"⟩ := Or.inl zw_1092
theorem ml_13_255 : zz_ml "RequestGateModel" 255 ⟨"RequestGateModel", "read", "()Z"⟩ := Or.inl zw_1096
theorem ml_13_132 : zz_ml "RequestGateModel" 132 ⟨"RequestGateModel", "digit", "(I)I"⟩ := Or.inl zw_1100
theorem ml_13_140 : zz_ml "RequestGateModel" 140 ⟨"RequestGateModel", "settle", "(I)Z"⟩ := Or.inl zw_1103
theorem ml_13_146 : zz_ml "RequestGateModel" 146 ⟨"RequestGateModel", "dots", "(II)Z"⟩ := Or.inl zw_1107
theorem ml_13_258 : zz_ml "RequestGateModel" 258 ⟨"RequestGateModel", "ask", "(III)I"⟩ := Or.inl zw_1111
theorem ml_13_246 : zz_ml "RequestGateModel" 246 ⟨"RequestGateModel", "seriesBy", "(I)I"⟩ := Or.inl zw_1115
theorem ml_13_261 : zz_ml "RequestGateModel" 261 ⟨"RequestGateModel", "ruleFits", "(I)Z"⟩ := Or.inl zw_1119
theorem ml_13_150 : zz_ml "RequestGateModel" 150 ⟨"RequestGateModel", "pieceFits", "(III)Z"⟩ := Or.inl zw_1123
theorem ml_RequestGateLaw_76 : zz_ml "RequestGateLaw" 76 ⟨"RequestGateModel", "close", "()Z"⟩ := Or.inl zw_1127
theorem ml_RequestGateLaw_81 : zz_ml "RequestGateLaw" 81 ⟨"RequestGateModel", "who", "()I"⟩ := Or.inl zw_1131
theorem ml_RequestGateLaw_86 : zz_ml "RequestGateLaw" 86 ⟨"RequestGateModel", "fits", "(I)I"⟩ := Or.inl zw_1135
theorem ml_RequestGateLaw_90 : zz_ml "RequestGateLaw" 90 ⟨"RequestGateModel", "session", "(III)I"⟩ := Or.inl zw_1139
theorem ml_RequestGateLaw_94 : zz_ml "RequestGateLaw" 94 ⟨"RequestGateModel", "series", "(III)I"⟩ := Or.inl zw_1143
theorem ml_RequestGateLaw_98 : zz_ml "RequestGateLaw" 98 ⟨"RequestGateModel", "hash", "(I)I"⟩ := Or.inl zw_1147
theorem ml_RequestGateLaw_102 : zz_ml "RequestGateLaw" 102 ⟨"RequestGateModel", "count", "(I)I"⟩ := Or.inl zw_1151
theorem fl_1_9 : zz_fl "RequestGate$Text" 9 1 0 := ⟨_, _, _, _, rfl, by decide, zw_37, Or.inl rfl⟩
theorem fl_5_23 : zz_fl "RequestGate$Rule" 23 1 1 := ⟨_, _, _, _, rfl, by decide, zw_38, Or.inl rfl⟩
theorem fl_3_31 : zz_fl "RequestGate$PlainPath" 31 1 1 := ⟨_, _, _, _, rfl, by decide, zw_39, Or.inl rfl⟩
theorem fl_1_19 : zz_fl "RequestGate$Text" 19 1 1 := ⟨_, _, _, _, rfl, by decide, zw_40, Or.inl rfl⟩
theorem fl_2_9 : zz_fl "RequestGate$Pieces" 9 2 0 := ⟨_, _, _, _, rfl, by decide, zw_59, Or.inl rfl⟩
theorem fl_2_15 : zz_fl "RequestGate$Pieces" 15 2 1 := ⟨_, _, _, _, rfl, by decide, zw_60, Or.inl rfl⟩
theorem fl_2_19 : zz_fl "RequestGate$Pieces" 19 2 2 := ⟨_, _, _, _, rfl, by decide, zw_61, Or.inl rfl⟩
theorem fl_2_22 : zz_fl "RequestGate$Pieces" 22 2 3 := ⟨_, _, _, _, rfl, by decide, zw_62, Or.inl rfl⟩
theorem fl_2_26 : zz_fl "RequestGate$Pieces" 26 2 4 := ⟨_, _, _, _, rfl, by decide, zw_63, Or.inl rfl⟩
theorem fl_4_22 : zz_fl "RequestGate$Layer" 22 2 5 := ⟨_, _, _, _, rfl, by decide, zw_64, Or.inl rfl⟩
theorem fl_2_29 : zz_fl "RequestGate$Pieces" 29 2 5 := ⟨_, _, _, _, rfl, by decide, zw_65, Or.inl rfl⟩
theorem fl_3_76 : zz_fl "RequestGate$PlainPath" 76 2 5 := ⟨_, _, _, _, rfl, by decide, zw_66, Or.inl rfl⟩
theorem fl_0_275 : zz_fl "RequestGate" 275 2 5 := ⟨_, _, _, _, rfl, by decide, zw_67, Or.inl rfl⟩
theorem fl_3_12 : zz_fl "RequestGate$PlainPath" 12 3 0 := ⟨_, _, _, _, rfl, by decide, zw_82, Or.inl rfl⟩
theorem fl_0_230 : zz_fl "RequestGate" 230 3 0 := ⟨_, _, _, _, rfl, by decide, zw_83, Or.inl rfl⟩
theorem fl_4_9 : zz_fl "RequestGate$Layer" 9 4 0 := ⟨_, _, _, _, rfl, by decide, zw_93, Or.inl rfl⟩
theorem fl_4_15 : zz_fl "RequestGate$Layer" 15 4 1 := ⟨_, _, _, _, rfl, by decide, zw_94, Or.inl rfl⟩
theorem fl_7_9 : zz_fl "RequestGate$Conditions" 9 7 0 := ⟨_, _, _, _, rfl, by decide, zw_107, Or.inl rfl⟩
theorem fl_7_15 : zz_fl "RequestGate$Conditions" 15 7 1 := ⟨_, _, _, _, rfl, by decide, zw_108, Or.inl rfl⟩
theorem fl_7_18 : zz_fl "RequestGate$Conditions" 18 7 2 := ⟨_, _, _, _, rfl, by decide, zw_109, Or.inl rfl⟩
theorem fl_7_21 : zz_fl "RequestGate$Conditions" 21 7 3 := ⟨_, _, _, _, rfl, by decide, zw_110, Or.inl rfl⟩
theorem fl_7_24 : zz_fl "RequestGate$Conditions" 24 7 4 := ⟨_, _, _, _, rfl, by decide, zw_111, Or.inl rfl⟩
theorem fl_6_9 : zz_fl "RequestGate$Roles" 9 6 0 := ⟨_, _, _, _, rfl, by decide, zw_129, Or.inl rfl⟩
theorem fl_12_9 : zz_fl "java/util/ArrayList" 9 12 0 := ⟨_, _, _, _, rfl, by decide, zw_147, Or.inl rfl⟩
theorem fl_12_48 : zz_fl "java/util/ArrayList" 48 12 1 := ⟨_, _, _, _, rfl, by decide, zw_148, Or.inl rfl⟩
theorem fl_java_util_AbstractList_7 : zz_fl "java/util/AbstractList" 7 12 2 := ⟨_, _, _, _, rfl, by decide, zw_149, Or.inl rfl⟩
theorem fl_12_63 : zz_fl "java/util/ArrayList" 63 12 2 := ⟨_, _, _, _, rfl, by decide, zw_150, Or.inr zw_151⟩
theorem fl_10_10 : zz_fl "RequestGate$Tickets" 10 10 0 := ⟨_, _, _, _, rfl, by decide, zw_167, Or.inl rfl⟩
theorem fl_0_12 : zz_fl "RequestGate" 12 0 0 := ⟨_, _, _, _, rfl, by decide, zw_171, Or.inl rfl⟩
theorem fl_0_19 : zz_fl "RequestGate" 19 0 1 := ⟨_, _, _, _, rfl, by decide, zw_172, Or.inl rfl⟩
theorem fl_0_26 : zz_fl "RequestGate" 26 0 2 := ⟨_, _, _, _, rfl, by decide, zw_173, Or.inl rfl⟩
theorem fl_0_33 : zz_fl "RequestGate" 33 0 3 := ⟨_, _, _, _, rfl, by decide, zw_174, Or.inl rfl⟩
theorem fl_0_40 : zz_fl "RequestGate" 40 0 4 := ⟨_, _, _, _, rfl, by decide, zw_175, Or.inl rfl⟩
theorem fl_0_47 : zz_fl "RequestGate" 47 0 5 := ⟨_, _, _, _, rfl, by decide, zw_176, Or.inl rfl⟩
theorem fl_0_51 : zz_fl "RequestGate" 51 0 6 := ⟨_, _, _, _, rfl, by decide, zw_177, Or.inl rfl⟩
theorem fl_0_54 : zz_fl "RequestGate" 54 0 7 := ⟨_, _, _, _, rfl, by decide, zw_178, Or.inl rfl⟩
theorem fl_0_60 : zz_fl "RequestGate" 60 0 8 := ⟨_, _, _, _, rfl, by decide, zw_179, Or.inl rfl⟩
theorem fl_0_64 : zz_fl "RequestGate" 64 0 9 := ⟨_, _, _, _, rfl, by decide, zw_180, Or.inl rfl⟩
theorem fl_0_67 : zz_fl "RequestGate" 67 0 10 := ⟨_, _, _, _, rfl, by decide, zw_181, Or.inl rfl⟩
theorem fl_0_186 : zz_fl "RequestGate" 186 0 11 := ⟨_, _, _, _, rfl, by decide, zw_182, Or.inl rfl⟩
theorem fl_0_134 : zz_fl "RequestGate" 134 0 12 := ⟨_, _, _, _, rfl, by decide, zw_183, Or.inl rfl⟩
theorem fl_0_256 : zz_fl "RequestGate" 256 0 13 := ⟨_, _, _, _, rfl, by decide, zw_184, Or.inl rfl⟩
theorem fl_0_250 : zz_fl "RequestGate" 250 0 14 := ⟨_, _, _, _, rfl, by decide, zw_185, Or.inl rfl⟩
theorem fl_0_220 : zz_fl "RequestGate" 220 0 15 := ⟨_, _, _, _, rfl, by decide, zw_186, Or.inl rfl⟩
theorem fl_0_223 : zz_fl "RequestGate" 223 0 16 := ⟨_, _, _, _, rfl, by decide, zw_187, Or.inl rfl⟩
theorem fl_0_253 : zz_fl "RequestGate" 253 0 17 := ⟨_, _, _, _, rfl, by decide, zw_188, Or.inl rfl⟩
theorem fl_0_153 : zz_fl "RequestGate" 153 0 18 := ⟨_, _, _, _, rfl, by decide, zw_189, Or.inl rfl⟩
theorem fl_5_10 : zz_fl "RequestGate$Rule" 10 5 0 := ⟨_, _, _, _, rfl, by decide, zw_315, Or.inl rfl⟩
theorem fl_0_226 : zz_fl "RequestGate" 226 5 0 := ⟨_, _, _, _, rfl, by decide, zw_316, Or.inl rfl⟩
theorem fl_5_16 : zz_fl "RequestGate$Rule" 16 5 1 := ⟨_, _, _, _, rfl, by decide, zw_317, Or.inl rfl⟩
theorem fl_0_272 : zz_fl "RequestGate" 272 5 1 := ⟨_, _, _, _, rfl, by decide, zw_318, Or.inl rfl⟩
theorem fl_5_20 : zz_fl "RequestGate$Rule" 20 5 2 := ⟨_, _, _, _, rfl, by decide, zw_319, Or.inl rfl⟩
theorem fl_8_7 : zz_fl "RequestGate$User" 7 8 0 := ⟨_, _, _, _, rfl, by decide, zw_417, Or.inl rfl⟩
theorem fl_0_282 : zz_fl "RequestGate" 282 8 0 := ⟨_, _, _, _, rfl, by decide, zw_418, Or.inl rfl⟩
theorem fl_8_13 : zz_fl "RequestGate$User" 13 8 1 := ⟨_, _, _, _, rfl, by decide, zw_419, Or.inl rfl⟩
theorem fl_8_16 : zz_fl "RequestGate$User" 16 8 2 := ⟨_, _, _, _, rfl, by decide, zw_420, Or.inl rfl⟩
theorem fl_8_23 : zz_fl "RequestGate$User" 23 8 3 := ⟨_, _, _, _, rfl, by decide, zw_421, Or.inl rfl⟩
theorem fl_0_247 : zz_fl "RequestGate" 247 8 3 := ⟨_, _, _, _, rfl, by decide, zw_422, Or.inl rfl⟩
theorem fl_8_29 : zz_fl "RequestGate$User" 29 8 4 := ⟨_, _, _, _, rfl, by decide, zw_423, Or.inl rfl⟩
theorem fl_8_26 : zz_fl "RequestGate$User" 26 8 5 := ⟨_, _, _, _, rfl, by decide, zw_424, Or.inl rfl⟩
theorem fl_11_19 : zz_fl "RequestGate$Service" 19 11 0 := ⟨_, _, _, _, rfl, by decide, zw_460, Or.inl rfl⟩
theorem fl_0_295 : zz_fl "RequestGate" 295 11 0 := ⟨_, _, _, _, rfl, by decide, zw_461, Or.inl rfl⟩
theorem fl_11_23 : zz_fl "RequestGate$Service" 23 11 1 := ⟨_, _, _, _, rfl, by decide, zw_462, Or.inl rfl⟩
theorem fl_0_298 : zz_fl "RequestGate" 298 11 1 := ⟨_, _, _, _, rfl, by decide, zw_463, Or.inl rfl⟩
theorem fl_11_26 : zz_fl "RequestGate$Service" 26 11 2 := ⟨_, _, _, _, rfl, by decide, zw_464, Or.inl rfl⟩
theorem fl_11_9 : zz_fl "RequestGate$Service" 9 11 3 := ⟨_, _, _, _, rfl, by decide, zw_465, Or.inl rfl⟩
theorem fl_11_15 : zz_fl "RequestGate$Service" 15 11 4 := ⟨_, _, _, _, rfl, by decide, zw_466, Or.inl rfl⟩
theorem fl_9_7 : zz_fl "RequestGate$Ticket" 7 9 0 := ⟨_, _, _, _, rfl, by decide, zw_575, Or.inl rfl⟩
theorem fl_10_30 : zz_fl "RequestGate$Tickets" 30 9 0 := ⟨_, _, _, _, rfl, by decide, zw_576, Or.inl rfl⟩
theorem fl_0_178 : zz_fl "RequestGate" 178 9 0 := ⟨_, _, _, _, rfl, by decide, zw_577, Or.inl rfl⟩
theorem fl_9_13 : zz_fl "RequestGate$Ticket" 13 9 1 := ⟨_, _, _, _, rfl, by decide, zw_578, Or.inl rfl⟩
theorem fl_10_26 : zz_fl "RequestGate$Tickets" 26 9 1 := ⟨_, _, _, _, rfl, by decide, zw_579, Or.inl rfl⟩
theorem fl_0_241 : zz_fl "RequestGate" 241 9 1 := ⟨_, _, _, _, rfl, by decide, zw_580, Or.inl rfl⟩
theorem fl_9_16 : zz_fl "RequestGate$Ticket" 16 9 2 := ⟨_, _, _, _, rfl, by decide, zw_581, Or.inl rfl⟩
theorem fl_0_201 : zz_fl "RequestGate" 201 9 2 := ⟨_, _, _, _, rfl, by decide, zw_582, Or.inl rfl⟩
theorem fl_9_19 : zz_fl "RequestGate$Ticket" 19 9 3 := ⟨_, _, _, _, rfl, by decide, zw_583, Or.inl rfl⟩
theorem fl_0_244 : zz_fl "RequestGate" 244 9 3 := ⟨_, _, _, _, rfl, by decide, zw_584, Or.inl rfl⟩
theorem fl_9_23 : zz_fl "RequestGate$Ticket" 23 9 4 := ⟨_, _, _, _, rfl, by decide, zw_585, Or.inl rfl⟩
theorem fl_9_26 : zz_fl "RequestGate$Ticket" 26 9 5 := ⟨_, _, _, _, rfl, by decide, zw_586, Or.inl rfl⟩
theorem fl_10_37 : zz_fl "RequestGate$Tickets" 37 9 5 := ⟨_, _, _, _, rfl, by decide, zw_587, Or.inl rfl⟩
theorem fl_0_265 : zz_fl "RequestGate" 265 9 5 := ⟨_, _, _, _, rfl, by decide, zw_588, Or.inl rfl⟩
theorem fl_13_178 : zz_fl "RequestGateModel" 178 13 0 := ⟨_, _, _, _, rfl, by decide, zw_810, Or.inl rfl⟩
theorem fl_13_192 : zz_fl "RequestGateModel" 192 13 1 := ⟨_, _, _, _, rfl, by decide, zw_811, Or.inl rfl⟩
theorem fl_13_264 : zz_fl "RequestGateModel" 264 13 2 := ⟨_, _, _, _, rfl, by decide, zw_812, Or.inl rfl⟩
theorem fl_13_234 : zz_fl "RequestGateModel" 234 13 3 := ⟨_, _, _, _, rfl, by decide, zw_813, Or.inl rfl⟩
theorem fl_13_237 : zz_fl "RequestGateModel" 237 13 4 := ⟨_, _, _, _, rfl, by decide, zw_814, Or.inl rfl⟩
theorem fl_13_249 : zz_fl "RequestGateModel" 249 13 5 := ⟨_, _, _, _, rfl, by decide, zw_815, Or.inl rfl⟩
theorem fl_13_201 : zz_fl "RequestGateModel" 201 13 6 := ⟨_, _, _, _, rfl, by decide, zw_816, Or.inl rfl⟩
theorem fl_13_7 : zz_fl "RequestGateModel" 7 13 7 := ⟨_, _, _, _, rfl, by decide, zw_817, Or.inl rfl⟩
theorem fl_13_181 : zz_fl "RequestGateModel" 181 13 8 := ⟨_, _, _, _, rfl, by decide, zw_818, Or.inl rfl⟩
theorem fl_13_13 : zz_fl "RequestGateModel" 13 13 9 := ⟨_, _, _, _, rfl, by decide, zw_819, Or.inl rfl⟩
theorem fl_13_16 : zz_fl "RequestGateModel" 16 13 10 := ⟨_, _, _, _, rfl, by decide, zw_820, Or.inl rfl⟩
theorem fl_13_19 : zz_fl "RequestGateModel" 19 13 11 := ⟨_, _, _, _, rfl, by decide, zw_821, Or.inl rfl⟩
theorem fl_13_22 : zz_fl "RequestGateModel" 22 13 12 := ⟨_, _, _, _, rfl, by decide, zw_822, Or.inl rfl⟩
theorem fl_13_25 : zz_fl "RequestGateModel" 25 13 13 := ⟨_, _, _, _, rfl, by decide, zw_823, Or.inl rfl⟩
theorem fl_13_28 : zz_fl "RequestGateModel" 28 13 14 := ⟨_, _, _, _, rfl, by decide, zw_824, Or.inl rfl⟩
theorem fl_13_31 : zz_fl "RequestGateModel" 31 13 15 := ⟨_, _, _, _, rfl, by decide, zw_825, Or.inl rfl⟩
theorem fl_13_35 : zz_fl "RequestGateModel" 35 13 16 := ⟨_, _, _, _, rfl, by decide, zw_826, Or.inl rfl⟩
theorem fl_13_38 : zz_fl "RequestGateModel" 38 13 17 := ⟨_, _, _, _, rfl, by decide, zw_827, Or.inl rfl⟩
theorem fl_13_41 : zz_fl "RequestGateModel" 41 13 18 := ⟨_, _, _, _, rfl, by decide, zw_828, Or.inl rfl⟩
theorem fl_13_44 : zz_fl "RequestGateModel" 44 13 19 := ⟨_, _, _, _, rfl, by decide, zw_829, Or.inl rfl⟩
theorem fl_13_47 : zz_fl "RequestGateModel" 47 13 20 := ⟨_, _, _, _, rfl, by decide, zw_830, Or.inl rfl⟩
theorem fl_13_50 : zz_fl "RequestGateModel" 50 13 21 := ⟨_, _, _, _, rfl, by decide, zw_831, Or.inl rfl⟩
theorem fl_13_53 : zz_fl "RequestGateModel" 53 13 22 := ⟨_, _, _, _, rfl, by decide, zw_832, Or.inl rfl⟩
theorem fl_13_56 : zz_fl "RequestGateModel" 56 13 23 := ⟨_, _, _, _, rfl, by decide, zw_833, Or.inl rfl⟩
theorem fl_13_154 : zz_fl "RequestGateModel" 154 13 24 := ⟨_, _, _, _, rfl, by decide, zw_834, Or.inl rfl⟩
theorem fl_13_59 : zz_fl "RequestGateModel" 59 13 25 := ⟨_, _, _, _, rfl, by decide, zw_835, Or.inl rfl⟩
theorem fl_13_62 : zz_fl "RequestGateModel" 62 13 26 := ⟨_, _, _, _, rfl, by decide, zw_836, Or.inl rfl⟩
theorem fl_13_65 : zz_fl "RequestGateModel" 65 13 27 := ⟨_, _, _, _, rfl, by decide, zw_837, Or.inl rfl⟩
theorem fl_13_68 : zz_fl "RequestGateModel" 68 13 28 := ⟨_, _, _, _, rfl, by decide, zw_838, Or.inl rfl⟩
theorem fl_13_129 : zz_fl "RequestGateModel" 129 13 29 := ⟨_, _, _, _, rfl, by decide, zw_839, Or.inl rfl⟩
theorem fl_13_71 : zz_fl "RequestGateModel" 71 13 30 := ⟨_, _, _, _, rfl, by decide, zw_840, Or.inl rfl⟩
theorem fl_13_74 : zz_fl "RequestGateModel" 74 13 31 := ⟨_, _, _, _, rfl, by decide, zw_841, Or.inl rfl⟩
theorem fl_13_77 : zz_fl "RequestGateModel" 77 13 32 := ⟨_, _, _, _, rfl, by decide, zw_842, Or.inl rfl⟩
theorem fl_13_80 : zz_fl "RequestGateModel" 80 13 33 := ⟨_, _, _, _, rfl, by decide, zw_843, Or.inl rfl⟩
theorem fl_13_83 : zz_fl "RequestGateModel" 83 13 34 := ⟨_, _, _, _, rfl, by decide, zw_844, Or.inl rfl⟩
theorem fl_13_143 : zz_fl "RequestGateModel" 143 13 35 := ⟨_, _, _, _, rfl, by decide, zw_845, Or.inl rfl⟩
theorem fl_13_86 : zz_fl "RequestGateModel" 86 13 36 := ⟨_, _, _, _, rfl, by decide, zw_846, Or.inl rfl⟩
theorem fl_13_89 : zz_fl "RequestGateModel" 89 13 37 := ⟨_, _, _, _, rfl, by decide, zw_847, Or.inl rfl⟩
theorem fl_13_92 : zz_fl "RequestGateModel" 92 13 38 := ⟨_, _, _, _, rfl, by decide, zw_848, Or.inl rfl⟩
theorem fl_13_95 : zz_fl "RequestGateModel" 95 13 39 := ⟨_, _, _, _, rfl, by decide, zw_849, Or.inl rfl⟩
theorem fl_13_171 : zz_fl "RequestGateModel" 171 13 40 := ⟨_, _, _, _, rfl, by decide, zw_850, Or.inl rfl⟩
theorem fl_13_98 : zz_fl "RequestGateModel" 98 13 41 := ⟨_, _, _, _, rfl, by decide, zw_851, Or.inl rfl⟩
theorem fl_13_101 : zz_fl "RequestGateModel" 101 13 42 := ⟨_, _, _, _, rfl, by decide, zw_852, Or.inl rfl⟩
theorem fl_13_104 : zz_fl "RequestGateModel" 104 13 43 := ⟨_, _, _, _, rfl, by decide, zw_853, Or.inl rfl⟩
theorem fl_13_107 : zz_fl "RequestGateModel" 107 13 44 := ⟨_, _, _, _, rfl, by decide, zw_854, Or.inl rfl⟩
theorem fl_13_218 : zz_fl "RequestGateModel" 218 13 45 := ⟨_, _, _, _, rfl, by decide, zw_855, Or.inl rfl⟩
theorem fl_13_110 : zz_fl "RequestGateModel" 110 13 46 := ⟨_, _, _, _, rfl, by decide, zw_856, Or.inl rfl⟩
theorem fl_13_113 : zz_fl "RequestGateModel" 113 13 47 := ⟨_, _, _, _, rfl, by decide, zw_857, Or.inl rfl⟩
theorem fl_13_116 : zz_fl "RequestGateModel" 116 13 48 := ⟨_, _, _, _, rfl, by decide, zw_858, Or.inl rfl⟩
theorem fl_13_119 : zz_fl "RequestGateModel" 119 13 49 := ⟨_, _, _, _, rfl, by decide, zw_859, Or.inl rfl⟩
theorem fl_13_122 : zz_fl "RequestGateModel" 122 13 50 := ⟨_, _, _, _, rfl, by decide, zw_860, Or.inl rfl⟩
theorem fl_13_252 : zz_fl "RequestGateModel" 252 13 51 := ⟨_, _, _, _, rfl, by decide, zw_861, Or.inl rfl⟩
theorem fl_13_125 : zz_fl "RequestGateModel" 125 13 52 := ⟨_, _, _, _, rfl, by decide, zw_862, Or.inl rfl⟩
theorem fl_13_227 : zz_fl "RequestGateModel" 227 13 53 := ⟨_, _, _, _, rfl, by decide, zw_863, Or.inl rfl⟩
theorem fl_13_240 : zz_fl "RequestGateModel" 240 13 54 := ⟨_, _, _, _, rfl, by decide, zw_864, Or.inl rfl⟩
theorem fl_13_243 : zz_fl "RequestGateModel" 243 13 55 := ⟨_, _, _, _, rfl, by decide, zw_865, Or.inl rfl⟩
theorem fp_0_12 : zz_fp mm_0 12 0 0 (.object "RequestGate$Text") := ⟨_, _, _, _, rfl, by decide, zw_171, Or.inl rfl, by decide +kernel, Or.inr ⟨rfl, rfl, rfl⟩⟩
theorem fp_0_19 : zz_fp mm_0 19 0 1 (.object "RequestGate$PlainPath") := ⟨_, _, _, _, rfl, by decide, zw_172, Or.inl rfl, by decide +kernel, Or.inr ⟨rfl, rfl, rfl⟩⟩
theorem fp_0_26 : zz_fp mm_0 26 0 2 (.object "RequestGate$Layer") := ⟨_, _, _, _, rfl, by decide, zw_173, Or.inl rfl, by decide +kernel, Or.inr ⟨rfl, rfl, rfl⟩⟩
theorem fp_0_33 : zz_fp mm_0 33 0 3 (.object "RequestGate$Conditions") := ⟨_, _, _, _, rfl, by decide, zw_174, Or.inl rfl, by decide +kernel, Or.inr ⟨rfl, rfl, rfl⟩⟩
theorem fp_0_40 : zz_fp mm_0 40 0 4 (.object "RequestGate$Roles") := ⟨_, _, _, _, rfl, by decide, zw_175, Or.inl rfl, by decide +kernel, Or.inr ⟨rfl, rfl, rfl⟩⟩
theorem fp_0_47 : zz_fp mm_0 47 0 5 (.object "java/util/ArrayList") := ⟨_, _, _, _, rfl, by decide, zw_176, Or.inl rfl, by decide +kernel, Or.inr ⟨rfl, rfl, rfl⟩⟩
theorem fp_0_51 : zz_fp mm_0 51 0 6 (.object "java/util/ArrayList") := ⟨_, _, _, _, rfl, by decide, zw_177, Or.inl rfl, by decide +kernel, Or.inr ⟨rfl, rfl, rfl⟩⟩
theorem fp_0_54 : zz_fp mm_0 54 0 7 (.object "java/util/ArrayList") := ⟨_, _, _, _, rfl, by decide, zw_178, Or.inl rfl, by decide +kernel, Or.inr ⟨rfl, rfl, rfl⟩⟩
theorem fp_0_60 : zz_fp mm_0 60 0 8 (.object "RequestGate$Tickets") := ⟨_, _, _, _, rfl, by decide, zw_179, Or.inl rfl, by decide +kernel, Or.inr ⟨rfl, rfl, rfl⟩⟩
theorem fp_0_64 : zz_fp mm_0 64 0 9 (.object "RequestGate$Tickets") := ⟨_, _, _, _, rfl, by decide, zw_180, Or.inl rfl, by decide +kernel, Or.inr ⟨rfl, rfl, rfl⟩⟩
theorem fp_0_67 : zz_fp mm_0 67 0 10 (.int) := ⟨_, _, _, _, rfl, by decide, zw_181, Or.inl rfl, by decide +kernel, Or.inl rfl⟩
theorem fp_2_9 : zz_fp mm_2 9 1 0 (.array .char) := ⟨_, _, _, _, rfl, by decide, zw_37, Or.inl rfl, by decide +kernel, Or.inr ⟨rfl, rfl, rfl⟩⟩
theorem fp_3_12 : zz_fp mm_3 12 3 0 (.object "RequestGate$Pieces") := ⟨_, _, _, _, rfl, by decide, zw_82, Or.inl rfl, by decide +kernel, Or.inr ⟨rfl, rfl, rfl⟩⟩
theorem fp_4_9 : zz_fp mm_4 9 2 0 (.array .char) := ⟨_, _, _, _, rfl, by decide, zw_59, Or.inl rfl, by decide +kernel, Or.inr ⟨rfl, rfl, rfl⟩⟩
theorem fp_4_15 : zz_fp mm_4 15 2 1 (.array .int) := ⟨_, _, _, _, rfl, by decide, zw_60, Or.inl rfl, by decide +kernel, Or.inr ⟨rfl, rfl, rfl⟩⟩
theorem fp_4_19 : zz_fp mm_4 19 2 2 (.array .int) := ⟨_, _, _, _, rfl, by decide, zw_61, Or.inl rfl, by decide +kernel, Or.inr ⟨rfl, rfl, rfl⟩⟩
theorem fp_5_9 : zz_fp mm_5 9 4 0 (.array .boolean) := ⟨_, _, _, _, rfl, by decide, zw_93, Or.inl rfl, by decide +kernel, Or.inr ⟨rfl, rfl, rfl⟩⟩
theorem fp_5_15 : zz_fp mm_5 15 4 1 (.array .boolean) := ⟨_, _, _, _, rfl, by decide, zw_94, Or.inl rfl, by decide +kernel, Or.inr ⟨rfl, rfl, rfl⟩⟩
theorem fp_6_9 : zz_fp mm_6 9 7 0 (.array .int) := ⟨_, _, _, _, rfl, by decide, zw_107, Or.inl rfl, by decide +kernel, Or.inr ⟨rfl, rfl, rfl⟩⟩
theorem fp_6_15 : zz_fp mm_6 15 7 1 (.array .int) := ⟨_, _, _, _, rfl, by decide, zw_108, Or.inl rfl, by decide +kernel, Or.inr ⟨rfl, rfl, rfl⟩⟩
theorem fp_6_18 : zz_fp mm_6 18 7 2 (.array .int) := ⟨_, _, _, _, rfl, by decide, zw_109, Or.inl rfl, by decide +kernel, Or.inr ⟨rfl, rfl, rfl⟩⟩
theorem fp_6_21 : zz_fp mm_6 21 7 3 (.array .int) := ⟨_, _, _, _, rfl, by decide, zw_110, Or.inl rfl, by decide +kernel, Or.inr ⟨rfl, rfl, rfl⟩⟩
theorem fp_7_9 : zz_fp mm_7 9 6 0 (.array .int) := ⟨_, _, _, _, rfl, by decide, zw_129, Or.inl rfl, by decide +kernel, Or.inr ⟨rfl, rfl, rfl⟩⟩
theorem fp_8_9 : zz_fp mm_8 9 12 0 (.array (.object "java/lang/Object")) := ⟨_, _, _, _, rfl, by decide, zw_147, Or.inl rfl, by decide +kernel, Or.inl rfl⟩
theorem fp_9_7 : zz_fp mm_9 7 12 2 (.int) := ⟨_, _, _, _, rfl, by decide, zw_149, Or.inl rfl, by decide +kernel, Or.inl rfl⟩
theorem fp_11_10 : zz_fp mm_11 10 10 0 (.object "java/util/ArrayList") := ⟨_, _, _, _, rfl, by decide, zw_167, Or.inl rfl, by decide +kernel, Or.inr ⟨rfl, rfl, rfl⟩⟩
theorem fp_13_19 : zz_fp mm_13 19 1 1 (.int) := ⟨_, _, _, _, rfl, by decide, zw_40, Or.inl rfl, by decide +kernel, Or.inl rfl⟩
theorem fp_16_19 : zz_fp mm_16 19 1 1 (.int) := ⟨_, _, _, _, rfl, by decide, zw_40, Or.inl rfl, by decide +kernel, Or.inl rfl⟩
theorem fp_18_24 : zz_fp mm_18 24 7 4 (.int) := ⟨_, _, _, _, rfl, by decide, zw_111, Or.inl rfl, by decide +kernel, Or.inl rfl⟩
theorem fp_30_10 : zz_fp mm_30 10 5 0 (.object "RequestGate$Pieces") := ⟨_, _, _, _, rfl, by decide, zw_315, Or.inl rfl, by decide +kernel, Or.inr ⟨rfl, rfl, rfl⟩⟩
theorem fp_30_16 : zz_fp mm_30 16 5 1 (.int) := ⟨_, _, _, _, rfl, by decide, zw_317, Or.inl rfl, by decide +kernel, Or.inr ⟨rfl, rfl, rfl⟩⟩
theorem fp_30_20 : zz_fp mm_30 20 5 2 (.int) := ⟨_, _, _, _, rfl, by decide, zw_319, Or.inl rfl, by decide +kernel, Or.inr ⟨rfl, rfl, rfl⟩⟩
theorem fp_31_26 : zz_fp mm_31 26 2 4 (.int) := ⟨_, _, _, _, rfl, by decide, zw_63, Or.inl rfl, by decide +kernel, Or.inl rfl⟩
theorem fp_32_29 : zz_fp mm_32 29 2 5 (.int) := ⟨_, _, _, _, rfl, by decide, zw_65, Or.inl rfl, by decide +kernel, Or.inl rfl⟩
theorem fp_32_22 : zz_fp mm_32 22 2 3 (.int) := ⟨_, _, _, _, rfl, by decide, zw_62, Or.inl rfl, by decide +kernel, Or.inl rfl⟩
theorem fp_33_63 : zz_fp mm_33 63 12 2 (.int) := ⟨_, _, _, _, rfl, by decide, zw_150, Or.inr zw_151, by decide +kernel, Or.inl rfl⟩
theorem fp_34_48 : zz_fp mm_34 48 12 1 (.int) := ⟨_, _, _, _, rfl, by decide, zw_148, Or.inl rfl, by decide +kernel, Or.inl rfl⟩
theorem fp_36_9 : zz_fp mm_36 9 12 0 (.array (.object "java/lang/Object")) := ⟨_, _, _, _, rfl, by decide, zw_147, Or.inl rfl, by decide +kernel, Or.inl rfl⟩
theorem fp_47_256 : zz_fp mm_47 256 0 13 (.int) := ⟨_, _, _, _, rfl, by decide, zw_184, Or.inl rfl, by decide +kernel, Or.inl rfl⟩
theorem fp_48_7 : zz_fp mm_48 7 8 0 (.int) := ⟨_, _, _, _, rfl, by decide, zw_417, Or.inl rfl, by decide +kernel, Or.inr ⟨rfl, rfl, rfl⟩⟩
theorem fp_48_13 : zz_fp mm_48 13 8 1 (.int) := ⟨_, _, _, _, rfl, by decide, zw_419, Or.inl rfl, by decide +kernel, Or.inl rfl⟩
theorem fp_48_16 : zz_fp mm_48 16 8 2 (.int) := ⟨_, _, _, _, rfl, by decide, zw_420, Or.inl rfl, by decide +kernel, Or.inl rfl⟩
theorem fp_48_23 : zz_fp mm_48 23 8 3 (.int) := ⟨_, _, _, _, rfl, by decide, zw_421, Or.inl rfl, by decide +kernel, Or.inl rfl⟩
theorem fp_54_9 : zz_fp mm_54 9 11 3 (.array .boolean) := ⟨_, _, _, _, rfl, by decide, zw_465, Or.inl rfl, by decide +kernel, Or.inr ⟨rfl, rfl, rfl⟩⟩
theorem fp_54_15 : zz_fp mm_54 15 11 4 (.array .int) := ⟨_, _, _, _, rfl, by decide, zw_466, Or.inl rfl, by decide +kernel, Or.inr ⟨rfl, rfl, rfl⟩⟩
theorem fp_54_19 : zz_fp mm_54 19 11 0 (.int) := ⟨_, _, _, _, rfl, by decide, zw_460, Or.inl rfl, by decide +kernel, Or.inr ⟨rfl, rfl, rfl⟩⟩
theorem fp_54_23 : zz_fp mm_54 23 11 1 (.int) := ⟨_, _, _, _, rfl, by decide, zw_462, Or.inl rfl, by decide +kernel, Or.inr ⟨rfl, rfl, rfl⟩⟩
theorem fp_54_26 : zz_fp mm_54 26 11 2 (.int) := ⟨_, _, _, _, rfl, by decide, zw_464, Or.inl rfl, by decide +kernel, Or.inr ⟨rfl, rfl, rfl⟩⟩
theorem fp_62_134 : zz_fp mm_62 134 0 12 (.int) := ⟨_, _, _, _, rfl, by decide, zw_183, Or.inl rfl, by decide +kernel, Or.inl rfl⟩
theorem fp_66_63 : zz_fp mm_66 63 12 2 (.int) := ⟨_, _, _, _, rfl, by decide, zw_150, Or.inr zw_151, by decide +kernel, Or.inl rfl⟩
theorem fp_66_48 : zz_fp mm_66 48 12 1 (.int) := ⟨_, _, _, _, rfl, by decide, zw_148, Or.inl rfl, by decide +kernel, Or.inl rfl⟩
theorem fp_67_153 : zz_fp mm_67 153 0 18 (.int) := ⟨_, _, _, _, rfl, by decide, zw_189, Or.inl rfl, by decide +kernel, Or.inl rfl⟩
theorem fp_71_29 : zz_fp mm_71 29 8 4 (.int) := ⟨_, _, _, _, rfl, by decide, zw_423, Or.inl rfl, by decide +kernel, Or.inl rfl⟩
theorem fp_71_26 : zz_fp mm_71 26 8 5 (.int) := ⟨_, _, _, _, rfl, by decide, zw_424, Or.inl rfl, by decide +kernel, Or.inl rfl⟩
theorem fp_72_29 : zz_fp mm_72 29 8 4 (.int) := ⟨_, _, _, _, rfl, by decide, zw_423, Or.inl rfl, by decide +kernel, Or.inl rfl⟩
theorem fp_74_13 : zz_fp mm_74 13 8 1 (.int) := ⟨_, _, _, _, rfl, by decide, zw_419, Or.inl rfl, by decide +kernel, Or.inl rfl⟩
theorem fp_74_16 : zz_fp mm_74 16 8 2 (.int) := ⟨_, _, _, _, rfl, by decide, zw_420, Or.inl rfl, by decide +kernel, Or.inl rfl⟩
theorem fp_74_23 : zz_fp mm_74 23 8 3 (.int) := ⟨_, _, _, _, rfl, by decide, zw_421, Or.inl rfl, by decide +kernel, Or.inl rfl⟩
theorem fp_77_7 : zz_fp mm_77 7 9 0 (.int) := ⟨_, _, _, _, rfl, by decide, zw_575, Or.inl rfl, by decide +kernel, Or.inr ⟨rfl, rfl, rfl⟩⟩
theorem fp_77_13 : zz_fp mm_77 13 9 1 (.int) := ⟨_, _, _, _, rfl, by decide, zw_578, Or.inl rfl, by decide +kernel, Or.inr ⟨rfl, rfl, rfl⟩⟩
theorem fp_77_16 : zz_fp mm_77 16 9 2 (.int) := ⟨_, _, _, _, rfl, by decide, zw_581, Or.inl rfl, by decide +kernel, Or.inl rfl⟩
theorem fp_77_19 : zz_fp mm_77 19 9 3 (.boolean) := ⟨_, _, _, _, rfl, by decide, zw_583, Or.inl rfl, by decide +kernel, Or.inr ⟨rfl, rfl, rfl⟩⟩
theorem fp_77_23 : zz_fp mm_77 23 9 4 (.int) := ⟨_, _, _, _, rfl, by decide, zw_585, Or.inl rfl, by decide +kernel, Or.inr ⟨rfl, rfl, rfl⟩⟩
theorem fp_77_26 : zz_fp mm_77 26 9 5 (.int) := ⟨_, _, _, _, rfl, by decide, zw_586, Or.inl rfl, by decide +kernel, Or.inl rfl⟩
theorem fp_85_22 : zz_fp mm_85 22 2 3 (.int) := ⟨_, _, _, _, rfl, by decide, zw_62, Or.inl rfl, by decide +kernel, Or.inl rfl⟩
theorem fp_85_26 : zz_fp mm_85 26 2 4 (.int) := ⟨_, _, _, _, rfl, by decide, zw_63, Or.inl rfl, by decide +kernel, Or.inl rfl⟩
theorem fp_85_29 : zz_fp mm_85 29 2 5 (.int) := ⟨_, _, _, _, rfl, by decide, zw_65, Or.inl rfl, by decide +kernel, Or.inl rfl⟩
theorem fp_92_26 : zz_fp mm_92 26 2 4 (.int) := ⟨_, _, _, _, rfl, by decide, zw_63, Or.inl rfl, by decide +kernel, Or.inl rfl⟩
theorem fp_93_29 : zz_fp mm_93 29 2 5 (.int) := ⟨_, _, _, _, rfl, by decide, zw_65, Or.inl rfl, by decide +kernel, Or.inl rfl⟩
theorem fp_94_265 : zz_fp mm_94 265 9 5 (.int) := ⟨_, _, _, _, rfl, by decide, zw_588, Or.inl rfl, by decide +kernel, Or.inl rfl⟩
theorem fp_95_253 : zz_fp mm_95 253 0 17 (.int) := ⟨_, _, _, _, rfl, by decide, zw_188, Or.inl rfl, by decide +kernel, Or.inl rfl⟩
theorem fp_95_201 : zz_fp mm_95 201 9 2 (.int) := ⟨_, _, _, _, rfl, by decide, zw_582, Or.inl rfl, by decide +kernel, Or.inl rfl⟩
theorem fp_96_186 : zz_fp mm_96 186 0 11 (.boolean) := ⟨_, _, _, _, rfl, by decide, zw_182, Or.inl rfl, by decide +kernel, Or.inl rfl⟩
theorem fp_96_67 : zz_fp mm_96 67 0 10 (.int) := ⟨_, _, _, _, rfl, by decide, zw_181, Or.inl rfl, by decide +kernel, Or.inl rfl⟩
theorem fp_96_250 : zz_fp mm_96 250 0 14 (.int) := ⟨_, _, _, _, rfl, by decide, zw_185, Or.inl rfl, by decide +kernel, Or.inl rfl⟩
theorem fp_113_220 : zz_fp mm_113 220 0 15 (.int) := ⟨_, _, _, _, rfl, by decide, zw_186, Or.inl rfl, by decide +kernel, Or.inl rfl⟩
theorem fp_113_223 : zz_fp mm_113 223 0 16 (.int) := ⟨_, _, _, _, rfl, by decide, zw_187, Or.inl rfl, by decide +kernel, Or.inl rfl⟩
theorem fp_119_186 : zz_fp mm_119 186 0 11 (.boolean) := ⟨_, _, _, _, rfl, by decide, zw_182, Or.inl rfl, by decide +kernel, Or.inl rfl⟩
theorem fp_119_67 : zz_fp mm_119 67 0 10 (.int) := ⟨_, _, _, _, rfl, by decide, zw_181, Or.inl rfl, by decide +kernel, Or.inl rfl⟩
theorem fp_126_7 : zz_fp mm_126 7 13 7 (.array .int) := ⟨_, _, _, _, rfl, by decide, zw_817, Or.inl rfl, by decide +kernel, Or.inr ⟨rfl, rfl, rfl⟩⟩
theorem fp_126_13 : zz_fp mm_126 13 13 9 (.array .int) := ⟨_, _, _, _, rfl, by decide, zw_819, Or.inl rfl, by decide +kernel, Or.inr ⟨rfl, rfl, rfl⟩⟩
theorem fp_126_16 : zz_fp mm_126 16 13 10 (.array .int) := ⟨_, _, _, _, rfl, by decide, zw_820, Or.inl rfl, by decide +kernel, Or.inr ⟨rfl, rfl, rfl⟩⟩
theorem fp_126_19 : zz_fp mm_126 19 13 11 (.array .int) := ⟨_, _, _, _, rfl, by decide, zw_821, Or.inl rfl, by decide +kernel, Or.inr ⟨rfl, rfl, rfl⟩⟩
theorem fp_126_22 : zz_fp mm_126 22 13 12 (.array .int) := ⟨_, _, _, _, rfl, by decide, zw_822, Or.inl rfl, by decide +kernel, Or.inr ⟨rfl, rfl, rfl⟩⟩
theorem fp_126_25 : zz_fp mm_126 25 13 13 (.array .int) := ⟨_, _, _, _, rfl, by decide, zw_823, Or.inl rfl, by decide +kernel, Or.inr ⟨rfl, rfl, rfl⟩⟩
theorem fp_126_28 : zz_fp mm_126 28 13 14 (.array .int) := ⟨_, _, _, _, rfl, by decide, zw_824, Or.inl rfl, by decide +kernel, Or.inr ⟨rfl, rfl, rfl⟩⟩
theorem fp_126_31 : zz_fp mm_126 31 13 15 (.array .boolean) := ⟨_, _, _, _, rfl, by decide, zw_825, Or.inl rfl, by decide +kernel, Or.inr ⟨rfl, rfl, rfl⟩⟩
theorem fp_126_35 : zz_fp mm_126 35 13 16 (.array .int) := ⟨_, _, _, _, rfl, by decide, zw_826, Or.inl rfl, by decide +kernel, Or.inr ⟨rfl, rfl, rfl⟩⟩
theorem fp_126_38 : zz_fp mm_126 38 13 17 (.array .int) := ⟨_, _, _, _, rfl, by decide, zw_827, Or.inl rfl, by decide +kernel, Or.inr ⟨rfl, rfl, rfl⟩⟩
theorem fp_126_41 : zz_fp mm_126 41 13 18 (.array .boolean) := ⟨_, _, _, _, rfl, by decide, zw_828, Or.inl rfl, by decide +kernel, Or.inr ⟨rfl, rfl, rfl⟩⟩
theorem fp_126_44 : zz_fp mm_126 44 13 19 (.array .int) := ⟨_, _, _, _, rfl, by decide, zw_829, Or.inl rfl, by decide +kernel, Or.inr ⟨rfl, rfl, rfl⟩⟩
theorem fp_126_47 : zz_fp mm_126 47 13 20 (.array .int) := ⟨_, _, _, _, rfl, by decide, zw_830, Or.inl rfl, by decide +kernel, Or.inr ⟨rfl, rfl, rfl⟩⟩
theorem fp_126_50 : zz_fp mm_126 50 13 21 (.array .boolean) := ⟨_, _, _, _, rfl, by decide, zw_831, Or.inl rfl, by decide +kernel, Or.inr ⟨rfl, rfl, rfl⟩⟩
theorem fp_126_53 : zz_fp mm_126 53 13 22 (.array .int) := ⟨_, _, _, _, rfl, by decide, zw_832, Or.inl rfl, by decide +kernel, Or.inr ⟨rfl, rfl, rfl⟩⟩
theorem fp_126_56 : zz_fp mm_126 56 13 23 (.array .int) := ⟨_, _, _, _, rfl, by decide, zw_833, Or.inl rfl, by decide +kernel, Or.inr ⟨rfl, rfl, rfl⟩⟩
theorem fp_126_59 : zz_fp mm_126 59 13 25 (.array .int) := ⟨_, _, _, _, rfl, by decide, zw_835, Or.inl rfl, by decide +kernel, Or.inr ⟨rfl, rfl, rfl⟩⟩
theorem fp_126_62 : zz_fp mm_126 62 13 26 (.array .int) := ⟨_, _, _, _, rfl, by decide, zw_836, Or.inl rfl, by decide +kernel, Or.inr ⟨rfl, rfl, rfl⟩⟩
theorem fp_126_65 : zz_fp mm_126 65 13 27 (.array .int) := ⟨_, _, _, _, rfl, by decide, zw_837, Or.inl rfl, by decide +kernel, Or.inr ⟨rfl, rfl, rfl⟩⟩
theorem fp_126_68 : zz_fp mm_126 68 13 28 (.array .int) := ⟨_, _, _, _, rfl, by decide, zw_838, Or.inl rfl, by decide +kernel, Or.inr ⟨rfl, rfl, rfl⟩⟩
theorem fp_126_71 : zz_fp mm_126 71 13 30 (.array .int) := ⟨_, _, _, _, rfl, by decide, zw_840, Or.inl rfl, by decide +kernel, Or.inr ⟨rfl, rfl, rfl⟩⟩
theorem fp_126_74 : zz_fp mm_126 74 13 31 (.array .int) := ⟨_, _, _, _, rfl, by decide, zw_841, Or.inl rfl, by decide +kernel, Or.inr ⟨rfl, rfl, rfl⟩⟩
theorem fp_126_77 : zz_fp mm_126 77 13 32 (.array .int) := ⟨_, _, _, _, rfl, by decide, zw_842, Or.inl rfl, by decide +kernel, Or.inr ⟨rfl, rfl, rfl⟩⟩
theorem fp_126_80 : zz_fp mm_126 80 13 33 (.array .int) := ⟨_, _, _, _, rfl, by decide, zw_843, Or.inl rfl, by decide +kernel, Or.inr ⟨rfl, rfl, rfl⟩⟩
theorem fp_126_83 : zz_fp mm_126 83 13 34 (.array .int) := ⟨_, _, _, _, rfl, by decide, zw_844, Or.inl rfl, by decide +kernel, Or.inr ⟨rfl, rfl, rfl⟩⟩
theorem fp_126_86 : zz_fp mm_126 86 13 36 (.array .boolean) := ⟨_, _, _, _, rfl, by decide, zw_846, Or.inl rfl, by decide +kernel, Or.inr ⟨rfl, rfl, rfl⟩⟩
theorem fp_126_89 : zz_fp mm_126 89 13 37 (.array .boolean) := ⟨_, _, _, _, rfl, by decide, zw_847, Or.inl rfl, by decide +kernel, Or.inr ⟨rfl, rfl, rfl⟩⟩
theorem fp_126_92 : zz_fp mm_126 92 13 38 (.array .boolean) := ⟨_, _, _, _, rfl, by decide, zw_848, Or.inl rfl, by decide +kernel, Or.inr ⟨rfl, rfl, rfl⟩⟩
theorem fp_126_95 : zz_fp mm_126 95 13 39 (.array .boolean) := ⟨_, _, _, _, rfl, by decide, zw_849, Or.inl rfl, by decide +kernel, Or.inr ⟨rfl, rfl, rfl⟩⟩
theorem fp_126_98 : zz_fp mm_126 98 13 41 (.array .int) := ⟨_, _, _, _, rfl, by decide, zw_851, Or.inl rfl, by decide +kernel, Or.inr ⟨rfl, rfl, rfl⟩⟩
theorem fp_126_101 : zz_fp mm_126 101 13 42 (.array .int) := ⟨_, _, _, _, rfl, by decide, zw_852, Or.inl rfl, by decide +kernel, Or.inr ⟨rfl, rfl, rfl⟩⟩
theorem fp_126_104 : zz_fp mm_126 104 13 43 (.array .int) := ⟨_, _, _, _, rfl, by decide, zw_853, Or.inl rfl, by decide +kernel, Or.inr ⟨rfl, rfl, rfl⟩⟩
theorem fp_126_107 : zz_fp mm_126 107 13 44 (.array .int) := ⟨_, _, _, _, rfl, by decide, zw_854, Or.inl rfl, by decide +kernel, Or.inr ⟨rfl, rfl, rfl⟩⟩
theorem fp_126_110 : zz_fp mm_126 110 13 46 (.array .int) := ⟨_, _, _, _, rfl, by decide, zw_856, Or.inl rfl, by decide +kernel, Or.inr ⟨rfl, rfl, rfl⟩⟩
theorem fp_126_113 : zz_fp mm_126 113 13 47 (.array .int) := ⟨_, _, _, _, rfl, by decide, zw_857, Or.inl rfl, by decide +kernel, Or.inr ⟨rfl, rfl, rfl⟩⟩
theorem fp_126_116 : zz_fp mm_126 116 13 48 (.array .int) := ⟨_, _, _, _, rfl, by decide, zw_858, Or.inl rfl, by decide +kernel, Or.inr ⟨rfl, rfl, rfl⟩⟩
theorem fp_126_119 : zz_fp mm_126 119 13 49 (.array .boolean) := ⟨_, _, _, _, rfl, by decide, zw_859, Or.inl rfl, by decide +kernel, Or.inr ⟨rfl, rfl, rfl⟩⟩
theorem fp_126_122 : zz_fp mm_126 122 13 50 (.array .int) := ⟨_, _, _, _, rfl, by decide, zw_860, Or.inl rfl, by decide +kernel, Or.inr ⟨rfl, rfl, rfl⟩⟩
theorem fp_126_125 : zz_fp mm_126 125 13 52 (.int) := ⟨_, _, _, _, rfl, by decide, zw_862, Or.inl rfl, by decide +kernel, Or.inl rfl⟩
theorem fp_127_129 : zz_fp mm_127 129 13 29 (.int) := ⟨_, _, _, _, rfl, by decide, zw_839, Or.inl rfl, by decide +kernel, Or.inl rfl⟩
theorem fp_128_129 : zz_fp mm_128 129 13 29 (.int) := ⟨_, _, _, _, rfl, by decide, zw_839, Or.inl rfl, by decide +kernel, Or.inl rfl⟩
theorem fp_129_154 : zz_fp mm_129 154 13 24 (.int) := ⟨_, _, _, _, rfl, by decide, zw_834, Or.inl rfl, by decide +kernel, Or.inl rfl⟩
theorem fp_133_129 : zz_fp mm_133 129 13 29 (.int) := ⟨_, _, _, _, rfl, by decide, zw_839, Or.inl rfl, by decide +kernel, Or.inl rfl⟩
theorem fp_133_171 : zz_fp mm_133 171 13 40 (.int) := ⟨_, _, _, _, rfl, by decide, zw_850, Or.inl rfl, by decide +kernel, Or.inl rfl⟩
theorem fp_136_181 : zz_fp mm_136 181 13 8 (.int) := ⟨_, _, _, _, rfl, by decide, zw_818, Or.inl rfl, by decide +kernel, Or.inl rfl⟩
theorem fp_137_178 : zz_fp mm_137 178 13 0 (.int) := ⟨_, _, _, _, rfl, by decide, zw_810, Or.inl rfl, by decide +kernel, Or.inl rfl⟩
theorem fp_139_201 : zz_fp mm_139 201 13 6 (.int) := ⟨_, _, _, _, rfl, by decide, zw_816, Or.inl rfl, by decide +kernel, Or.inl rfl⟩
theorem fp_147_192 : zz_fp mm_147 192 13 1 (.int) := ⟨_, _, _, _, rfl, by decide, zw_811, Or.inl rfl, by decide +kernel, Or.inl rfl⟩
theorem fp_148_218 : zz_fp mm_148 218 13 45 (.int) := ⟨_, _, _, _, rfl, by decide, zw_855, Or.inl rfl, by decide +kernel, Or.inl rfl⟩
theorem fp_151_234 : zz_fp mm_151 234 13 3 (.int) := ⟨_, _, _, _, rfl, by decide, zw_813, Or.inl rfl, by decide +kernel, Or.inl rfl⟩
theorem fp_151_237 : zz_fp mm_151 237 13 4 (.int) := ⟨_, _, _, _, rfl, by decide, zw_814, Or.inl rfl, by decide +kernel, Or.inl rfl⟩
theorem fp_156_129 : zz_fp mm_156 129 13 29 (.int) := ⟨_, _, _, _, rfl, by decide, zw_839, Or.inl rfl, by decide +kernel, Or.inl rfl⟩
theorem fp_156_252 : zz_fp mm_156 252 13 51 (.boolean) := ⟨_, _, _, _, rfl, by decide, zw_861, Or.inl rfl, by decide +kernel, Or.inl rfl⟩
theorem fp_156_125 : zz_fp mm_156 125 13 52 (.int) := ⟨_, _, _, _, rfl, by decide, zw_862, Or.inl rfl, by decide +kernel, Or.inl rfl⟩
theorem fp_156_227 : zz_fp mm_156 227 13 53 (.boolean) := ⟨_, _, _, _, rfl, by decide, zw_863, Or.inl rfl, by decide +kernel, Or.inl rfl⟩
theorem fp_156_264 : zz_fp mm_156 264 13 2 (.int) := ⟨_, _, _, _, rfl, by decide, zw_812, Or.inl rfl, by decide +kernel, Or.inl rfl⟩
theorem fp_159_143 : zz_fp mm_159 143 13 35 (.int) := ⟨_, _, _, _, rfl, by decide, zw_845, Or.inl rfl, by decide +kernel, Or.inl rfl⟩
theorem fp_161_240 : zz_fp mm_161 240 13 54 (.int) := ⟨_, _, _, _, rfl, by decide, zw_864, Or.inl rfl, by decide +kernel, Or.inl rfl⟩
theorem fp_161_243 : zz_fp mm_161 243 13 55 (.boolean) := ⟨_, _, _, _, rfl, by decide, zw_865, Or.inl rfl, by decide +kernel, Or.inl rfl⟩
theorem fp_161_249 : zz_fp mm_161 249 13 5 (.int) := ⟨_, _, _, _, rfl, by decide, zw_815, Or.inl rfl, by decide +kernel, Or.inl rfl⟩
theorem fp_165_252 : zz_fp mm_165 252 13 51 (.boolean) := ⟨_, _, _, _, rfl, by decide, zw_861, Or.inl rfl, by decide +kernel, Or.inl rfl⟩
theorem fp_165_125 : zz_fp mm_165 125 13 52 (.int) := ⟨_, _, _, _, rfl, by decide, zw_862, Or.inl rfl, by decide +kernel, Or.inl rfl⟩
theorem fp_165_227 : zz_fp mm_165 227 13 53 (.boolean) := ⟨_, _, _, _, rfl, by decide, zw_863, Or.inl rfl, by decide +kernel, Or.inl rfl⟩
theorem nw_RequestGateLaw_7 : zz_nw "RequestGateLaw" 7 0 19 [.null, .null, .null, .null, .null, .null, .null, .null, .null, .null, zv 0, zv 0, zv 0, zv 0, zv 0, zv 0, zv 0, zv 0, zv 0] := ⟨_, _, rfl, zw_23, zw_24, zw_1, by decide +kernel⟩
theorem nw_0_9 : zz_nw "RequestGate" 9 1 2 [.null, zv 0] := ⟨_, _, rfl, zw_31, zw_32, zw_2, by decide +kernel⟩
theorem nw_0_16 : zz_nw "RequestGate" 16 3 1 [.null] := ⟨_, _, rfl, zw_47, zw_48, zw_3, by decide +kernel⟩
theorem nw_3_9 : zz_nw "RequestGate$PlainPath" 9 2 6 [.null, .null, .null, zv 0, zv 0, zv 0] := ⟨_, _, rfl, zw_53, zw_54, zw_4, by decide +kernel⟩
theorem nw_0_23 : zz_nw "RequestGate" 23 4 2 [.null, .null] := ⟨_, _, rfl, zw_87, zw_88, zw_5, by decide +kernel⟩
theorem nw_0_30 : zz_nw "RequestGate" 30 7 5 [.null, .null, .null, .null, zv 0] := ⟨_, _, rfl, zw_101, zw_102, zw_6, by decide +kernel⟩
theorem nw_0_37 : zz_nw "RequestGate" 37 6 1 [.null] := ⟨_, _, rfl, zw_123, zw_124, zw_7, by decide +kernel⟩
theorem nw_0_44 : zz_nw "RequestGate" 44 12 3 [.null, zv 0, zv 0] := ⟨_, _, rfl, zw_133, zw_134, zw_10, by decide +kernel⟩
theorem nw_0_57 : zz_nw "RequestGate" 57 10 1 [.null] := ⟨_, _, rfl, zw_159, zw_160, zw_11, by decide +kernel⟩
theorem nw_10_7 : zz_nw "RequestGate$Tickets" 7 12 3 [.null, zv 0, zv 0] := ⟨_, _, rfl, zw_165, zw_134, zw_10, by decide +kernel⟩
theorem nw_0_90 : zz_nw "RequestGate" 90 5 3 [.null, zv 0, zv 0] := ⟨_, _, rfl, zw_299, zw_300, zw_13, by decide +kernel⟩
theorem nw_5_7 : zz_nw "RequestGate$Rule" 7 2 6 [.null, .null, .null, zv 0, zv 0, zv 0] := ⟨_, _, rfl, zw_305, zw_54, zw_4, by decide +kernel⟩
theorem nw_0_104 : zz_nw "RequestGate" 104 8 6 [zv 0, zv 0, zv 0, zv 0, zv 0, zv 0] := ⟨_, _, rfl, zw_404, zw_405, zw_18, by decide +kernel⟩
theorem nw_0_118 : zz_nw "RequestGate" 118 11 5 [zv 0, zv 0, zv 0, .null, .null] := ⟨_, _, rfl, zw_454, zw_455, zw_19, by decide +kernel⟩
theorem nw_10_24 : zz_nw "RequestGate$Tickets" 24 9 6 [zv 0, zv 0, zv 0, zv 0, zv 0, zv 0] := ⟨_, _, rfl, zw_514, zw_570, zw_22, by decide +kernel⟩
theorem nw_0_179 : zz_nw "RequestGate" 179 9 6 [zv 0, zv 0, zv 0, zv 0, zv 0, zv 0] := ⟨_, _, rfl, zw_569, zw_570, zw_22, by decide +kernel⟩
theorem nw_RequestGateLaw_10 : zz_nw "RequestGateLaw" 10 13 56 [zv 0, zv 0, zv 0, zv 0, zv 0, zv 0, zv 0, .null, zv 0, .null, .null, .null, .null, .null, .null, .null, .null, .null, .null, .null, .null, .null, .null, .null, zv 0, .null, .null, .null, .null, zv 0, .null, .null, .null, .null, .null, zv 0, .null, .null, .null, .null, zv 0, .null, .null, .null, .null, zv 0, .null, .null, .null, .null, .null, zv 0, zv 0, zv 0, zv 0, zv 0] := ⟨_, _, rfl, zw_804, zw_805, zw_12, by decide +kernel⟩
end
section
theorem dk_0_0 : zz_d mm_0 0 (.aload_n 0) 1 1 := ⟨by decide +kernel, rfl⟩
theorem dk_0_1 : zz_d mm_0 1 (.invokespecial 3) 3 4 := ⟨by decide +kernel, rfl⟩
theorem dk_0_4 : zz_d mm_0 4 (.aload_n 0) 1 5 := ⟨by decide +kernel, rfl⟩
theorem dk_0_5 : zz_d mm_0 5 (.new 9) 3 8 := ⟨by decide +kernel, rfl⟩
theorem dk_0_8 : zz_d mm_0 8 .dup 1 9 := ⟨by decide +kernel, rfl⟩
theorem dk_0_9 : zz_d mm_0 9 (.invokespecial 11) 3 12 := ⟨by decide +kernel, rfl⟩
theorem dk_0_12 : zz_d mm_0 12 (.putfield 12) 3 15 := ⟨by decide +kernel, rfl⟩
theorem dk_0_15 : zz_d mm_0 15 (.aload_n 0) 1 16 := ⟨by decide +kernel, rfl⟩
theorem dk_0_16 : zz_d mm_0 16 (.new 16) 3 19 := ⟨by decide +kernel, rfl⟩
theorem dk_0_19 : zz_d mm_0 19 .dup 1 20 := ⟨by decide +kernel, rfl⟩
theorem dk_0_20 : zz_d mm_0 20 (.invokespecial 18) 3 23 := ⟨by decide +kernel, rfl⟩
theorem dk_0_23 : zz_d mm_0 23 (.putfield 19) 3 26 := ⟨by decide +kernel, rfl⟩
theorem dk_0_26 : zz_d mm_0 26 (.aload_n 0) 1 27 := ⟨by decide +kernel, rfl⟩
theorem dk_0_27 : zz_d mm_0 27 (.new 23) 3 30 := ⟨by decide +kernel, rfl⟩
theorem dk_0_30 : zz_d mm_0 30 .dup 1 31 := ⟨by decide +kernel, rfl⟩
theorem dk_0_31 : zz_d mm_0 31 (.invokespecial 25) 3 34 := ⟨by decide +kernel, rfl⟩
theorem dk_0_34 : zz_d mm_0 34 (.putfield 26) 3 37 := ⟨by decide +kernel, rfl⟩
theorem dk_0_37 : zz_d mm_0 37 (.aload_n 0) 1 38 := ⟨by decide +kernel, rfl⟩
theorem dk_0_38 : zz_d mm_0 38 (.new 30) 3 41 := ⟨by decide +kernel, rfl⟩
theorem dk_0_41 : zz_d mm_0 41 .dup 1 42 := ⟨by decide +kernel, rfl⟩
theorem dk_0_42 : zz_d mm_0 42 (.invokespecial 32) 3 45 := ⟨by decide +kernel, rfl⟩
theorem dk_0_45 : zz_d mm_0 45 (.putfield 33) 3 48 := ⟨by decide +kernel, rfl⟩
theorem dk_0_48 : zz_d mm_0 48 (.aload_n 0) 1 49 := ⟨by decide +kernel, rfl⟩
theorem dk_0_49 : zz_d mm_0 49 (.new 37) 3 52 := ⟨by decide +kernel, rfl⟩
theorem dk_0_52 : zz_d mm_0 52 .dup 1 53 := ⟨by decide +kernel, rfl⟩
theorem dk_0_53 : zz_d mm_0 53 (.invokespecial 39) 3 56 := ⟨by decide +kernel, rfl⟩
theorem dk_0_56 : zz_d mm_0 56 (.putfield 40) 3 59 := ⟨by decide +kernel, rfl⟩
theorem dk_0_59 : zz_d mm_0 59 (.aload_n 0) 1 60 := ⟨by decide +kernel, rfl⟩
theorem dk_0_60 : zz_d mm_0 60 (.new 44) 3 63 := ⟨by decide +kernel, rfl⟩
theorem dk_0_63 : zz_d mm_0 63 .dup 1 64 := ⟨by decide +kernel, rfl⟩
theorem dk_0_64 : zz_d mm_0 64 (.invokespecial 46) 3 67 := ⟨by decide +kernel, rfl⟩
theorem dk_0_67 : zz_d mm_0 67 (.putfield 47) 3 70 := ⟨by decide +kernel, rfl⟩
theorem dk_0_70 : zz_d mm_0 70 (.aload_n 0) 1 71 := ⟨by decide +kernel, rfl⟩
theorem dk_0_71 : zz_d mm_0 71 (.new 44) 3 74 := ⟨by decide +kernel, rfl⟩
theorem dk_0_74 : zz_d mm_0 74 .dup 1 75 := ⟨by decide +kernel, rfl⟩
theorem dk_0_75 : zz_d mm_0 75 (.invokespecial 46) 3 78 := ⟨by decide +kernel, rfl⟩
theorem dk_0_78 : zz_d mm_0 78 (.putfield 51) 3 81 := ⟨by decide +kernel, rfl⟩
theorem dk_0_81 : zz_d mm_0 81 (.aload_n 0) 1 82 := ⟨by decide +kernel, rfl⟩
theorem dk_0_82 : zz_d mm_0 82 (.new 44) 3 85 := ⟨by decide +kernel, rfl⟩
theorem dk_0_85 : zz_d mm_0 85 .dup 1 86 := ⟨by decide +kernel, rfl⟩
theorem dk_0_86 : zz_d mm_0 86 (.invokespecial 46) 3 89 := ⟨by decide +kernel, rfl⟩
theorem dk_0_89 : zz_d mm_0 89 (.putfield 54) 3 92 := ⟨by decide +kernel, rfl⟩
theorem dk_0_92 : zz_d mm_0 92 (.aload_n 0) 1 93 := ⟨by decide +kernel, rfl⟩
theorem dk_0_93 : zz_d mm_0 93 (.new 57) 3 96 := ⟨by decide +kernel, rfl⟩
theorem dk_0_96 : zz_d mm_0 96 .dup 1 97 := ⟨by decide +kernel, rfl⟩
theorem dk_0_97 : zz_d mm_0 97 (.invokespecial 59) 3 100 := ⟨by decide +kernel, rfl⟩
theorem dk_0_100 : zz_d mm_0 100 (.putfield 60) 3 103 := ⟨by decide +kernel, rfl⟩
theorem dk_0_103 : zz_d mm_0 103 (.aload_n 0) 1 104 := ⟨by decide +kernel, rfl⟩
theorem dk_0_104 : zz_d mm_0 104 (.new 57) 3 107 := ⟨by decide +kernel, rfl⟩
theorem dk_0_107 : zz_d mm_0 107 .dup 1 108 := ⟨by decide +kernel, rfl⟩
theorem dk_0_108 : zz_d mm_0 108 (.invokespecial 59) 3 111 := ⟨by decide +kernel, rfl⟩
theorem dk_0_111 : zz_d mm_0 111 (.putfield 64) 3 114 := ⟨by decide +kernel, rfl⟩
theorem dk_0_114 : zz_d mm_0 114 (.aload_n 0) 1 115 := ⟨by decide +kernel, rfl⟩
theorem dk_0_115 : zz_d mm_0 115 (.iconst (-1)) 1 116 := ⟨by decide +kernel, rfl⟩
theorem dk_0_116 : zz_d mm_0 116 (.putfield 67) 3 119 := ⟨by decide +kernel, rfl⟩
theorem dk_0_119 : zz_d mm_0 119 .return_ 1 120 := ⟨by decide +kernel, rfl⟩
theorem dk_2_0 : zz_d mm_2 0 (.aload_n 0) 1 1 := ⟨by decide +kernel, rfl⟩
theorem dk_2_1 : zz_d mm_2 1 (.invokespecial 3) 3 4 := ⟨by decide +kernel, rfl⟩
theorem dk_2_4 : zz_d mm_2 4 (.aload_n 0) 1 5 := ⟨by decide +kernel, rfl⟩
theorem dk_2_5 : zz_d mm_2 5 (.bipush 40) 2 7 := ⟨by decide +kernel, rfl⟩
theorem dk_2_7 : zz_d mm_2 7 (.newarray .char) 2 9 := ⟨by decide +kernel, rfl⟩
theorem dk_2_9 : zz_d mm_2 9 (.putfield 9) 3 12 := ⟨by decide +kernel, rfl⟩
theorem dk_2_12 : zz_d mm_2 12 .return_ 1 13 := ⟨by decide +kernel, rfl⟩
theorem dk_3_0 : zz_d mm_3 0 (.aload_n 0) 1 1 := ⟨by decide +kernel, rfl⟩
theorem dk_3_1 : zz_d mm_3 1 (.invokespecial 3) 3 4 := ⟨by decide +kernel, rfl⟩
theorem dk_3_4 : zz_d mm_3 4 (.aload_n 0) 1 5 := ⟨by decide +kernel, rfl⟩
theorem dk_3_5 : zz_d mm_3 5 (.new 9) 3 8 := ⟨by decide +kernel, rfl⟩
theorem dk_3_8 : zz_d mm_3 8 .dup 1 9 := ⟨by decide +kernel, rfl⟩
theorem dk_3_9 : zz_d mm_3 9 (.invokespecial 11) 3 12 := ⟨by decide +kernel, rfl⟩
theorem dk_3_12 : zz_d mm_3 12 (.putfield 12) 3 15 := ⟨by decide +kernel, rfl⟩
theorem dk_3_15 : zz_d mm_3 15 .return_ 1 16 := ⟨by decide +kernel, rfl⟩
theorem dk_4_0 : zz_d mm_4 0 (.aload_n 0) 1 1 := ⟨by decide +kernel, rfl⟩
theorem dk_4_1 : zz_d mm_4 1 (.invokespecial 3) 3 4 := ⟨by decide +kernel, rfl⟩
theorem dk_4_4 : zz_d mm_4 4 (.aload_n 0) 1 5 := ⟨by decide +kernel, rfl⟩
theorem dk_4_5 : zz_d mm_4 5 (.bipush 40) 2 7 := ⟨by decide +kernel, rfl⟩
theorem dk_4_7 : zz_d mm_4 7 (.newarray .char) 2 9 := ⟨by decide +kernel, rfl⟩
theorem dk_4_9 : zz_d mm_4 9 (.putfield 9) 3 12 := ⟨by decide +kernel, rfl⟩
theorem dk_4_12 : zz_d mm_4 12 (.aload_n 0) 1 13 := ⟨by decide +kernel, rfl⟩
theorem dk_4_13 : zz_d mm_4 13 (.bipush 20) 2 15 := ⟨by decide +kernel, rfl⟩
theorem dk_4_15 : zz_d mm_4 15 (.newarray .int) 2 17 := ⟨by decide +kernel, rfl⟩
theorem dk_4_17 : zz_d mm_4 17 (.putfield 15) 3 20 := ⟨by decide +kernel, rfl⟩
theorem dk_4_20 : zz_d mm_4 20 (.aload_n 0) 1 21 := ⟨by decide +kernel, rfl⟩
theorem dk_4_21 : zz_d mm_4 21 (.bipush 20) 2 23 := ⟨by decide +kernel, rfl⟩
theorem dk_4_23 : zz_d mm_4 23 (.newarray .int) 2 25 := ⟨by decide +kernel, rfl⟩
theorem dk_4_25 : zz_d mm_4 25 (.putfield 19) 3 28 := ⟨by decide +kernel, rfl⟩
theorem dk_4_28 : zz_d mm_4 28 .return_ 1 29 := ⟨by decide +kernel, rfl⟩
theorem dk_5_0 : zz_d mm_5 0 (.aload_n 0) 1 1 := ⟨by decide +kernel, rfl⟩
theorem dk_5_1 : zz_d mm_5 1 (.invokespecial 3) 3 4 := ⟨by decide +kernel, rfl⟩
theorem dk_5_4 : zz_d mm_5 4 (.aload_n 0) 1 5 := ⟨by decide +kernel, rfl⟩
theorem dk_5_5 : zz_d mm_5 5 (.bipush 21) 2 7 := ⟨by decide +kernel, rfl⟩
theorem dk_5_7 : zz_d mm_5 7 (.newarray .boolean) 2 9 := ⟨by decide +kernel, rfl⟩
theorem dk_5_9 : zz_d mm_5 9 (.putfield 9) 3 12 := ⟨by decide +kernel, rfl⟩
theorem dk_5_12 : zz_d mm_5 12 (.aload_n 0) 1 13 := ⟨by decide +kernel, rfl⟩
theorem dk_5_13 : zz_d mm_5 13 (.bipush 41) 2 15 := ⟨by decide +kernel, rfl⟩
theorem dk_5_15 : zz_d mm_5 15 (.newarray .boolean) 2 17 := ⟨by decide +kernel, rfl⟩
theorem dk_5_17 : zz_d mm_5 17 (.putfield 15) 3 20 := ⟨by decide +kernel, rfl⟩
theorem dk_5_20 : zz_d mm_5 20 .return_ 1 21 := ⟨by decide +kernel, rfl⟩
theorem dk_6_0 : zz_d mm_6 0 (.aload_n 0) 1 1 := ⟨by decide +kernel, rfl⟩
theorem dk_6_1 : zz_d mm_6 1 (.invokespecial 3) 3 4 := ⟨by decide +kernel, rfl⟩
theorem dk_6_4 : zz_d mm_6 4 (.aload_n 0) 1 5 := ⟨by decide +kernel, rfl⟩
theorem dk_6_5 : zz_d mm_6 5 (.bipush 16) 2 7 := ⟨by decide +kernel, rfl⟩
theorem dk_6_7 : zz_d mm_6 7 (.newarray .int) 2 9 := ⟨by decide +kernel, rfl⟩
theorem dk_6_9 : zz_d mm_6 9 (.putfield 9) 3 12 := ⟨by decide +kernel, rfl⟩
theorem dk_6_12 : zz_d mm_6 12 (.aload_n 0) 1 13 := ⟨by decide +kernel, rfl⟩
theorem dk_6_13 : zz_d mm_6 13 (.bipush 16) 2 15 := ⟨by decide +kernel, rfl⟩
theorem dk_6_15 : zz_d mm_6 15 (.newarray .int) 2 17 := ⟨by decide +kernel, rfl⟩
theorem dk_6_17 : zz_d mm_6 17 (.putfield 15) 3 20 := ⟨by decide +kernel, rfl⟩
theorem dk_6_20 : zz_d mm_6 20 (.aload_n 0) 1 21 := ⟨by decide +kernel, rfl⟩
theorem dk_6_21 : zz_d mm_6 21 (.bipush 16) 2 23 := ⟨by decide +kernel, rfl⟩
theorem dk_6_23 : zz_d mm_6 23 (.newarray .int) 2 25 := ⟨by decide +kernel, rfl⟩
theorem dk_6_25 : zz_d mm_6 25 (.putfield 18) 3 28 := ⟨by decide +kernel, rfl⟩
theorem dk_6_28 : zz_d mm_6 28 (.aload_n 0) 1 29 := ⟨by decide +kernel, rfl⟩
theorem dk_6_29 : zz_d mm_6 29 (.bipush 16) 2 31 := ⟨by decide +kernel, rfl⟩
theorem dk_6_31 : zz_d mm_6 31 (.newarray .int) 2 33 := ⟨by decide +kernel, rfl⟩
theorem dk_6_33 : zz_d mm_6 33 (.putfield 21) 3 36 := ⟨by decide +kernel, rfl⟩
theorem dk_6_36 : zz_d mm_6 36 .return_ 1 37 := ⟨by decide +kernel, rfl⟩
theorem dk_7_0 : zz_d mm_7 0 (.aload_n 0) 1 1 := ⟨by decide +kernel, rfl⟩
theorem dk_7_1 : zz_d mm_7 1 (.invokespecial 3) 3 4 := ⟨by decide +kernel, rfl⟩
theorem dk_7_4 : zz_d mm_7 4 (.aload_n 0) 1 5 := ⟨by decide +kernel, rfl⟩
theorem dk_7_5 : zz_d mm_7 5 (.bipush 8) 2 7 := ⟨by decide +kernel, rfl⟩
theorem dk_7_7 : zz_d mm_7 7 (.newarray .int) 2 9 := ⟨by decide +kernel, rfl⟩
theorem dk_7_9 : zz_d mm_7 9 (.putfield 9) 3 12 := ⟨by decide +kernel, rfl⟩
theorem dk_7_12 : zz_d mm_7 12 (.iconst 0) 1 13 := ⟨by decide +kernel, rfl⟩
theorem dk_7_13 : zz_d mm_7 13 (.istore_n 1) 1 14 := ⟨by decide +kernel, rfl⟩
theorem dk_7_14 : zz_d mm_7 14 (.iload_n 1) 1 15 := ⟨by decide +kernel, rfl⟩
theorem dk_7_15 : zz_d mm_7 15 (.bipush 8) 2 17 := ⟨by decide +kernel, rfl⟩
theorem dk_7_17 : zz_d mm_7 17 (.if_icmp .ge 18) 3 20 := ⟨by decide +kernel, rfl⟩
theorem dk_7_20 : zz_d mm_7 20 (.aload_n 0) 1 21 := ⟨by decide +kernel, rfl⟩
theorem dk_7_21 : zz_d mm_7 21 (.getfield 9) 3 24 := ⟨by decide +kernel, rfl⟩
theorem dk_7_24 : zz_d mm_7 24 (.iload_n 1) 1 25 := ⟨by decide +kernel, rfl⟩
theorem dk_7_25 : zz_d mm_7 25 (.iconst 1) 1 26 := ⟨by decide +kernel, rfl⟩
theorem dk_7_26 : zz_d mm_7 26 (.iload_n 1) 1 27 := ⟨by decide +kernel, rfl⟩
theorem dk_7_27 : zz_d mm_7 27 .ishl 1 28 := ⟨by decide +kernel, rfl⟩
theorem dk_7_28 : zz_d mm_7 28 .iastore 1 29 := ⟨by decide +kernel, rfl⟩
theorem dk_7_29 : zz_d mm_7 29 (.iinc 1 1) 3 32 := ⟨by decide +kernel, rfl⟩
theorem dk_7_32 : zz_d mm_7 32 (.goto (-18)) 3 35 := ⟨by decide +kernel, rfl⟩
theorem dk_7_35 : zz_d mm_7 35 .return_ 1 36 := ⟨by decide +kernel, rfl⟩
theorem dk_8_0 : zz_d mm_8 0 (.aload_n 0) 1 1 := ⟨by decide +kernel, rfl⟩
theorem dk_8_1 : zz_d mm_8 1 (.invokespecial 1) 3 4 := ⟨by decide +kernel, rfl⟩
theorem dk_8_4 : zz_d mm_8 4 (.aload_n 0) 1 5 := ⟨by decide +kernel, rfl⟩
theorem dk_8_5 : zz_d mm_8 5 (.getstatic 39) 3 8 := ⟨by decide +kernel, rfl⟩
theorem dk_8_8 : zz_d mm_8 8 (.putfield 9) 3 11 := ⟨by decide +kernel, rfl⟩
theorem dk_8_11 : zz_d mm_8 11 .return_ 1 12 := ⟨by decide +kernel, rfl⟩
theorem dk_9_0 : zz_d mm_9 0 (.aload_n 0) 1 1 := ⟨by decide +kernel, rfl⟩
theorem dk_9_1 : zz_d mm_9 1 (.invokespecial 1) 3 4 := ⟨by decide +kernel, rfl⟩
theorem dk_9_4 : zz_d mm_9 4 (.aload_n 0) 1 5 := ⟨by decide +kernel, rfl⟩
theorem dk_9_5 : zz_d mm_9 5 (.iconst 0) 1 6 := ⟨by decide +kernel, rfl⟩
theorem dk_9_6 : zz_d mm_9 6 (.putfield 7) 3 9 := ⟨by decide +kernel, rfl⟩
theorem dk_9_9 : zz_d mm_9 9 .return_ 1 10 := ⟨by decide +kernel, rfl⟩
theorem dk_10_0 : zz_d mm_10 0 (.aload_n 0) 1 1 := ⟨by decide +kernel, rfl⟩
theorem dk_10_1 : zz_d mm_10 1 (.invokespecial 1) 3 4 := ⟨by decide +kernel, rfl⟩
theorem dk_10_4 : zz_d mm_10 4 .return_ 1 5 := ⟨by decide +kernel, rfl⟩
theorem dk_11_0 : zz_d mm_11 0 (.aload_n 0) 1 1 := ⟨by decide +kernel, rfl⟩
theorem dk_11_1 : zz_d mm_11 1 (.invokespecial 1) 3 4 := ⟨by decide +kernel, rfl⟩
theorem dk_11_4 : zz_d mm_11 4 (.aload_n 0) 1 5 := ⟨by decide +kernel, rfl⟩
theorem dk_11_5 : zz_d mm_11 5 (.new 7) 3 8 := ⟨by decide +kernel, rfl⟩
theorem dk_11_8 : zz_d mm_11 8 .dup 1 9 := ⟨by decide +kernel, rfl⟩
theorem dk_11_9 : zz_d mm_11 9 (.invokespecial 9) 3 12 := ⟨by decide +kernel, rfl⟩
theorem dk_11_12 : zz_d mm_11 12 (.putfield 10) 3 15 := ⟨by decide +kernel, rfl⟩
theorem dk_11_15 : zz_d mm_11 15 .return_ 1 16 := ⟨by decide +kernel, rfl⟩
theorem dk_12_0 : zz_d mm_12 0 (.aload_n 0) 1 1 := ⟨by decide +kernel, rfl⟩
theorem dk_12_1 : zz_d mm_12 1 (.getfield 12) 3 4 := ⟨by decide +kernel, rfl⟩
theorem dk_12_4 : zz_d mm_12 4 (.iload_n 1) 1 5 := ⟨by decide +kernel, rfl⟩
theorem dk_12_5 : zz_d mm_12 5 (.invokevirtual 71) 3 8 := ⟨by decide +kernel, rfl⟩
theorem dk_12_8 : zz_d mm_12 8 .ireturn 1 9 := ⟨by decide +kernel, rfl⟩
theorem dk_13_0 : zz_d mm_13 0 (.iload_n 1) 1 1 := ⟨by decide +kernel, rfl⟩
theorem dk_13_1 : zz_d mm_13 1 (.invokestatic 15) 3 4 := ⟨by decide +kernel, rfl⟩
theorem dk_13_4 : zz_d mm_13 4 (.ifCond .eq 12) 3 7 := ⟨by decide +kernel, rfl⟩
theorem dk_13_7 : zz_d mm_13 7 (.aload_n 0) 1 8 := ⟨by decide +kernel, rfl⟩
theorem dk_13_8 : zz_d mm_13 8 (.getfield 19) 3 11 := ⟨by decide +kernel, rfl⟩
theorem dk_13_11 : zz_d mm_13 11 (.bipush 40) 2 13 := ⟨by decide +kernel, rfl⟩
theorem dk_13_13 : zz_d mm_13 13 (.if_icmp .lt 5) 3 16 := ⟨by decide +kernel, rfl⟩
theorem dk_13_16 : zz_d mm_13 16 (.iconst 0) 1 17 := ⟨by decide +kernel, rfl⟩
theorem dk_13_17 : zz_d mm_13 17 .ireturn 1 18 := ⟨by decide +kernel, rfl⟩
theorem dk_13_18 : zz_d mm_13 18 (.aload_n 0) 1 19 := ⟨by decide +kernel, rfl⟩
theorem dk_13_19 : zz_d mm_13 19 (.getfield 9) 3 22 := ⟨by decide +kernel, rfl⟩
theorem dk_13_22 : zz_d mm_13 22 (.aload_n 0) 1 23 := ⟨by decide +kernel, rfl⟩
theorem dk_13_23 : zz_d mm_13 23 (.getfield 19) 3 26 := ⟨by decide +kernel, rfl⟩
theorem dk_13_26 : zz_d mm_13 26 (.iload_n 1) 1 27 := ⟨by decide +kernel, rfl⟩
theorem dk_13_27 : zz_d mm_13 27 .i2c 1 28 := ⟨by decide +kernel, rfl⟩
theorem dk_13_28 : zz_d mm_13 28 .castore 1 29 := ⟨by decide +kernel, rfl⟩
theorem dk_13_29 : zz_d mm_13 29 (.aload_n 0) 1 30 := ⟨by decide +kernel, rfl⟩
theorem dk_13_30 : zz_d mm_13 30 .dup 1 31 := ⟨by decide +kernel, rfl⟩
theorem dk_13_31 : zz_d mm_13 31 (.getfield 19) 3 34 := ⟨by decide +kernel, rfl⟩
theorem dk_13_34 : zz_d mm_13 34 (.iconst 1) 1 35 := ⟨by decide +kernel, rfl⟩
theorem dk_13_35 : zz_d mm_13 35 .iadd 1 36 := ⟨by decide +kernel, rfl⟩
theorem dk_13_36 : zz_d mm_13 36 (.putfield 19) 3 39 := ⟨by decide +kernel, rfl⟩
theorem dk_13_39 : zz_d mm_13 39 (.iconst 1) 1 40 := ⟨by decide +kernel, rfl⟩
theorem dk_13_40 : zz_d mm_13 40 .ireturn 1 41 := ⟨by decide +kernel, rfl⟩
theorem dk_14_0 : zz_d mm_14 0 (.iload_n 0) 1 1 := ⟨by decide +kernel, rfl⟩
theorem dk_14_1 : zz_d mm_14 1 (.bipush 33) 2 3 := ⟨by decide +kernel, rfl⟩
theorem dk_14_3 : zz_d mm_14 3 (.if_icmp .lt 13) 3 6 := ⟨by decide +kernel, rfl⟩
theorem dk_14_6 : zz_d mm_14 6 (.iload_n 0) 1 7 := ⟨by decide +kernel, rfl⟩
theorem dk_14_7 : zz_d mm_14 7 (.bipush 126) 2 9 := ⟨by decide +kernel, rfl⟩
theorem dk_14_9 : zz_d mm_14 9 (.if_icmp .gt 7) 3 12 := ⟨by decide +kernel, rfl⟩
theorem dk_14_12 : zz_d mm_14 12 (.iconst 1) 1 13 := ⟨by decide +kernel, rfl⟩
theorem dk_14_13 : zz_d mm_14 13 (.goto 4) 3 16 := ⟨by decide +kernel, rfl⟩
theorem dk_14_16 : zz_d mm_14 16 (.iconst 0) 1 17 := ⟨by decide +kernel, rfl⟩
theorem dk_14_17 : zz_d mm_14 17 .ireturn 1 18 := ⟨by decide +kernel, rfl⟩
theorem dk_15_0 : zz_d mm_15 0 (.aload_n 0) 1 1 := ⟨by decide +kernel, rfl⟩
theorem dk_15_1 : zz_d mm_15 1 (.getfield 12) 3 4 := ⟨by decide +kernel, rfl⟩
theorem dk_15_4 : zz_d mm_15 4 (.invokevirtual 75) 3 7 := ⟨by decide +kernel, rfl⟩
theorem dk_15_7 : zz_d mm_15 7 .return_ 1 8 := ⟨by decide +kernel, rfl⟩
theorem dk_16_0 : zz_d mm_16 0 (.aload_n 0) 1 1 := ⟨by decide +kernel, rfl⟩
theorem dk_16_1 : zz_d mm_16 1 (.iconst 0) 1 2 := ⟨by decide +kernel, rfl⟩
theorem dk_16_2 : zz_d mm_16 2 (.putfield 19) 3 5 := ⟨by decide +kernel, rfl⟩
theorem dk_16_5 : zz_d mm_16 5 .return_ 1 6 := ⟨by decide +kernel, rfl⟩
theorem dk_17_0 : zz_d mm_17 0 (.aload_n 0) 1 1 := ⟨by decide +kernel, rfl⟩
theorem dk_17_1 : zz_d mm_17 1 (.getfield 33) 3 4 := ⟨by decide +kernel, rfl⟩
theorem dk_17_4 : zz_d mm_17 4 (.iload_n 1) 1 5 := ⟨by decide +kernel, rfl⟩
theorem dk_17_5 : zz_d mm_17 5 (.iload_n 2) 1 6 := ⟨by decide +kernel, rfl⟩
theorem dk_17_6 : zz_d mm_17 6 (.iload_n 3) 1 7 := ⟨by decide +kernel, rfl⟩
theorem dk_17_7 : zz_d mm_17 7 (.invokevirtual 78) 3 10 := ⟨by decide +kernel, rfl⟩
theorem dk_17_10 : zz_d mm_17 10 .ireturn 1 11 := ⟨by decide +kernel, rfl⟩
theorem dk_18_0 : zz_d mm_18 0 (.aload_n 0) 1 1 := ⟨by decide +kernel, rfl⟩
theorem dk_18_1 : zz_d mm_18 1 (.getfield 24) 3 4 := ⟨by decide +kernel, rfl⟩
theorem dk_18_4 : zz_d mm_18 4 (.bipush 16) 2 6 := ⟨by decide +kernel, rfl⟩
theorem dk_18_6 : zz_d mm_18 6 (.if_icmp .ge 23) 3 9 := ⟨by decide +kernel, rfl⟩
theorem dk_18_9 : zz_d mm_18 9 (.iload_n 1) 1 10 := ⟨by decide +kernel, rfl⟩
theorem dk_18_10 : zz_d mm_18 10 (.ifCond .lt 19) 3 13 := ⟨by decide +kernel, rfl⟩
theorem dk_18_13 : zz_d mm_18 13 (.iload_n 1) 1 14 := ⟨by decide +kernel, rfl⟩
theorem dk_18_14 : zz_d mm_18 14 (.bipush 9) 2 16 := ⟨by decide +kernel, rfl⟩
theorem dk_18_16 : zz_d mm_18 16 (.if_icmp .gt 13) 3 19 := ⟨by decide +kernel, rfl⟩
theorem dk_18_19 : zz_d mm_18 19 (.aload_n 0) 1 20 := ⟨by decide +kernel, rfl⟩
theorem dk_18_20 : zz_d mm_18 20 (.iload_n 1) 1 21 := ⟨by decide +kernel, rfl⟩
theorem dk_18_21 : zz_d mm_18 21 (.iload_n 2) 1 22 := ⟨by decide +kernel, rfl⟩
theorem dk_18_22 : zz_d mm_18 22 (.iload_n 3) 1 23 := ⟨by decide +kernel, rfl⟩
theorem dk_18_23 : zz_d mm_18 23 (.invokevirtual 28) 3 26 := ⟨by decide +kernel, rfl⟩
theorem dk_18_26 : zz_d mm_18 26 (.ifCond .ne 5) 3 29 := ⟨by decide +kernel, rfl⟩
theorem dk_18_29 : zz_d mm_18 29 (.iconst (-1)) 1 30 := ⟨by decide +kernel, rfl⟩
theorem dk_18_30 : zz_d mm_18 30 .ireturn 1 31 := ⟨by decide +kernel, rfl⟩
theorem dk_18_31 : zz_d mm_18 31 (.aload_n 0) 1 32 := ⟨by decide +kernel, rfl⟩
theorem dk_18_32 : zz_d mm_18 32 (.getfield 9) 3 35 := ⟨by decide +kernel, rfl⟩
theorem dk_18_35 : zz_d mm_18 35 (.aload_n 0) 1 36 := ⟨by decide +kernel, rfl⟩
theorem dk_18_36 : zz_d mm_18 36 (.getfield 24) 3 39 := ⟨by decide +kernel, rfl⟩
theorem dk_18_39 : zz_d mm_18 39 (.iload_n 1) 1 40 := ⟨by decide +kernel, rfl⟩
theorem dk_18_40 : zz_d mm_18 40 .iastore 1 41 := ⟨by decide +kernel, rfl⟩
theorem dk_18_41 : zz_d mm_18 41 (.aload_n 0) 1 42 := ⟨by decide +kernel, rfl⟩
theorem dk_18_42 : zz_d mm_18 42 (.getfield 15) 3 45 := ⟨by decide +kernel, rfl⟩
theorem dk_18_45 : zz_d mm_18 45 (.aload_n 0) 1 46 := ⟨by decide +kernel, rfl⟩
theorem dk_18_46 : zz_d mm_18 46 (.getfield 24) 3 49 := ⟨by decide +kernel, rfl⟩
theorem dk_18_49 : zz_d mm_18 49 (.iload_n 2) 1 50 := ⟨by decide +kernel, rfl⟩
theorem dk_18_50 : zz_d mm_18 50 .iastore 1 51 := ⟨by decide +kernel, rfl⟩
theorem dk_18_51 : zz_d mm_18 51 (.aload_n 0) 1 52 := ⟨by decide +kernel, rfl⟩
theorem dk_18_52 : zz_d mm_18 52 (.getfield 18) 3 55 := ⟨by decide +kernel, rfl⟩
theorem dk_18_55 : zz_d mm_18 55 (.aload_n 0) 1 56 := ⟨by decide +kernel, rfl⟩
theorem dk_18_56 : zz_d mm_18 56 (.getfield 24) 3 59 := ⟨by decide +kernel, rfl⟩
theorem dk_18_59 : zz_d mm_18 59 (.iload_n 3) 1 60 := ⟨by decide +kernel, rfl⟩
theorem dk_18_60 : zz_d mm_18 60 .iastore 1 61 := ⟨by decide +kernel, rfl⟩
theorem dk_18_61 : zz_d mm_18 61 (.aload_n 0) 1 62 := ⟨by decide +kernel, rfl⟩
theorem dk_18_62 : zz_d mm_18 62 .dup 1 63 := ⟨by decide +kernel, rfl⟩
theorem dk_18_63 : zz_d mm_18 63 (.getfield 24) 3 66 := ⟨by decide +kernel, rfl⟩
theorem dk_18_66 : zz_d mm_18 66 (.iconst 1) 1 67 := ⟨by decide +kernel, rfl⟩
theorem dk_18_67 : zz_d mm_18 67 .iadd 1 68 := ⟨by decide +kernel, rfl⟩
theorem dk_18_68 : zz_d mm_18 68 (.putfield 24) 3 71 := ⟨by decide +kernel, rfl⟩
theorem dk_18_71 : zz_d mm_18 71 (.aload_n 0) 1 72 := ⟨by decide +kernel, rfl⟩
theorem dk_18_72 : zz_d mm_18 72 (.getfield 24) 3 75 := ⟨by decide +kernel, rfl⟩
theorem dk_18_75 : zz_d mm_18 75 (.iconst 1) 1 76 := ⟨by decide +kernel, rfl⟩
theorem dk_18_76 : zz_d mm_18 76 .isub 1 77 := ⟨by decide +kernel, rfl⟩
theorem dk_18_77 : zz_d mm_18 77 .ireturn 1 78 := ⟨by decide +kernel, rfl⟩
theorem dk_19_0 : zz_d mm_19 0 (.iload_n 1) 1 1 := ⟨by decide +kernel, rfl⟩
theorem dk_19_1 : zz_d mm_19 1 (.tableswitch 64 3 6 #[31, 36, 42, 42]) 31 32 := ⟨by decide +kernel, rfl⟩
theorem dk_19_32 : zz_d mm_19 32 (.iload_n 2) 1 33 := ⟨by decide +kernel, rfl⟩
theorem dk_19_33 : zz_d mm_19 33 (.invokestatic 32) 3 36 := ⟨by decide +kernel, rfl⟩
theorem dk_19_36 : zz_d mm_19 36 .ireturn 1 37 := ⟨by decide +kernel, rfl⟩
theorem dk_19_37 : zz_d mm_19 37 (.aload_n 0) 1 38 := ⟨by decide +kernel, rfl⟩
theorem dk_19_38 : zz_d mm_19 38 (.iload_n 2) 1 39 := ⟨by decide +kernel, rfl⟩
theorem dk_19_39 : zz_d mm_19 39 (.invokevirtual 38) 3 42 := ⟨by decide +kernel, rfl⟩
theorem dk_19_42 : zz_d mm_19 42 .ireturn 1 43 := ⟨by decide +kernel, rfl⟩
theorem dk_19_43 : zz_d mm_19 43 (.aload_n 0) 1 44 := ⟨by decide +kernel, rfl⟩
theorem dk_19_44 : zz_d mm_19 44 (.iload_n 2) 1 45 := ⟨by decide +kernel, rfl⟩
theorem dk_19_45 : zz_d mm_19 45 (.invokevirtual 38) 3 48 := ⟨by decide +kernel, rfl⟩
theorem dk_19_48 : zz_d mm_19 48 (.ifCond .eq 15) 3 51 := ⟨by decide +kernel, rfl⟩
theorem dk_19_51 : zz_d mm_19 51 (.aload_n 0) 1 52 := ⟨by decide +kernel, rfl⟩
theorem dk_19_52 : zz_d mm_19 52 (.iload_n 3) 1 53 := ⟨by decide +kernel, rfl⟩
theorem dk_19_53 : zz_d mm_19 53 (.invokevirtual 38) 3 56 := ⟨by decide +kernel, rfl⟩
theorem dk_19_56 : zz_d mm_19 56 (.ifCond .eq 7) 3 59 := ⟨by decide +kernel, rfl⟩
theorem dk_19_59 : zz_d mm_19 59 (.iconst 1) 1 60 := ⟨by decide +kernel, rfl⟩
theorem dk_19_60 : zz_d mm_19 60 (.goto 4) 3 63 := ⟨by decide +kernel, rfl⟩
theorem dk_19_63 : zz_d mm_19 63 (.iconst 0) 1 64 := ⟨by decide +kernel, rfl⟩
theorem dk_19_64 : zz_d mm_19 64 .ireturn 1 65 := ⟨by decide +kernel, rfl⟩
theorem dk_19_65 : zz_d mm_19 65 (.iconst 1) 1 66 := ⟨by decide +kernel, rfl⟩
theorem dk_19_66 : zz_d mm_19 66 .ireturn 1 67 := ⟨by decide +kernel, rfl⟩
theorem dk_20_0 : zz_d mm_20 0 (.iload_n 0) 1 1 := ⟨by decide +kernel, rfl⟩
theorem dk_20_1 : zz_d mm_20 1 (.ifCond .lt 13) 3 4 := ⟨by decide +kernel, rfl⟩
theorem dk_20_4 : zz_d mm_20 4 (.iload_n 0) 1 5 := ⟨by decide +kernel, rfl⟩
theorem dk_20_5 : zz_d mm_20 5 (.bipush 8) 2 7 := ⟨by decide +kernel, rfl⟩
theorem dk_20_7 : zz_d mm_20 7 (.if_icmp .ge 7) 3 10 := ⟨by decide +kernel, rfl⟩
theorem dk_20_10 : zz_d mm_20 10 (.iconst 1) 1 11 := ⟨by decide +kernel, rfl⟩
theorem dk_20_11 : zz_d mm_20 11 (.goto 4) 3 14 := ⟨by decide +kernel, rfl⟩
theorem dk_20_14 : zz_d mm_20 14 (.iconst 0) 1 15 := ⟨by decide +kernel, rfl⟩
theorem dk_20_15 : zz_d mm_20 15 .ireturn 1 16 := ⟨by decide +kernel, rfl⟩
theorem dk_21_0 : zz_d mm_21 0 (.iload_n 1) 1 1 := ⟨by decide +kernel, rfl⟩
theorem dk_21_1 : zz_d mm_21 1 (.ifCond .lt 15) 3 4 := ⟨by decide +kernel, rfl⟩
theorem dk_21_4 : zz_d mm_21 4 (.iload_n 1) 1 5 := ⟨by decide +kernel, rfl⟩
theorem dk_21_5 : zz_d mm_21 5 (.aload_n 0) 1 6 := ⟨by decide +kernel, rfl⟩
theorem dk_21_6 : zz_d mm_21 6 (.getfield 24) 3 9 := ⟨by decide +kernel, rfl⟩
theorem dk_21_9 : zz_d mm_21 9 (.if_icmp .ge 7) 3 12 := ⟨by decide +kernel, rfl⟩
theorem dk_21_12 : zz_d mm_21 12 (.iconst 1) 1 13 := ⟨by decide +kernel, rfl⟩
theorem dk_21_13 : zz_d mm_21 13 (.goto 4) 3 16 := ⟨by decide +kernel, rfl⟩
theorem dk_21_16 : zz_d mm_21 16 (.iconst 0) 1 17 := ⟨by decide +kernel, rfl⟩
theorem dk_21_17 : zz_d mm_21 17 .ireturn 1 18 := ⟨by decide +kernel, rfl⟩
theorem dk_22_0 : zz_d mm_22 0 (.aload_n 0) 1 1 := ⟨by decide +kernel, rfl⟩
theorem dk_22_1 : zz_d mm_22 1 (.getfield 47) 3 4 := ⟨by decide +kernel, rfl⟩
theorem dk_22_4 : zz_d mm_22 4 (.invokevirtual 82) 3 7 := ⟨by decide +kernel, rfl⟩
theorem dk_22_7 : zz_d mm_22 7 (.bipush 8) 2 9 := ⟨by decide +kernel, rfl⟩
theorem dk_22_9 : zz_d mm_22 9 (.if_icmp .ge 14) 3 12 := ⟨by decide +kernel, rfl⟩
theorem dk_22_12 : zz_d mm_22 12 (.aload_n 0) 1 13 := ⟨by decide +kernel, rfl⟩
theorem dk_22_13 : zz_d mm_22 13 (.getfield 33) 3 16 := ⟨by decide +kernel, rfl⟩
theorem dk_22_16 : zz_d mm_22 16 (.iload_n 1) 1 17 := ⟨by decide +kernel, rfl⟩
theorem dk_22_17 : zz_d mm_22 17 (.invokevirtual 86) 3 20 := ⟨by decide +kernel, rfl⟩
theorem dk_22_20 : zz_d mm_22 20 (.ifCond .ne 5) 3 23 := ⟨by decide +kernel, rfl⟩
theorem dk_22_23 : zz_d mm_22 23 (.iconst (-1)) 1 24 := ⟨by decide +kernel, rfl⟩
theorem dk_22_24 : zz_d mm_22 24 .ireturn 1 25 := ⟨by decide +kernel, rfl⟩
theorem dk_22_25 : zz_d mm_22 25 (.iload_n 2) 1 26 := ⟨by decide +kernel, rfl⟩
theorem dk_22_26 : zz_d mm_22 26 (.iconst 1) 1 27 := ⟨by decide +kernel, rfl⟩
theorem dk_22_27 : zz_d mm_22 27 (.if_icmp .lt 19) 3 30 := ⟨by decide +kernel, rfl⟩
theorem dk_22_30 : zz_d mm_22 30 (.iload_n 2) 1 31 := ⟨by decide +kernel, rfl⟩
theorem dk_22_31 : zz_d mm_22 31 (.bipush 15) 2 33 := ⟨by decide +kernel, rfl⟩
theorem dk_22_33 : zz_d mm_22 33 (.if_icmp .gt 13) 3 36 := ⟨by decide +kernel, rfl⟩
theorem dk_22_36 : zz_d mm_22 36 (.aload_n 0) 1 37 := ⟨by decide +kernel, rfl⟩
theorem dk_22_37 : zz_d mm_22 37 (.getfield 12) 3 40 := ⟨by decide +kernel, rfl⟩
theorem dk_22_40 : zz_d mm_22 40 (.invokestatic 89) 3 43 := ⟨by decide +kernel, rfl⟩
theorem dk_22_43 : zz_d mm_22 43 (.ifCond .ne 5) 3 46 := ⟨by decide +kernel, rfl⟩
theorem dk_22_46 : zz_d mm_22 46 (.iconst (-1)) 1 47 := ⟨by decide +kernel, rfl⟩
theorem dk_22_47 : zz_d mm_22 47 .ireturn 1 48 := ⟨by decide +kernel, rfl⟩
theorem dk_22_48 : zz_d mm_22 48 (.aload_n 0) 1 49 := ⟨by decide +kernel, rfl⟩
theorem dk_22_49 : zz_d mm_22 49 (.getfield 47) 3 52 := ⟨by decide +kernel, rfl⟩
theorem dk_22_52 : zz_d mm_22 52 (.new 90) 3 55 := ⟨by decide +kernel, rfl⟩
theorem dk_22_55 : zz_d mm_22 55 .dup 1 56 := ⟨by decide +kernel, rfl⟩
theorem dk_22_56 : zz_d mm_22 56 (.aload_n 0) 1 57 := ⟨by decide +kernel, rfl⟩
theorem dk_22_57 : zz_d mm_22 57 (.getfield 12) 3 60 := ⟨by decide +kernel, rfl⟩
theorem dk_22_60 : zz_d mm_22 60 (.iload_n 1) 1 61 := ⟨by decide +kernel, rfl⟩
theorem dk_22_61 : zz_d mm_22 61 (.iload_n 2) 1 62 := ⟨by decide +kernel, rfl⟩
theorem dk_22_62 : zz_d mm_22 62 (.invokespecial 95) 3 65 := ⟨by decide +kernel, rfl⟩
theorem dk_22_65 : zz_d mm_22 65 (.invokevirtual 98) 3 68 := ⟨by decide +kernel, rfl⟩
theorem dk_22_68 : zz_d mm_22 68 .pop 1 69 := ⟨by decide +kernel, rfl⟩
theorem dk_22_69 : zz_d mm_22 69 (.aload_n 0) 1 70 := ⟨by decide +kernel, rfl⟩
theorem dk_22_70 : zz_d mm_22 70 (.getfield 12) 3 73 := ⟨by decide +kernel, rfl⟩
theorem dk_22_73 : zz_d mm_22 73 (.invokevirtual 75) 3 76 := ⟨by decide +kernel, rfl⟩
theorem dk_22_76 : zz_d mm_22 76 (.aload_n 0) 1 77 := ⟨by decide +kernel, rfl⟩
theorem dk_22_77 : zz_d mm_22 77 (.getfield 47) 3 80 := ⟨by decide +kernel, rfl⟩
theorem dk_22_80 : zz_d mm_22 80 (.invokevirtual 82) 3 83 := ⟨by decide +kernel, rfl⟩
theorem dk_22_83 : zz_d mm_22 83 (.iconst 1) 1 84 := ⟨by decide +kernel, rfl⟩
theorem dk_22_84 : zz_d mm_22 84 .isub 1 85 := ⟨by decide +kernel, rfl⟩
theorem dk_22_85 : zz_d mm_22 85 .ireturn 1 86 := ⟨by decide +kernel, rfl⟩
theorem dk_23_0 : zz_d mm_23 0 (.aload_n 0) 1 1 := ⟨by decide +kernel, rfl⟩
theorem dk_23_1 : zz_d mm_23 1 (.getfield 48) 3 4 := ⟨by decide +kernel, rfl⟩
theorem dk_23_4 : zz_d mm_23 4 .ireturn 1 5 := ⟨by decide +kernel, rfl⟩
theorem dk_24_0 : zz_d mm_24 0 (.aload_n 0) 1 1 := ⟨by decide +kernel, rfl⟩
theorem dk_24_1 : zz_d mm_24 1 (.iconst 0) 1 2 := ⟨by decide +kernel, rfl⟩
theorem dk_24_2 : zz_d mm_24 2 (.invokevirtual 32) 3 5 := ⟨by decide +kernel, rfl⟩
theorem dk_24_5 : zz_d mm_24 5 (.bipush 47) 2 7 := ⟨by decide +kernel, rfl⟩
theorem dk_24_7 : zz_d mm_24 7 (.if_icmp .ne 30) 3 10 := ⟨by decide +kernel, rfl⟩
theorem dk_24_10 : zz_d mm_24 10 (.aload_n 0) 1 11 := ⟨by decide +kernel, rfl⟩
theorem dk_24_11 : zz_d mm_24 11 (.bipush 92) 2 13 := ⟨by decide +kernel, rfl⟩
theorem dk_24_13 : zz_d mm_24 13 (.invokevirtual 43) 3 16 := ⟨by decide +kernel, rfl⟩
theorem dk_24_16 : zz_d mm_24 16 (.ifCond .ne 21) 3 19 := ⟨by decide +kernel, rfl⟩
theorem dk_24_19 : zz_d mm_24 19 (.aload_n 0) 1 20 := ⟨by decide +kernel, rfl⟩
theorem dk_24_20 : zz_d mm_24 20 (.bipush 37) 2 22 := ⟨by decide +kernel, rfl⟩
theorem dk_24_22 : zz_d mm_24 22 (.invokevirtual 43) 3 25 := ⟨by decide +kernel, rfl⟩
theorem dk_24_25 : zz_d mm_24 25 (.ifCond .ne 12) 3 28 := ⟨by decide +kernel, rfl⟩
theorem dk_24_28 : zz_d mm_24 28 (.aload_n 0) 1 29 := ⟨by decide +kernel, rfl⟩
theorem dk_24_29 : zz_d mm_24 29 (.bipush 59) 2 31 := ⟨by decide +kernel, rfl⟩
theorem dk_24_31 : zz_d mm_24 31 (.invokevirtual 43) 3 34 := ⟨by decide +kernel, rfl⟩
theorem dk_24_34 : zz_d mm_24 34 (.ifCond .eq 5) 3 37 := ⟨by decide +kernel, rfl⟩
theorem dk_24_37 : zz_d mm_24 37 (.iconst 0) 1 38 := ⟨by decide +kernel, rfl⟩
theorem dk_24_38 : zz_d mm_24 38 .ireturn 1 39 := ⟨by decide +kernel, rfl⟩
theorem dk_24_39 : zz_d mm_24 39 (.aload_n 0) 1 40 := ⟨by decide +kernel, rfl⟩
theorem dk_24_40 : zz_d mm_24 40 (.getfield 23) 3 43 := ⟨by decide +kernel, rfl⟩
theorem dk_24_43 : zz_d mm_24 43 (.iconst 1) 1 44 := ⟨by decide +kernel, rfl⟩
theorem dk_24_44 : zz_d mm_24 44 (.if_icmp .ne 5) 3 47 := ⟨by decide +kernel, rfl⟩
theorem dk_24_47 : zz_d mm_24 47 (.iconst 1) 1 48 := ⟨by decide +kernel, rfl⟩
theorem dk_24_48 : zz_d mm_24 48 .ireturn 1 49 := ⟨by decide +kernel, rfl⟩
theorem dk_24_49 : zz_d mm_24 49 (.iconst 1) 1 50 := ⟨by decide +kernel, rfl⟩
theorem dk_24_50 : zz_d mm_24 50 (.istore_n 1) 1 51 := ⟨by decide +kernel, rfl⟩
theorem dk_24_51 : zz_d mm_24 51 (.iconst 1) 1 52 := ⟨by decide +kernel, rfl⟩
theorem dk_24_52 : zz_d mm_24 52 (.istore_n 2) 1 53 := ⟨by decide +kernel, rfl⟩
theorem dk_24_53 : zz_d mm_24 53 (.iload_n 2) 1 54 := ⟨by decide +kernel, rfl⟩
theorem dk_24_54 : zz_d mm_24 54 (.aload_n 0) 1 55 := ⟨by decide +kernel, rfl⟩
theorem dk_24_55 : zz_d mm_24 55 (.getfield 23) 3 58 := ⟨by decide +kernel, rfl⟩
theorem dk_24_58 : zz_d mm_24 58 (.if_icmp .gt 32) 3 61 := ⟨by decide +kernel, rfl⟩
theorem dk_24_61 : zz_d mm_24 61 (.aload_n 0) 1 62 := ⟨by decide +kernel, rfl⟩
theorem dk_24_62 : zz_d mm_24 62 (.iload_n 2) 1 63 := ⟨by decide +kernel, rfl⟩
theorem dk_24_63 : zz_d mm_24 63 (.invokevirtual 28) 3 66 := ⟨by decide +kernel, rfl⟩
theorem dk_24_66 : zz_d mm_24 66 (.ifCond .eq 18) 3 69 := ⟨by decide +kernel, rfl⟩
theorem dk_24_69 : zz_d mm_24 69 (.aload_n 0) 1 70 := ⟨by decide +kernel, rfl⟩
theorem dk_24_70 : zz_d mm_24 70 (.iload_n 1) 1 71 := ⟨by decide +kernel, rfl⟩
theorem dk_24_71 : zz_d mm_24 71 (.iload_n 2) 1 72 := ⟨by decide +kernel, rfl⟩
theorem dk_24_72 : zz_d mm_24 72 (.invokestatic 47) 3 75 := ⟨by decide +kernel, rfl⟩
theorem dk_24_75 : zz_d mm_24 75 (.ifCond .ne 5) 3 78 := ⟨by decide +kernel, rfl⟩
theorem dk_24_78 : zz_d mm_24 78 (.iconst 0) 1 79 := ⟨by decide +kernel, rfl⟩
theorem dk_24_79 : zz_d mm_24 79 .ireturn 1 80 := ⟨by decide +kernel, rfl⟩
theorem dk_24_80 : zz_d mm_24 80 (.iload_n 2) 1 81 := ⟨by decide +kernel, rfl⟩
theorem dk_24_81 : zz_d mm_24 81 (.iconst 1) 1 82 := ⟨by decide +kernel, rfl⟩
theorem dk_24_82 : zz_d mm_24 82 .iadd 1 83 := ⟨by decide +kernel, rfl⟩
theorem dk_24_83 : zz_d mm_24 83 (.istore_n 1) 1 84 := ⟨by decide +kernel, rfl⟩
theorem dk_24_84 : zz_d mm_24 84 (.iinc 2 1) 3 87 := ⟨by decide +kernel, rfl⟩
theorem dk_24_87 : zz_d mm_24 87 (.goto (-34)) 3 90 := ⟨by decide +kernel, rfl⟩
theorem dk_24_90 : zz_d mm_24 90 (.iconst 1) 1 91 := ⟨by decide +kernel, rfl⟩
theorem dk_24_91 : zz_d mm_24 91 .ireturn 1 92 := ⟨by decide +kernel, rfl⟩
theorem dk_25_0 : zz_d mm_25 0 (.iload_n 1) 1 1 := ⟨by decide +kernel, rfl⟩
theorem dk_25_1 : zz_d mm_25 1 (.ifCond .lt 20) 3 4 := ⟨by decide +kernel, rfl⟩
theorem dk_25_4 : zz_d mm_25 4 (.iload_n 1) 1 5 := ⟨by decide +kernel, rfl⟩
theorem dk_25_5 : zz_d mm_25 5 (.aload_n 0) 1 6 := ⟨by decide +kernel, rfl⟩
theorem dk_25_6 : zz_d mm_25 6 (.getfield 19) 3 9 := ⟨by decide +kernel, rfl⟩
theorem dk_25_9 : zz_d mm_25 9 (.if_icmp .ge 12) 3 12 := ⟨by decide +kernel, rfl⟩
theorem dk_25_12 : zz_d mm_25 12 (.aload_n 0) 1 13 := ⟨by decide +kernel, rfl⟩
theorem dk_25_13 : zz_d mm_25 13 (.getfield 9) 3 16 := ⟨by decide +kernel, rfl⟩
theorem dk_25_16 : zz_d mm_25 16 (.iload_n 1) 1 17 := ⟨by decide +kernel, rfl⟩
theorem dk_25_17 : zz_d mm_25 17 .caload 1 18 := ⟨by decide +kernel, rfl⟩
theorem dk_25_18 : zz_d mm_25 18 (.goto 4) 3 21 := ⟨by decide +kernel, rfl⟩
theorem dk_25_21 : zz_d mm_25 21 (.iconst 0) 1 22 := ⟨by decide +kernel, rfl⟩
theorem dk_25_22 : zz_d mm_25 22 .ireturn 1 23 := ⟨by decide +kernel, rfl⟩
theorem dk_26_0 : zz_d mm_26 0 (.aload_n 0) 1 1 := ⟨by decide +kernel, rfl⟩
theorem dk_26_1 : zz_d mm_26 1 (.iload_n 1) 1 2 := ⟨by decide +kernel, rfl⟩
theorem dk_26_2 : zz_d mm_26 2 (.iconst 0) 1 3 := ⟨by decide +kernel, rfl⟩
theorem dk_26_3 : zz_d mm_26 3 (.aload_n 0) 1 4 := ⟨by decide +kernel, rfl⟩
theorem dk_26_4 : zz_d mm_26 4 (.getfield 19) 3 7 := ⟨by decide +kernel, rfl⟩
theorem dk_26_7 : zz_d mm_26 7 (.invokevirtual 27) 3 10 := ⟨by decide +kernel, rfl⟩
theorem dk_26_10 : zz_d mm_26 10 (.aload_n 0) 1 11 := ⟨by decide +kernel, rfl⟩
theorem dk_26_11 : zz_d mm_26 11 (.getfield 19) 3 14 := ⟨by decide +kernel, rfl⟩
theorem dk_26_14 : zz_d mm_26 14 (.if_icmp .ge 7) 3 17 := ⟨by decide +kernel, rfl⟩
theorem dk_26_17 : zz_d mm_26 17 (.iconst 1) 1 18 := ⟨by decide +kernel, rfl⟩
theorem dk_26_18 : zz_d mm_26 18 (.goto 4) 3 21 := ⟨by decide +kernel, rfl⟩
theorem dk_26_21 : zz_d mm_26 21 (.iconst 0) 1 22 := ⟨by decide +kernel, rfl⟩
theorem dk_26_22 : zz_d mm_26 22 .ireturn 1 23 := ⟨by decide +kernel, rfl⟩
theorem dk_27_0 : zz_d mm_27 0 (.iload_n 2) 1 1 := ⟨by decide +kernel, rfl⟩
theorem dk_27_1 : zz_d mm_27 1 (.istore 4) 2 3 := ⟨by decide +kernel, rfl⟩
theorem dk_27_3 : zz_d mm_27 3 (.iload 4) 2 5 := ⟨by decide +kernel, rfl⟩
theorem dk_27_5 : zz_d mm_27 5 (.iload_n 3) 1 6 := ⟨by decide +kernel, rfl⟩
theorem dk_27_6 : zz_d mm_27 6 (.if_icmp .ge 22) 3 9 := ⟨by decide +kernel, rfl⟩
theorem dk_27_9 : zz_d mm_27 9 (.aload_n 0) 1 10 := ⟨by decide +kernel, rfl⟩
theorem dk_27_10 : zz_d mm_27 10 (.iload 4) 2 12 := ⟨by decide +kernel, rfl⟩
theorem dk_27_12 : zz_d mm_27 12 (.invokevirtual 23) 3 15 := ⟨by decide +kernel, rfl⟩
theorem dk_27_15 : zz_d mm_27 15 (.iload_n 1) 1 16 := ⟨by decide +kernel, rfl⟩
theorem dk_27_16 : zz_d mm_27 16 (.if_icmp .ne 6) 3 19 := ⟨by decide +kernel, rfl⟩
theorem dk_27_19 : zz_d mm_27 19 (.iload 4) 2 21 := ⟨by decide +kernel, rfl⟩
theorem dk_27_21 : zz_d mm_27 21 .ireturn 1 22 := ⟨by decide +kernel, rfl⟩
theorem dk_27_22 : zz_d mm_27 22 (.iinc 4 1) 3 25 := ⟨by decide +kernel, rfl⟩
theorem dk_27_25 : zz_d mm_27 25 (.goto (-22)) 3 28 := ⟨by decide +kernel, rfl⟩
theorem dk_27_28 : zz_d mm_27 28 (.iload_n 3) 1 29 := ⟨by decide +kernel, rfl⟩
theorem dk_27_29 : zz_d mm_27 29 .ireturn 1 30 := ⟨by decide +kernel, rfl⟩
theorem dk_28_0 : zz_d mm_28 0 (.iload_n 1) 1 1 := ⟨by decide +kernel, rfl⟩
theorem dk_28_1 : zz_d mm_28 1 (.aload_n 0) 1 2 := ⟨by decide +kernel, rfl⟩
theorem dk_28_2 : zz_d mm_28 2 (.getfield 19) 3 5 := ⟨by decide +kernel, rfl⟩
theorem dk_28_5 : zz_d mm_28 5 (.if_icmp .eq 13) 3 8 := ⟨by decide +kernel, rfl⟩
theorem dk_28_8 : zz_d mm_28 8 (.aload_n 0) 1 9 := ⟨by decide +kernel, rfl⟩
theorem dk_28_9 : zz_d mm_28 9 (.iload_n 1) 1 10 := ⟨by decide +kernel, rfl⟩
theorem dk_28_10 : zz_d mm_28 10 (.invokevirtual 23) 3 13 := ⟨by decide +kernel, rfl⟩
theorem dk_28_13 : zz_d mm_28 13 (.bipush 47) 2 15 := ⟨by decide +kernel, rfl⟩
theorem dk_28_15 : zz_d mm_28 15 (.if_icmp .ne 7) 3 18 := ⟨by decide +kernel, rfl⟩
theorem dk_28_18 : zz_d mm_28 18 (.iconst 1) 1 19 := ⟨by decide +kernel, rfl⟩
theorem dk_28_19 : zz_d mm_28 19 (.goto 4) 3 22 := ⟨by decide +kernel, rfl⟩
theorem dk_28_22 : zz_d mm_28 22 (.iconst 0) 1 23 := ⟨by decide +kernel, rfl⟩
theorem dk_28_23 : zz_d mm_28 23 .ireturn 1 24 := ⟨by decide +kernel, rfl⟩
theorem dk_29_0 : zz_d mm_29 0 (.iload_n 2) 1 1 := ⟨by decide +kernel, rfl⟩
theorem dk_29_1 : zz_d mm_29 1 (.iload_n 1) 1 2 := ⟨by decide +kernel, rfl⟩
theorem dk_29_2 : zz_d mm_29 2 .isub 1 3 := ⟨by decide +kernel, rfl⟩
theorem dk_29_3 : zz_d mm_29 3 (.iconst 2) 1 4 := ⟨by decide +kernel, rfl⟩
theorem dk_29_4 : zz_d mm_29 4 (.if_icmp .ne 5) 3 7 := ⟨by decide +kernel, rfl⟩
theorem dk_29_7 : zz_d mm_29 7 (.iconst 1) 1 8 := ⟨by decide +kernel, rfl⟩
theorem dk_29_8 : zz_d mm_29 8 .ireturn 1 9 := ⟨by decide +kernel, rfl⟩
theorem dk_29_9 : zz_d mm_29 9 (.iload_n 1) 1 10 := ⟨by decide +kernel, rfl⟩
theorem dk_29_10 : zz_d mm_29 10 (.istore_n 3) 1 11 := ⟨by decide +kernel, rfl⟩
theorem dk_29_11 : zz_d mm_29 11 (.iload_n 3) 1 12 := ⟨by decide +kernel, rfl⟩
theorem dk_29_12 : zz_d mm_29 12 (.iconst 1) 1 13 := ⟨by decide +kernel, rfl⟩
theorem dk_29_13 : zz_d mm_29 13 .iadd 1 14 := ⟨by decide +kernel, rfl⟩
theorem dk_29_14 : zz_d mm_29 14 (.iload_n 2) 1 15 := ⟨by decide +kernel, rfl⟩
theorem dk_29_15 : zz_d mm_29 15 (.if_icmp .ge 33) 3 18 := ⟨by decide +kernel, rfl⟩
theorem dk_29_18 : zz_d mm_29 18 (.aload_n 0) 1 19 := ⟨by decide +kernel, rfl⟩
theorem dk_29_19 : zz_d mm_29 19 (.iload_n 3) 1 20 := ⟨by decide +kernel, rfl⟩
theorem dk_29_20 : zz_d mm_29 20 (.invokevirtual 32) 3 23 := ⟨by decide +kernel, rfl⟩
theorem dk_29_23 : zz_d mm_29 23 (.bipush 42) 2 25 := ⟨by decide +kernel, rfl⟩
theorem dk_29_25 : zz_d mm_29 25 (.if_icmp .ne 17) 3 28 := ⟨by decide +kernel, rfl⟩
theorem dk_29_28 : zz_d mm_29 28 (.aload_n 0) 1 29 := ⟨by decide +kernel, rfl⟩
theorem dk_29_29 : zz_d mm_29 29 (.iload_n 3) 1 30 := ⟨by decide +kernel, rfl⟩
theorem dk_29_30 : zz_d mm_29 30 (.iconst 1) 1 31 := ⟨by decide +kernel, rfl⟩
theorem dk_29_31 : zz_d mm_29 31 .iadd 1 32 := ⟨by decide +kernel, rfl⟩
theorem dk_29_32 : zz_d mm_29 32 (.invokevirtual 32) 3 35 := ⟨by decide +kernel, rfl⟩
theorem dk_29_35 : zz_d mm_29 35 (.bipush 42) 2 37 := ⟨by decide +kernel, rfl⟩
theorem dk_29_37 : zz_d mm_29 37 (.if_icmp .ne 5) 3 40 := ⟨by decide +kernel, rfl⟩
theorem dk_29_40 : zz_d mm_29 40 (.iconst 0) 1 41 := ⟨by decide +kernel, rfl⟩
theorem dk_29_41 : zz_d mm_29 41 .ireturn 1 42 := ⟨by decide +kernel, rfl⟩
theorem dk_29_42 : zz_d mm_29 42 (.iinc 3 1) 3 45 := ⟨by decide +kernel, rfl⟩
theorem dk_29_45 : zz_d mm_29 45 (.goto (-34)) 3 48 := ⟨by decide +kernel, rfl⟩
theorem dk_29_48 : zz_d mm_29 48 (.iload_n 2) 1 49 := ⟨by decide +kernel, rfl⟩
theorem dk_29_49 : zz_d mm_29 49 (.iload_n 1) 1 50 := ⟨by decide +kernel, rfl⟩
theorem dk_29_50 : zz_d mm_29 50 (.if_icmp .le 7) 3 53 := ⟨by decide +kernel, rfl⟩
theorem dk_29_53 : zz_d mm_29 53 (.iconst 1) 1 54 := ⟨by decide +kernel, rfl⟩
theorem dk_29_54 : zz_d mm_29 54 (.goto 4) 3 57 := ⟨by decide +kernel, rfl⟩
theorem dk_29_57 : zz_d mm_29 57 (.iconst 0) 1 58 := ⟨by decide +kernel, rfl⟩
theorem dk_29_58 : zz_d mm_29 58 .ireturn 1 59 := ⟨by decide +kernel, rfl⟩
theorem dk_30_0 : zz_d mm_30 0 (.aload_n 0) 1 1 := ⟨by decide +kernel, rfl⟩
theorem dk_30_1 : zz_d mm_30 1 (.invokespecial 1) 3 4 := ⟨by decide +kernel, rfl⟩
theorem dk_30_4 : zz_d mm_30 4 (.aload_n 0) 1 5 := ⟨by decide +kernel, rfl⟩
theorem dk_30_5 : zz_d mm_30 5 (.new 7) 3 8 := ⟨by decide +kernel, rfl⟩
theorem dk_30_8 : zz_d mm_30 8 .dup 1 9 := ⟨by decide +kernel, rfl⟩
theorem dk_30_9 : zz_d mm_30 9 (.invokespecial 9) 3 12 := ⟨by decide +kernel, rfl⟩
theorem dk_30_12 : zz_d mm_30 12 (.putfield 10) 3 15 := ⟨by decide +kernel, rfl⟩
theorem dk_30_15 : zz_d mm_30 15 (.aload_n 0) 1 16 := ⟨by decide +kernel, rfl⟩
theorem dk_30_16 : zz_d mm_30 16 (.iload_n 2) 1 17 := ⟨by decide +kernel, rfl⟩
theorem dk_30_17 : zz_d mm_30 17 (.putfield 16) 3 20 := ⟨by decide +kernel, rfl⟩
theorem dk_30_20 : zz_d mm_30 20 (.aload_n 0) 1 21 := ⟨by decide +kernel, rfl⟩
theorem dk_30_21 : zz_d mm_30 21 (.iload_n 3) 1 22 := ⟨by decide +kernel, rfl⟩
theorem dk_30_22 : zz_d mm_30 22 (.putfield 20) 3 25 := ⟨by decide +kernel, rfl⟩
theorem dk_30_25 : zz_d mm_30 25 (.iconst 1) 1 26 := ⟨by decide +kernel, rfl⟩
theorem dk_30_26 : zz_d mm_30 26 (.istore 4) 2 28 := ⟨by decide +kernel, rfl⟩
theorem dk_30_28 : zz_d mm_30 28 (.iload 4) 2 30 := ⟨by decide +kernel, rfl⟩
theorem dk_30_30 : zz_d mm_30 30 (.aload_n 1) 1 31 := ⟨by decide +kernel, rfl⟩
theorem dk_30_31 : zz_d mm_30 31 (.getfield 23) 3 34 := ⟨by decide +kernel, rfl⟩
theorem dk_30_34 : zz_d mm_30 34 (.if_icmp .gt 49) 3 37 := ⟨by decide +kernel, rfl⟩
theorem dk_30_37 : zz_d mm_30 37 (.aload_n 1) 1 38 := ⟨by decide +kernel, rfl⟩
theorem dk_30_38 : zz_d mm_30 38 (.iload 4) 2 40 := ⟨by decide +kernel, rfl⟩
theorem dk_30_40 : zz_d mm_30 40 (.invokevirtual 28) 3 43 := ⟨by decide +kernel, rfl⟩
theorem dk_30_43 : zz_d mm_30 43 (.ifCond .ne 19) 3 46 := ⟨by decide +kernel, rfl⟩
theorem dk_30_46 : zz_d mm_30 46 (.aload_n 0) 1 47 := ⟨by decide +kernel, rfl⟩
theorem dk_30_47 : zz_d mm_30 47 (.getfield 10) 3 50 := ⟨by decide +kernel, rfl⟩
theorem dk_30_50 : zz_d mm_30 50 (.aload_n 1) 1 51 := ⟨by decide +kernel, rfl⟩
theorem dk_30_51 : zz_d mm_30 51 (.iload 4) 2 53 := ⟨by decide +kernel, rfl⟩
theorem dk_30_53 : zz_d mm_30 53 (.invokevirtual 32) 3 56 := ⟨by decide +kernel, rfl⟩
theorem dk_30_56 : zz_d mm_30 56 (.invokevirtual 36) 3 59 := ⟨by decide +kernel, rfl⟩
theorem dk_30_59 : zz_d mm_30 59 (.goto 18) 3 62 := ⟨by decide +kernel, rfl⟩
theorem dk_30_62 : zz_d mm_30 62 (.aload_n 1) 1 63 := ⟨by decide +kernel, rfl⟩
theorem dk_30_63 : zz_d mm_30 63 (.getfield 23) 3 66 := ⟨by decide +kernel, rfl⟩
theorem dk_30_66 : zz_d mm_30 66 (.iconst 1) 1 67 := ⟨by decide +kernel, rfl⟩
theorem dk_30_67 : zz_d mm_30 67 (.if_icmp .le 10) 3 70 := ⟨by decide +kernel, rfl⟩
theorem dk_30_70 : zz_d mm_30 70 (.aload_n 0) 1 71 := ⟨by decide +kernel, rfl⟩
theorem dk_30_71 : zz_d mm_30 71 (.getfield 10) 3 74 := ⟨by decide +kernel, rfl⟩
theorem dk_30_74 : zz_d mm_30 74 (.invokevirtual 40) 3 77 := ⟨by decide +kernel, rfl⟩
theorem dk_30_77 : zz_d mm_30 77 (.iinc 4 1) 3 80 := ⟨by decide +kernel, rfl⟩
theorem dk_30_80 : zz_d mm_30 80 (.goto (-52)) 3 83 := ⟨by decide +kernel, rfl⟩
theorem dk_30_83 : zz_d mm_30 83 .return_ 1 84 := ⟨by decide +kernel, rfl⟩
theorem dk_31_0 : zz_d mm_31 0 (.aload_n 0) 1 1 := ⟨by decide +kernel, rfl⟩
theorem dk_31_1 : zz_d mm_31 1 (.getfield 26) 3 4 := ⟨by decide +kernel, rfl⟩
theorem dk_31_4 : zz_d mm_31 4 (.bipush 40) 2 6 := ⟨by decide +kernel, rfl⟩
theorem dk_31_6 : zz_d mm_31 6 (.if_icmp .ge 24) 3 9 := ⟨by decide +kernel, rfl⟩
theorem dk_31_9 : zz_d mm_31 9 (.aload_n 0) 1 10 := ⟨by decide +kernel, rfl⟩
theorem dk_31_10 : zz_d mm_31 10 (.getfield 9) 3 13 := ⟨by decide +kernel, rfl⟩
theorem dk_31_13 : zz_d mm_31 13 (.aload_n 0) 1 14 := ⟨by decide +kernel, rfl⟩
theorem dk_31_14 : zz_d mm_31 14 (.getfield 26) 3 17 := ⟨by decide +kernel, rfl⟩
theorem dk_31_17 : zz_d mm_31 17 (.iload_n 1) 1 18 := ⟨by decide +kernel, rfl⟩
theorem dk_31_18 : zz_d mm_31 18 .i2c 1 19 := ⟨by decide +kernel, rfl⟩
theorem dk_31_19 : zz_d mm_31 19 .castore 1 20 := ⟨by decide +kernel, rfl⟩
theorem dk_31_20 : zz_d mm_31 20 (.aload_n 0) 1 21 := ⟨by decide +kernel, rfl⟩
theorem dk_31_21 : zz_d mm_31 21 .dup 1 22 := ⟨by decide +kernel, rfl⟩
theorem dk_31_22 : zz_d mm_31 22 (.getfield 26) 3 25 := ⟨by decide +kernel, rfl⟩
theorem dk_31_25 : zz_d mm_31 25 (.iconst 1) 1 26 := ⟨by decide +kernel, rfl⟩
theorem dk_31_26 : zz_d mm_31 26 .iadd 1 27 := ⟨by decide +kernel, rfl⟩
theorem dk_31_27 : zz_d mm_31 27 (.putfield 26) 3 30 := ⟨by decide +kernel, rfl⟩
theorem dk_31_30 : zz_d mm_31 30 .return_ 1 31 := ⟨by decide +kernel, rfl⟩
theorem dk_32_0 : zz_d mm_32 0 (.aload_n 0) 1 1 := ⟨by decide +kernel, rfl⟩
theorem dk_32_1 : zz_d mm_32 1 (.getfield 29) 3 4 := ⟨by decide +kernel, rfl⟩
theorem dk_32_4 : zz_d mm_32 4 (.bipush 20) 2 6 := ⟨by decide +kernel, rfl⟩
theorem dk_32_6 : zz_d mm_32 6 (.if_icmp .ge 39) 3 9 := ⟨by decide +kernel, rfl⟩
theorem dk_32_9 : zz_d mm_32 9 (.aload_n 0) 1 10 := ⟨by decide +kernel, rfl⟩
theorem dk_32_10 : zz_d mm_32 10 (.getfield 15) 3 13 := ⟨by decide +kernel, rfl⟩
theorem dk_32_13 : zz_d mm_32 13 (.aload_n 0) 1 14 := ⟨by decide +kernel, rfl⟩
theorem dk_32_14 : zz_d mm_32 14 (.getfield 29) 3 17 := ⟨by decide +kernel, rfl⟩
theorem dk_32_17 : zz_d mm_32 17 (.aload_n 0) 1 18 := ⟨by decide +kernel, rfl⟩
theorem dk_32_18 : zz_d mm_32 18 (.getfield 22) 3 21 := ⟨by decide +kernel, rfl⟩
theorem dk_32_21 : zz_d mm_32 21 .iastore 1 22 := ⟨by decide +kernel, rfl⟩
theorem dk_32_22 : zz_d mm_32 22 (.aload_n 0) 1 23 := ⟨by decide +kernel, rfl⟩
theorem dk_32_23 : zz_d mm_32 23 (.getfield 19) 3 26 := ⟨by decide +kernel, rfl⟩
theorem dk_32_26 : zz_d mm_32 26 (.aload_n 0) 1 27 := ⟨by decide +kernel, rfl⟩
theorem dk_32_27 : zz_d mm_32 27 (.getfield 29) 3 30 := ⟨by decide +kernel, rfl⟩
theorem dk_32_30 : zz_d mm_32 30 (.aload_n 0) 1 31 := ⟨by decide +kernel, rfl⟩
theorem dk_32_31 : zz_d mm_32 31 (.getfield 26) 3 34 := ⟨by decide +kernel, rfl⟩
theorem dk_32_34 : zz_d mm_32 34 .iastore 1 35 := ⟨by decide +kernel, rfl⟩
theorem dk_32_35 : zz_d mm_32 35 (.aload_n 0) 1 36 := ⟨by decide +kernel, rfl⟩
theorem dk_32_36 : zz_d mm_32 36 .dup 1 37 := ⟨by decide +kernel, rfl⟩
theorem dk_32_37 : zz_d mm_32 37 (.getfield 29) 3 40 := ⟨by decide +kernel, rfl⟩
theorem dk_32_40 : zz_d mm_32 40 (.iconst 1) 1 41 := ⟨by decide +kernel, rfl⟩
theorem dk_32_41 : zz_d mm_32 41 .iadd 1 42 := ⟨by decide +kernel, rfl⟩
theorem dk_32_42 : zz_d mm_32 42 (.putfield 29) 3 45 := ⟨by decide +kernel, rfl⟩
theorem dk_32_45 : zz_d mm_32 45 (.aload_n 0) 1 46 := ⟨by decide +kernel, rfl⟩
theorem dk_32_46 : zz_d mm_32 46 (.aload_n 0) 1 47 := ⟨by decide +kernel, rfl⟩
theorem dk_32_47 : zz_d mm_32 47 (.getfield 26) 3 50 := ⟨by decide +kernel, rfl⟩
theorem dk_32_50 : zz_d mm_32 50 (.putfield 22) 3 53 := ⟨by decide +kernel, rfl⟩
theorem dk_32_53 : zz_d mm_32 53 .return_ 1 54 := ⟨by decide +kernel, rfl⟩
theorem dk_33_0 : zz_d mm_33 0 (.aload_n 0) 1 1 := ⟨by decide +kernel, rfl⟩
theorem dk_33_1 : zz_d mm_33 1 .dup 1 2 := ⟨by decide +kernel, rfl⟩
theorem dk_33_2 : zz_d mm_33 2 (.getfield 63) 3 5 := ⟨by decide +kernel, rfl⟩
theorem dk_33_5 : zz_d mm_33 5 (.iconst 1) 1 6 := ⟨by decide +kernel, rfl⟩
theorem dk_33_6 : zz_d mm_33 6 .iadd 1 7 := ⟨by decide +kernel, rfl⟩
theorem dk_33_7 : zz_d mm_33 7 (.putfield 63) 3 10 := ⟨by decide +kernel, rfl⟩
theorem dk_33_10 : zz_d mm_33 10 (.aload_n 0) 1 11 := ⟨by decide +kernel, rfl⟩
theorem dk_33_11 : zz_d mm_33 11 (.aload_n 1) 1 12 := ⟨by decide +kernel, rfl⟩
theorem dk_33_12 : zz_d mm_33 12 (.aload_n 0) 1 13 := ⟨by decide +kernel, rfl⟩
theorem dk_33_13 : zz_d mm_33 13 (.getfield 9) 3 16 := ⟨by decide +kernel, rfl⟩
theorem dk_33_16 : zz_d mm_33 16 (.aload_n 0) 1 17 := ⟨by decide +kernel, rfl⟩
theorem dk_33_17 : zz_d mm_33 17 (.getfield 48) 3 20 := ⟨by decide +kernel, rfl⟩
theorem dk_33_20 : zz_d mm_33 20 (.invokevirtual 131) 3 23 := ⟨by decide +kernel, rfl⟩
theorem dk_33_23 : zz_d mm_33 23 (.iconst 1) 1 24 := ⟨by decide +kernel, rfl⟩
theorem dk_33_24 : zz_d mm_33 24 .ireturn 1 25 := ⟨by decide +kernel, rfl⟩
theorem dk_34_0 : zz_d mm_34 0 (.iload_n 3) 1 1 := ⟨by decide +kernel, rfl⟩
theorem dk_34_1 : zz_d mm_34 1 (.aload_n 2) 1 2 := ⟨by decide +kernel, rfl⟩
theorem dk_34_2 : zz_d mm_34 2 .arraylength 1 3 := ⟨by decide +kernel, rfl⟩
theorem dk_34_3 : zz_d mm_34 3 (.if_icmp .ne 8) 3 6 := ⟨by decide +kernel, rfl⟩
theorem dk_34_6 : zz_d mm_34 6 (.aload_n 0) 1 7 := ⟨by decide +kernel, rfl⟩
theorem dk_34_7 : zz_d mm_34 7 (.invokevirtual 129) 3 10 := ⟨by decide +kernel, rfl⟩
theorem dk_34_10 : zz_d mm_34 10 (.astore_n 2) 1 11 := ⟨by decide +kernel, rfl⟩
theorem dk_34_11 : zz_d mm_34 11 (.aload_n 2) 1 12 := ⟨by decide +kernel, rfl⟩
theorem dk_34_12 : zz_d mm_34 12 (.iload_n 3) 1 13 := ⟨by decide +kernel, rfl⟩
theorem dk_34_13 : zz_d mm_34 13 (.aload_n 1) 1 14 := ⟨by decide +kernel, rfl⟩
theorem dk_34_14 : zz_d mm_34 14 .aastore 1 15 := ⟨by decide +kernel, rfl⟩
theorem dk_34_15 : zz_d mm_34 15 (.aload_n 0) 1 16 := ⟨by decide +kernel, rfl⟩
theorem dk_34_16 : zz_d mm_34 16 (.iload_n 3) 1 17 := ⟨by decide +kernel, rfl⟩
theorem dk_34_17 : zz_d mm_34 17 (.iconst 1) 1 18 := ⟨by decide +kernel, rfl⟩
theorem dk_34_18 : zz_d mm_34 18 .iadd 1 19 := ⟨by decide +kernel, rfl⟩
theorem dk_34_19 : zz_d mm_34 19 (.putfield 48) 3 22 := ⟨by decide +kernel, rfl⟩
theorem dk_34_22 : zz_d mm_34 22 .return_ 1 23 := ⟨by decide +kernel, rfl⟩
theorem dk_35_0 : zz_d mm_35 0 (.aload_n 0) 1 1 := ⟨by decide +kernel, rfl⟩
theorem dk_35_1 : zz_d mm_35 1 (.aload_n 0) 1 2 := ⟨by decide +kernel, rfl⟩
theorem dk_35_2 : zz_d mm_35 2 (.getfield 48) 3 5 := ⟨by decide +kernel, rfl⟩
theorem dk_35_5 : zz_d mm_35 5 (.iconst 1) 1 6 := ⟨by decide +kernel, rfl⟩
theorem dk_35_6 : zz_d mm_35 6 .iadd 1 7 := ⟨by decide +kernel, rfl⟩
theorem dk_35_7 : zz_d mm_35 7 (.invokevirtual 69) 3 10 := ⟨by decide +kernel, rfl⟩
theorem dk_35_10 : zz_d mm_35 10 .areturn 1 11 := ⟨by decide +kernel, rfl⟩
theorem dk_36_0 : zz_d mm_36 0 (.aload_n 0) 1 1 := ⟨by decide +kernel, rfl⟩
theorem dk_36_1 : zz_d mm_36 1 (.getfield 9) 3 4 := ⟨by decide +kernel, rfl⟩
theorem dk_36_4 : zz_d mm_36 4 .arraylength 1 5 := ⟨by decide +kernel, rfl⟩
theorem dk_36_5 : zz_d mm_36 5 (.istore_n 2) 1 6 := ⟨by decide +kernel, rfl⟩
theorem dk_36_6 : zz_d mm_36 6 (.iload_n 2) 1 7 := ⟨by decide +kernel, rfl⟩
theorem dk_36_7 : zz_d mm_36 7 (.ifCond .gt 13) 3 10 := ⟨by decide +kernel, rfl⟩
theorem dk_36_10 : zz_d mm_36 10 (.aload_n 0) 1 11 := ⟨by decide +kernel, rfl⟩
theorem dk_36_11 : zz_d mm_36 11 (.getfield 9) 3 14 := ⟨by decide +kernel, rfl⟩
theorem dk_36_14 : zz_d mm_36 14 (.getstatic 39) 3 17 := ⟨by decide +kernel, rfl⟩
theorem dk_36_17 : zz_d mm_36 17 (.if_acmp .eq 28) 3 20 := ⟨by decide +kernel, rfl⟩
theorem dk_36_20 : zz_d mm_36 20 (.iload_n 2) 1 21 := ⟨by decide +kernel, rfl⟩
theorem dk_36_21 : zz_d mm_36 21 (.iload_n 1) 1 22 := ⟨by decide +kernel, rfl⟩
theorem dk_36_22 : zz_d mm_36 22 (.iload_n 2) 1 23 := ⟨by decide +kernel, rfl⟩
theorem dk_36_23 : zz_d mm_36 23 .isub 1 24 := ⟨by decide +kernel, rfl⟩
theorem dk_36_24 : zz_d mm_36 24 (.iload_n 2) 1 25 := ⟨by decide +kernel, rfl⟩
theorem dk_36_25 : zz_d mm_36 25 (.iconst 1) 1 26 := ⟨by decide +kernel, rfl⟩
theorem dk_36_26 : zz_d mm_36 26 .ishr 1 27 := ⟨by decide +kernel, rfl⟩
theorem dk_36_27 : zz_d mm_36 27 (.invokestatic 73) 3 30 := ⟨by decide +kernel, rfl⟩
theorem dk_36_30 : zz_d mm_36 30 (.istore_n 3) 1 31 := ⟨by decide +kernel, rfl⟩
theorem dk_36_31 : zz_d mm_36 31 (.aload_n 0) 1 32 := ⟨by decide +kernel, rfl⟩
theorem dk_36_32 : zz_d mm_36 32 (.aload_n 0) 1 33 := ⟨by decide +kernel, rfl⟩
theorem dk_36_33 : zz_d mm_36 33 (.getfield 9) 3 36 := ⟨by decide +kernel, rfl⟩
theorem dk_36_36 : zz_d mm_36 36 (.iload_n 3) 1 37 := ⟨by decide +kernel, rfl⟩
theorem dk_36_37 : zz_d mm_36 37 (.invokestatic 66) 3 40 := ⟨by decide +kernel, rfl⟩
theorem dk_36_40 : zz_d mm_36 40 .dup_x1 1 41 := ⟨by decide +kernel, rfl⟩
theorem dk_36_41 : zz_d mm_36 41 (.putfield 9) 3 44 := ⟨by decide +kernel, rfl⟩
theorem dk_36_44 : zz_d mm_36 44 .areturn 1 45 := ⟨by decide +kernel, rfl⟩
theorem dk_36_45 : zz_d mm_36 45 (.aload_n 0) 1 46 := ⟨by decide +kernel, rfl⟩
theorem dk_36_46 : zz_d mm_36 46 (.bipush 10) 2 48 := ⟨by decide +kernel, rfl⟩
theorem dk_36_48 : zz_d mm_36 48 (.iload_n 1) 1 49 := ⟨by decide +kernel, rfl⟩
theorem dk_36_49 : zz_d mm_36 49 (.invokestatic 79) 3 52 := ⟨by decide +kernel, rfl⟩
theorem dk_36_52 : zz_d mm_36 52 (.anewarray 7) 3 55 := ⟨by decide +kernel, rfl⟩
theorem dk_36_55 : zz_d mm_36 55 .dup_x1 1 56 := ⟨by decide +kernel, rfl⟩
theorem dk_36_56 : zz_d mm_36 56 (.putfield 9) 3 59 := ⟨by decide +kernel, rfl⟩
theorem dk_36_59 : zz_d mm_36 59 .areturn 1 60 := ⟨by decide +kernel, rfl⟩
theorem dk_37_0 : zz_d mm_37 0 (.iload_n 0) 1 1 := ⟨by decide +kernel, rfl⟩
theorem dk_37_1 : zz_d mm_37 1 (.iload_n 1) 1 2 := ⟨by decide +kernel, rfl⟩
theorem dk_37_2 : zz_d mm_37 2 (.iload_n 2) 1 3 := ⟨by decide +kernel, rfl⟩
theorem dk_37_3 : zz_d mm_37 3 (.invokestatic 194) 3 6 := ⟨by decide +kernel, rfl⟩
theorem dk_37_6 : zz_d mm_37 6 .iadd 1 7 := ⟨by decide +kernel, rfl⟩
theorem dk_37_7 : zz_d mm_37 7 (.istore_n 3) 1 8 := ⟨by decide +kernel, rfl⟩
theorem dk_37_8 : zz_d mm_37 8 (.iconst 0) 1 9 := ⟨by decide +kernel, rfl⟩
theorem dk_37_9 : zz_d mm_37 9 (.iload_n 3) 1 10 := ⟨by decide +kernel, rfl⟩
theorem dk_37_10 : zz_d mm_37 10 (.if_icmp .ge 11) 3 13 := ⟨by decide +kernel, rfl⟩
theorem dk_37_13 : zz_d mm_37 13 (.iload_n 3) 1 14 := ⟨by decide +kernel, rfl⟩
theorem dk_37_14 : zz_d mm_37 14 (.ldc 200) 2 16 := ⟨by decide +kernel, rfl⟩
theorem dk_37_16 : zz_d mm_37 16 (.if_icmp .gt 5) 3 19 := ⟨by decide +kernel, rfl⟩
theorem dk_37_19 : zz_d mm_37 19 (.iload_n 3) 1 20 := ⟨by decide +kernel, rfl⟩
theorem dk_37_20 : zz_d mm_37 20 .ireturn 1 21 := ⟨by decide +kernel, rfl⟩
theorem dk_37_21 : zz_d mm_37 21 (.iload_n 0) 1 22 := ⟨by decide +kernel, rfl⟩
theorem dk_37_22 : zz_d mm_37 22 (.iload_n 1) 1 23 := ⟨by decide +kernel, rfl⟩
theorem dk_37_23 : zz_d mm_37 23 (.invokestatic 201) 3 26 := ⟨by decide +kernel, rfl⟩
theorem dk_37_26 : zz_d mm_37 26 .ireturn 1 27 := ⟨by decide +kernel, rfl⟩
theorem dk_38_0 : zz_d mm_38 0 (.iload_n 0) 1 1 := ⟨by decide +kernel, rfl⟩
theorem dk_38_1 : zz_d mm_38 1 (.iload_n 1) 1 2 := ⟨by decide +kernel, rfl⟩
theorem dk_38_2 : zz_d mm_38 2 (.if_icmp .lt 7) 3 5 := ⟨by decide +kernel, rfl⟩
theorem dk_38_5 : zz_d mm_38 5 (.iload_n 0) 1 6 := ⟨by decide +kernel, rfl⟩
theorem dk_38_6 : zz_d mm_38 6 (.goto 4) 3 9 := ⟨by decide +kernel, rfl⟩
theorem dk_38_9 : zz_d mm_38 9 (.iload_n 1) 1 10 := ⟨by decide +kernel, rfl⟩
theorem dk_38_10 : zz_d mm_38 10 .ireturn 1 11 := ⟨by decide +kernel, rfl⟩
theorem dk_39_0 : zz_d mm_39 0 (.iload_n 0) 1 1 := ⟨by decide +kernel, rfl⟩
theorem dk_39_1 : zz_d mm_39 1 (.iload_n 1) 1 2 := ⟨by decide +kernel, rfl⟩
theorem dk_39_2 : zz_d mm_39 2 .iadd 1 3 := ⟨by decide +kernel, rfl⟩
theorem dk_39_3 : zz_d mm_39 3 (.istore_n 2) 1 4 := ⟨by decide +kernel, rfl⟩
theorem dk_39_4 : zz_d mm_39 4 (.iload_n 2) 1 5 := ⟨by decide +kernel, rfl⟩
theorem dk_39_5 : zz_d mm_39 5 (.ifCond .ge 44) 3 8 := ⟨by decide +kernel, rfl⟩
theorem dk_39_8 : zz_d mm_39 8 (.new 204) 3 11 := ⟨by decide +kernel, rfl⟩
theorem dk_39_11 : zz_d mm_39 11 .dup 1 12 := ⟨by decide +kernel, rfl⟩
theorem dk_39_12 : zz_d mm_39 12 (.new 89) 3 15 := ⟨by decide +kernel, rfl⟩
theorem dk_39_15 : zz_d mm_39 15 .dup 1 16 := ⟨by decide +kernel, rfl⟩
theorem dk_39_16 : zz_d mm_39 16 (.invokespecial 91) 3 19 := ⟨by decide +kernel, rfl⟩
theorem dk_39_19 : zz_d mm_39 19 (.ldc 206) 2 21 := ⟨by decide +kernel, rfl⟩
theorem dk_39_21 : zz_d mm_39 21 (.invokevirtual 94) 3 24 := ⟨by decide +kernel, rfl⟩
theorem dk_39_24 : zz_d mm_39 24 (.iload_n 0) 1 25 := ⟨by decide +kernel, rfl⟩
theorem dk_39_25 : zz_d mm_39 25 (.invokevirtual 98) 3 28 := ⟨by decide +kernel, rfl⟩
theorem dk_39_28 : zz_d mm_39 28 (.ldc 208) 2 30 := ⟨by decide +kernel, rfl⟩
theorem dk_39_30 : zz_d mm_39 30 (.invokevirtual 94) 3 33 := ⟨by decide +kernel, rfl⟩
theorem dk_39_33 : zz_d mm_39 33 (.iload_n 1) 1 34 := ⟨by decide +kernel, rfl⟩
theorem dk_39_34 : zz_d mm_39 34 (.invokevirtual 98) 3 37 := ⟨by decide +kernel, rfl⟩
theorem dk_39_37 : zz_d mm_39 37 (.ldc 210) 2 39 := ⟨by decide +kernel, rfl⟩
theorem dk_39_39 : zz_d mm_39 39 (.invokevirtual 94) 3 42 := ⟨by decide +kernel, rfl⟩
end
section
theorem dk_39_42 : zz_d mm_39 42 (.invokevirtual 101) 3 45 := ⟨by decide +kernel, rfl⟩
theorem dk_39_45 : zz_d mm_39 45 (.invokespecial 212) 3 48 := ⟨by decide +kernel, rfl⟩
theorem dk_39_48 : zz_d mm_39 48 .athrow 1 49 := ⟨by decide +kernel, rfl⟩
theorem dk_39_49 : zz_d mm_39 49 (.iload_n 2) 1 50 := ⟨by decide +kernel, rfl⟩
theorem dk_39_50 : zz_d mm_39 50 (.ldc 200) 2 52 := ⟨by decide +kernel, rfl⟩
theorem dk_39_52 : zz_d mm_39 52 (.if_icmp .gt 6) 3 55 := ⟨by decide +kernel, rfl⟩
theorem dk_39_55 : zz_d mm_39 55 (.ldc 200) 2 57 := ⟨by decide +kernel, rfl⟩
theorem dk_39_57 : zz_d mm_39 57 .ireturn 1 58 := ⟨by decide +kernel, rfl⟩
theorem dk_39_58 : zz_d mm_39 58 (.iload_n 2) 1 59 := ⟨by decide +kernel, rfl⟩
theorem dk_39_59 : zz_d mm_39 59 .ireturn 1 60 := ⟨by decide +kernel, rfl⟩
theorem dk_40_0 : zz_d mm_40 0 (.aload_n 0) 1 1 := ⟨by decide +kernel, rfl⟩
theorem dk_40_1 : zz_d mm_40 1 (.iload_n 1) 1 2 := ⟨by decide +kernel, rfl⟩
theorem dk_40_2 : zz_d mm_40 2 (.aload_n 0) 1 3 := ⟨by decide +kernel, rfl⟩
theorem dk_40_3 : zz_d mm_40 3 (.invokevirtual 86) 3 6 := ⟨by decide +kernel, rfl⟩
theorem dk_40_6 : zz_d mm_40 6 (.invokestatic 300) 3 9 := ⟨by decide +kernel, rfl⟩
theorem dk_40_9 : zz_d mm_40 9 .areturn 1 10 := ⟨by decide +kernel, rfl⟩
theorem dk_41_0 : zz_d mm_41 0 (.aload_n 2) 1 1 := ⟨by decide +kernel, rfl⟩
theorem dk_41_1 : zz_d mm_41 1 (.ldc 110) 2 3 := ⟨by decide +kernel, rfl⟩
theorem dk_41_3 : zz_d mm_41 3 (.if_acmp .ne 10) 3 6 := ⟨by decide +kernel, rfl⟩
theorem dk_41_6 : zz_d mm_41 6 (.iload_n 1) 1 7 := ⟨by decide +kernel, rfl⟩
theorem dk_41_7 : zz_d mm_41 7 (.anewarray 2) 3 10 := ⟨by decide +kernel, rfl⟩
theorem dk_41_10 : zz_d mm_41 10 (.goto 14) 3 13 := ⟨by decide +kernel, rfl⟩
theorem dk_41_13 : zz_d mm_41 13 (.aload_n 2) 1 14 := ⟨by decide +kernel, rfl⟩
theorem dk_41_14 : zz_d mm_41 14 (.invokevirtual 90) 3 17 := ⟨by decide +kernel, rfl⟩
theorem dk_41_17 : zz_d mm_41 17 (.iload_n 1) 1 18 := ⟨by decide +kernel, rfl⟩
theorem dk_41_18 : zz_d mm_41 18 (.invokestatic 95) 3 21 := ⟨by decide +kernel, rfl⟩
theorem dk_41_21 : zz_d mm_41 21 (.checkcast 110) 3 24 := ⟨by decide +kernel, rfl⟩
theorem dk_41_24 : zz_d mm_41 24 (.astore_n 3) 1 25 := ⟨by decide +kernel, rfl⟩
theorem dk_41_25 : zz_d mm_41 25 (.aload_n 0) 1 26 := ⟨by decide +kernel, rfl⟩
theorem dk_41_26 : zz_d mm_41 26 (.iconst 0) 1 27 := ⟨by decide +kernel, rfl⟩
theorem dk_41_27 : zz_d mm_41 27 (.aload_n 3) 1 28 := ⟨by decide +kernel, rfl⟩
theorem dk_41_28 : zz_d mm_41 28 (.iconst 0) 1 29 := ⟨by decide +kernel, rfl⟩
theorem dk_41_29 : zz_d mm_41 29 (.aload_n 0) 1 30 := ⟨by decide +kernel, rfl⟩
theorem dk_41_30 : zz_d mm_41 30 .arraylength 1 31 := ⟨by decide +kernel, rfl⟩
theorem dk_41_31 : zz_d mm_41 31 (.iload_n 1) 1 32 := ⟨by decide +kernel, rfl⟩
theorem dk_41_32 : zz_d mm_41 32 (.invokestatic 304) 3 35 := ⟨by decide +kernel, rfl⟩
theorem dk_41_35 : zz_d mm_41 35 (.invokestatic 150) 3 38 := ⟨by decide +kernel, rfl⟩
theorem dk_41_38 : zz_d mm_41 38 (.aload_n 3) 1 39 := ⟨by decide +kernel, rfl⟩
theorem dk_41_39 : zz_d mm_41 39 .areturn 1 40 := ⟨by decide +kernel, rfl⟩
theorem dk_42_0 : zz_d mm_42 0 (.iload_n 0) 1 1 := ⟨by decide +kernel, rfl⟩
theorem dk_42_1 : zz_d mm_42 1 (.iload_n 1) 1 2 := ⟨by decide +kernel, rfl⟩
theorem dk_42_2 : zz_d mm_42 2 (.if_icmp .gt 7) 3 5 := ⟨by decide +kernel, rfl⟩
theorem dk_42_5 : zz_d mm_42 5 (.iload_n 0) 1 6 := ⟨by decide +kernel, rfl⟩
theorem dk_42_6 : zz_d mm_42 6 (.goto 4) 3 9 := ⟨by decide +kernel, rfl⟩
theorem dk_42_9 : zz_d mm_42 9 (.iload_n 1) 1 10 := ⟨by decide +kernel, rfl⟩
theorem dk_42_10 : zz_d mm_42 10 .ireturn 1 11 := ⟨by decide +kernel, rfl⟩
theorem dk_43_0 : zz_d mm_43 0 (.aload_n 0) 1 1 := ⟨by decide +kernel, rfl⟩
theorem dk_43_1 : zz_d mm_43 1 (.getfield 40) 3 4 := ⟨by decide +kernel, rfl⟩
theorem dk_43_4 : zz_d mm_43 4 (.iload_n 1) 1 5 := ⟨by decide +kernel, rfl⟩
theorem dk_43_5 : zz_d mm_43 5 (.iload_n 2) 1 6 := ⟨by decide +kernel, rfl⟩
theorem dk_43_6 : zz_d mm_43 6 (.invokevirtual 101) 3 9 := ⟨by decide +kernel, rfl⟩
theorem dk_43_9 : zz_d mm_43 9 .ireturn 1 10 := ⟨by decide +kernel, rfl⟩
theorem dk_44_0 : zz_d mm_44 0 (.iload_n 1) 1 1 := ⟨by decide +kernel, rfl⟩
theorem dk_44_1 : zz_d mm_44 1 (.invokestatic 15) 3 4 := ⟨by decide +kernel, rfl⟩
theorem dk_44_4 : zz_d mm_44 4 (.ifCond .eq 23) 3 7 := ⟨by decide +kernel, rfl⟩
theorem dk_44_7 : zz_d mm_44 7 (.iload_n 2) 1 8 := ⟨by decide +kernel, rfl⟩
theorem dk_44_8 : zz_d mm_44 8 (.invokestatic 15) 3 11 := ⟨by decide +kernel, rfl⟩
theorem dk_44_11 : zz_d mm_44 11 (.ifCond .eq 16) 3 14 := ⟨by decide +kernel, rfl⟩
theorem dk_44_14 : zz_d mm_44 14 (.aload_n 0) 1 15 := ⟨by decide +kernel, rfl⟩
theorem dk_44_15 : zz_d mm_44 15 (.getfield 9) 3 18 := ⟨by decide +kernel, rfl⟩
theorem dk_44_18 : zz_d mm_44 18 (.iload_n 1) 1 19 := ⟨by decide +kernel, rfl⟩
theorem dk_44_19 : zz_d mm_44 19 .iaload 1 20 := ⟨by decide +kernel, rfl⟩
theorem dk_44_20 : zz_d mm_44 20 (.iload_n 2) 1 21 := ⟨by decide +kernel, rfl⟩
theorem dk_44_21 : zz_d mm_44 21 (.invokestatic 19) 3 24 := ⟨by decide +kernel, rfl⟩
theorem dk_44_24 : zz_d mm_44 24 (.ifCond .eq 5) 3 27 := ⟨by decide +kernel, rfl⟩
theorem dk_44_27 : zz_d mm_44 27 (.iconst 0) 1 28 := ⟨by decide +kernel, rfl⟩
theorem dk_44_28 : zz_d mm_44 28 .ireturn 1 29 := ⟨by decide +kernel, rfl⟩
theorem dk_44_29 : zz_d mm_44 29 (.iconst 0) 1 30 := ⟨by decide +kernel, rfl⟩
theorem dk_44_30 : zz_d mm_44 30 (.istore_n 3) 1 31 := ⟨by decide +kernel, rfl⟩
theorem dk_44_31 : zz_d mm_44 31 (.iload_n 3) 1 32 := ⟨by decide +kernel, rfl⟩
theorem dk_44_32 : zz_d mm_44 32 (.bipush 8) 2 34 := ⟨by decide +kernel, rfl⟩
theorem dk_44_34 : zz_d mm_44 34 (.if_icmp .ge 37) 3 37 := ⟨by decide +kernel, rfl⟩
theorem dk_44_37 : zz_d mm_44 37 (.aload_n 0) 1 38 := ⟨by decide +kernel, rfl⟩
theorem dk_44_38 : zz_d mm_44 38 (.getfield 9) 3 41 := ⟨by decide +kernel, rfl⟩
theorem dk_44_41 : zz_d mm_44 41 (.iload_n 3) 1 42 := ⟨by decide +kernel, rfl⟩
theorem dk_44_42 : zz_d mm_44 42 .iaload 1 43 := ⟨by decide +kernel, rfl⟩
theorem dk_44_43 : zz_d mm_44 43 (.iload_n 1) 1 44 := ⟨by decide +kernel, rfl⟩
theorem dk_44_44 : zz_d mm_44 44 (.invokestatic 19) 3 47 := ⟨by decide +kernel, rfl⟩
theorem dk_44_47 : zz_d mm_44 47 (.ifCond .eq 18) 3 50 := ⟨by decide +kernel, rfl⟩
theorem dk_44_50 : zz_d mm_44 50 (.aload_n 0) 1 51 := ⟨by decide +kernel, rfl⟩
theorem dk_44_51 : zz_d mm_44 51 (.getfield 9) 3 54 := ⟨by decide +kernel, rfl⟩
theorem dk_44_54 : zz_d mm_44 54 (.iload_n 3) 1 55 := ⟨by decide +kernel, rfl⟩
theorem dk_44_55 : zz_d mm_44 55 .dup2 1 56 := ⟨by decide +kernel, rfl⟩
theorem dk_44_56 : zz_d mm_44 56 .iaload 1 57 := ⟨by decide +kernel, rfl⟩
theorem dk_44_57 : zz_d mm_44 57 (.aload_n 0) 1 58 := ⟨by decide +kernel, rfl⟩
theorem dk_44_58 : zz_d mm_44 58 (.getfield 9) 3 61 := ⟨by decide +kernel, rfl⟩
theorem dk_44_61 : zz_d mm_44 61 (.iload_n 2) 1 62 := ⟨by decide +kernel, rfl⟩
theorem dk_44_62 : zz_d mm_44 62 .iaload 1 63 := ⟨by decide +kernel, rfl⟩
theorem dk_44_63 : zz_d mm_44 63 .ior 1 64 := ⟨by decide +kernel, rfl⟩
theorem dk_44_64 : zz_d mm_44 64 .iastore 1 65 := ⟨by decide +kernel, rfl⟩
theorem dk_44_65 : zz_d mm_44 65 (.iinc 3 1) 3 68 := ⟨by decide +kernel, rfl⟩
theorem dk_44_68 : zz_d mm_44 68 (.goto (-37)) 3 71 := ⟨by decide +kernel, rfl⟩
theorem dk_44_71 : zz_d mm_44 71 (.iconst 1) 1 72 := ⟨by decide +kernel, rfl⟩
theorem dk_44_72 : zz_d mm_44 72 .ireturn 1 73 := ⟨by decide +kernel, rfl⟩
theorem dk_45_0 : zz_d mm_45 0 (.iload_n 0) 1 1 := ⟨by decide +kernel, rfl⟩
theorem dk_45_1 : zz_d mm_45 1 (.iload_n 1) 1 2 := ⟨by decide +kernel, rfl⟩
theorem dk_45_2 : zz_d mm_45 2 .ishr 1 3 := ⟨by decide +kernel, rfl⟩
theorem dk_45_3 : zz_d mm_45 3 (.iconst 1) 1 4 := ⟨by decide +kernel, rfl⟩
theorem dk_45_4 : zz_d mm_45 4 .iand 1 5 := ⟨by decide +kernel, rfl⟩
theorem dk_45_5 : zz_d mm_45 5 (.iconst 1) 1 6 := ⟨by decide +kernel, rfl⟩
theorem dk_45_6 : zz_d mm_45 6 (.if_icmp .ne 7) 3 9 := ⟨by decide +kernel, rfl⟩
theorem dk_45_9 : zz_d mm_45 9 (.iconst 1) 1 10 := ⟨by decide +kernel, rfl⟩
theorem dk_45_10 : zz_d mm_45 10 (.goto 4) 3 13 := ⟨by decide +kernel, rfl⟩
theorem dk_45_13 : zz_d mm_45 13 (.iconst 0) 1 14 := ⟨by decide +kernel, rfl⟩
theorem dk_45_14 : zz_d mm_45 14 .ireturn 1 15 := ⟨by decide +kernel, rfl⟩
theorem dk_46_0 : zz_d mm_46 0 (.aload_n 0) 1 1 := ⟨by decide +kernel, rfl⟩
theorem dk_46_1 : zz_d mm_46 1 (.getfield 51) 3 4 := ⟨by decide +kernel, rfl⟩
theorem dk_46_4 : zz_d mm_46 4 (.invokevirtual 82) 3 7 := ⟨by decide +kernel, rfl⟩
theorem dk_46_7 : zz_d mm_46 7 (.bipush 6) 2 9 := ⟨by decide +kernel, rfl⟩
theorem dk_46_9 : zz_d mm_46 9 (.if_icmp .ge 14) 3 12 := ⟨by decide +kernel, rfl⟩
theorem dk_46_12 : zz_d mm_46 12 (.iload_n 2) 1 13 := ⟨by decide +kernel, rfl⟩
theorem dk_46_13 : zz_d mm_46 13 (.ifCond .lt 10) 3 16 := ⟨by decide +kernel, rfl⟩
theorem dk_46_16 : zz_d mm_46 16 (.iload_n 2) 1 17 := ⟨by decide +kernel, rfl⟩
theorem dk_46_17 : zz_d mm_46 17 (.sipush 255) 3 20 := ⟨by decide +kernel, rfl⟩
theorem dk_46_20 : zz_d mm_46 20 (.if_icmp .le 5) 3 23 := ⟨by decide +kernel, rfl⟩
theorem dk_46_23 : zz_d mm_46 23 (.iconst (-1)) 1 24 := ⟨by decide +kernel, rfl⟩
theorem dk_46_24 : zz_d mm_46 24 .ireturn 1 25 := ⟨by decide +kernel, rfl⟩
theorem dk_46_25 : zz_d mm_46 25 (.iload_n 3) 1 26 := ⟨by decide +kernel, rfl⟩
theorem dk_46_26 : zz_d mm_46 26 (.ifCond .eq 10) 3 29 := ⟨by decide +kernel, rfl⟩
theorem dk_46_29 : zz_d mm_46 29 (.iload_n 3) 1 30 := ⟨by decide +kernel, rfl⟩
theorem dk_46_30 : zz_d mm_46 30 (.iconst 1) 1 31 := ⟨by decide +kernel, rfl⟩
theorem dk_46_31 : zz_d mm_46 31 (.if_icmp .eq 5) 3 34 := ⟨by decide +kernel, rfl⟩
theorem dk_46_34 : zz_d mm_46 34 (.iconst (-1)) 1 35 := ⟨by decide +kernel, rfl⟩
theorem dk_46_35 : zz_d mm_46 35 .ireturn 1 36 := ⟨by decide +kernel, rfl⟩
theorem dk_46_36 : zz_d mm_46 36 (.aload_n 0) 1 37 := ⟨by decide +kernel, rfl⟩
theorem dk_46_37 : zz_d mm_46 37 (.getfield 51) 3 40 := ⟨by decide +kernel, rfl⟩
theorem dk_46_40 : zz_d mm_46 40 (.new 104) 3 43 := ⟨by decide +kernel, rfl⟩
theorem dk_46_43 : zz_d mm_46 43 .dup 1 44 := ⟨by decide +kernel, rfl⟩
theorem dk_46_44 : zz_d mm_46 44 (.iload_n 1) 1 45 := ⟨by decide +kernel, rfl⟩
theorem dk_46_45 : zz_d mm_46 45 (.iload_n 2) 1 46 := ⟨by decide +kernel, rfl⟩
theorem dk_46_46 : zz_d mm_46 46 (.iload_n 3) 1 47 := ⟨by decide +kernel, rfl⟩
theorem dk_46_47 : zz_d mm_46 47 (.aload_n 0) 1 48 := ⟨by decide +kernel, rfl⟩
theorem dk_46_48 : zz_d mm_46 48 (.invokevirtual 106) 3 51 := ⟨by decide +kernel, rfl⟩
theorem dk_46_51 : zz_d mm_46 51 (.invokespecial 109) 3 54 := ⟨by decide +kernel, rfl⟩
theorem dk_46_54 : zz_d mm_46 54 (.invokevirtual 98) 3 57 := ⟨by decide +kernel, rfl⟩
theorem dk_46_57 : zz_d mm_46 57 .pop 1 58 := ⟨by decide +kernel, rfl⟩
theorem dk_46_58 : zz_d mm_46 58 (.aload_n 0) 1 59 := ⟨by decide +kernel, rfl⟩
theorem dk_46_59 : zz_d mm_46 59 (.getfield 51) 3 62 := ⟨by decide +kernel, rfl⟩
theorem dk_46_62 : zz_d mm_46 62 (.invokevirtual 82) 3 65 := ⟨by decide +kernel, rfl⟩
theorem dk_46_65 : zz_d mm_46 65 (.iconst 1) 1 66 := ⟨by decide +kernel, rfl⟩
theorem dk_46_66 : zz_d mm_46 66 .isub 1 67 := ⟨by decide +kernel, rfl⟩
theorem dk_46_67 : zz_d mm_46 67 .ireturn 1 68 := ⟨by decide +kernel, rfl⟩
theorem dk_47_0 : zz_d mm_47 0 (.aload_n 0) 1 1 := ⟨by decide +kernel, rfl⟩
theorem dk_47_1 : zz_d mm_47 1 .dup 1 2 := ⟨by decide +kernel, rfl⟩
theorem dk_47_2 : zz_d mm_47 2 (.getfield 256) 3 5 := ⟨by decide +kernel, rfl⟩
theorem dk_47_5 : zz_d mm_47 5 (.iconst 1) 1 6 := ⟨by decide +kernel, rfl⟩
theorem dk_47_6 : zz_d mm_47 6 .iadd 1 7 := ⟨by decide +kernel, rfl⟩
theorem dk_47_7 : zz_d mm_47 7 (.putfield 256) 3 10 := ⟨by decide +kernel, rfl⟩
theorem dk_47_10 : zz_d mm_47 10 (.aload_n 0) 1 11 := ⟨by decide +kernel, rfl⟩
theorem dk_47_11 : zz_d mm_47 11 (.getfield 256) 3 14 := ⟨by decide +kernel, rfl⟩
theorem dk_47_14 : zz_d mm_47 14 .ireturn 1 15 := ⟨by decide +kernel, rfl⟩
theorem dk_48_0 : zz_d mm_48 0 (.aload_n 0) 1 1 := ⟨by decide +kernel, rfl⟩
theorem dk_48_1 : zz_d mm_48 1 (.invokespecial 1) 3 4 := ⟨by decide +kernel, rfl⟩
theorem dk_48_4 : zz_d mm_48 4 (.aload_n 0) 1 5 := ⟨by decide +kernel, rfl⟩
theorem dk_48_5 : zz_d mm_48 5 (.iload_n 2) 1 6 := ⟨by decide +kernel, rfl⟩
theorem dk_48_6 : zz_d mm_48 6 (.putfield 7) 3 9 := ⟨by decide +kernel, rfl⟩
theorem dk_48_9 : zz_d mm_48 9 (.aload_n 0) 1 10 := ⟨by decide +kernel, rfl⟩
theorem dk_48_10 : zz_d mm_48 10 (.iload_n 3) 1 11 := ⟨by decide +kernel, rfl⟩
theorem dk_48_11 : zz_d mm_48 11 (.putfield 13) 3 14 := ⟨by decide +kernel, rfl⟩
theorem dk_48_14 : zz_d mm_48 14 (.aload_n 0) 1 15 := ⟨by decide +kernel, rfl⟩
theorem dk_48_15 : zz_d mm_48 15 (.iload 4) 2 17 := ⟨by decide +kernel, rfl⟩
theorem dk_48_17 : zz_d mm_48 17 (.putfield 16) 3 20 := ⟨by decide +kernel, rfl⟩
theorem dk_48_20 : zz_d mm_48 20 (.aload_n 0) 1 21 := ⟨by decide +kernel, rfl⟩
theorem dk_48_21 : zz_d mm_48 21 (.iload_n 1) 1 22 := ⟨by decide +kernel, rfl⟩
theorem dk_48_22 : zz_d mm_48 22 (.iload_n 3) 1 23 := ⟨by decide +kernel, rfl⟩
theorem dk_48_23 : zz_d mm_48 23 (.iload 4) 2 25 := ⟨by decide +kernel, rfl⟩
theorem dk_48_25 : zz_d mm_48 25 (.invokestatic 19) 3 28 := ⟨by decide +kernel, rfl⟩
theorem dk_48_28 : zz_d mm_48 28 (.putfield 23) 3 31 := ⟨by decide +kernel, rfl⟩
theorem dk_48_31 : zz_d mm_48 31 .return_ 1 32 := ⟨by decide +kernel, rfl⟩
theorem dk_49_0 : zz_d mm_49 0 (.iload_n 1) 1 1 := ⟨by decide +kernel, rfl⟩
theorem dk_49_1 : zz_d mm_49 1 (.ifCond .ne 7) 3 4 := ⟨by decide +kernel, rfl⟩
theorem dk_49_4 : zz_d mm_49 4 (.iconst 4) 1 5 := ⟨by decide +kernel, rfl⟩
theorem dk_49_5 : zz_d mm_49 5 (.goto 5) 3 8 := ⟨by decide +kernel, rfl⟩
theorem dk_49_8 : zz_d mm_49 8 (.bipush 9) 2 10 := ⟨by decide +kernel, rfl⟩
theorem dk_49_10 : zz_d mm_49 10 (.istore_n 3) 1 11 := ⟨by decide +kernel, rfl⟩
theorem dk_49_11 : zz_d mm_49 11 (.iload_n 2) 1 12 := ⟨by decide +kernel, rfl⟩
theorem dk_49_12 : zz_d mm_49 12 (.istore 4) 2 14 := ⟨by decide +kernel, rfl⟩
theorem dk_49_14 : zz_d mm_49 14 (.iconst 0) 1 15 := ⟨by decide +kernel, rfl⟩
theorem dk_49_15 : zz_d mm_49 15 (.istore 5) 2 17 := ⟨by decide +kernel, rfl⟩
theorem dk_49_17 : zz_d mm_49 17 (.iload 5) 2 19 := ⟨by decide +kernel, rfl⟩
theorem dk_49_19 : zz_d mm_49 19 (.iload_n 3) 1 20 := ⟨by decide +kernel, rfl⟩
theorem dk_49_20 : zz_d mm_49 20 (.if_icmp .ge 24) 3 23 := ⟨by decide +kernel, rfl⟩
theorem dk_49_23 : zz_d mm_49 23 (.bipush 31) 2 25 := ⟨by decide +kernel, rfl⟩
theorem dk_49_25 : zz_d mm_49 25 (.iload 4) 2 27 := ⟨by decide +kernel, rfl⟩
theorem dk_49_27 : zz_d mm_49 27 .imul 1 28 := ⟨by decide +kernel, rfl⟩
theorem dk_49_28 : zz_d mm_49 28 (.iload_n 0) 1 29 := ⟨by decide +kernel, rfl⟩
theorem dk_49_29 : zz_d mm_49 29 .iadd 1 30 := ⟨by decide +kernel, rfl⟩
theorem dk_49_30 : zz_d mm_49 30 (.iload 4) 2 32 := ⟨by decide +kernel, rfl⟩
theorem dk_49_32 : zz_d mm_49 32 (.bipush 9) 2 34 := ⟨by decide +kernel, rfl⟩
theorem dk_49_34 : zz_d mm_49 34 .iushr 1 35 := ⟨by decide +kernel, rfl⟩
theorem dk_49_35 : zz_d mm_49 35 .ixor 1 36 := ⟨by decide +kernel, rfl⟩
theorem dk_49_36 : zz_d mm_49 36 (.istore 4) 2 38 := ⟨by decide +kernel, rfl⟩
theorem dk_49_38 : zz_d mm_49 38 (.iinc 5 1) 3 41 := ⟨by decide +kernel, rfl⟩
theorem dk_49_41 : zz_d mm_49 41 (.goto (-24)) 3 44 := ⟨by decide +kernel, rfl⟩
theorem dk_49_44 : zz_d mm_49 44 (.iload 4) 2 46 := ⟨by decide +kernel, rfl⟩
theorem dk_49_46 : zz_d mm_49 46 .ireturn 1 47 := ⟨by decide +kernel, rfl⟩
theorem dk_50_0 : zz_d mm_50 0 (.aload_n 0) 1 1 := ⟨by decide +kernel, rfl⟩
theorem dk_50_1 : zz_d mm_50 1 (.getfield 54) 3 4 := ⟨by decide +kernel, rfl⟩
theorem dk_50_4 : zz_d mm_50 4 (.invokevirtual 82) 3 7 := ⟨by decide +kernel, rfl⟩
theorem dk_50_7 : zz_d mm_50 7 (.bipush 6) 2 9 := ⟨by decide +kernel, rfl⟩
theorem dk_50_9 : zz_d mm_50 9 (.if_icmp .ge 11) 3 12 := ⟨by decide +kernel, rfl⟩
theorem dk_50_12 : zz_d mm_50 12 (.aload_n 0) 1 13 := ⟨by decide +kernel, rfl⟩
theorem dk_50_13 : zz_d mm_50 13 (.iload_n 3) 1 14 := ⟨by decide +kernel, rfl⟩
theorem dk_50_14 : zz_d mm_50 14 (.invokevirtual 112) 3 17 := ⟨by decide +kernel, rfl⟩
theorem dk_50_17 : zz_d mm_50 17 (.ifCond .ne 5) 3 20 := ⟨by decide +kernel, rfl⟩
theorem dk_50_20 : zz_d mm_50 20 (.iconst (-1)) 1 21 := ⟨by decide +kernel, rfl⟩
theorem dk_50_21 : zz_d mm_50 21 .ireturn 1 22 := ⟨by decide +kernel, rfl⟩
theorem dk_50_22 : zz_d mm_50 22 (.aload_n 0) 1 23 := ⟨by decide +kernel, rfl⟩
theorem dk_50_23 : zz_d mm_50 23 (.iload_n 1) 1 24 := ⟨by decide +kernel, rfl⟩
theorem dk_50_24 : zz_d mm_50 24 (.invokevirtual 115) 3 27 := ⟨by decide +kernel, rfl⟩
theorem dk_50_27 : zz_d mm_50 27 (.ifCond .eq 11) 3 30 := ⟨by decide +kernel, rfl⟩
theorem dk_50_30 : zz_d mm_50 30 (.aload_n 0) 1 31 := ⟨by decide +kernel, rfl⟩
theorem dk_50_31 : zz_d mm_50 31 (.iload_n 2) 1 32 := ⟨by decide +kernel, rfl⟩
theorem dk_50_32 : zz_d mm_50 32 (.invokevirtual 115) 3 35 := ⟨by decide +kernel, rfl⟩
theorem dk_50_35 : zz_d mm_50 35 (.ifCond .ne 5) 3 38 := ⟨by decide +kernel, rfl⟩
theorem dk_50_38 : zz_d mm_50 38 (.iconst (-1)) 1 39 := ⟨by decide +kernel, rfl⟩
theorem dk_50_39 : zz_d mm_50 39 .ireturn 1 40 := ⟨by decide +kernel, rfl⟩
theorem dk_50_40 : zz_d mm_50 40 (.aload_n 0) 1 41 := ⟨by decide +kernel, rfl⟩
theorem dk_50_41 : zz_d mm_50 41 (.getfield 54) 3 44 := ⟨by decide +kernel, rfl⟩
theorem dk_50_44 : zz_d mm_50 44 (.new 118) 3 47 := ⟨by decide +kernel, rfl⟩
theorem dk_50_47 : zz_d mm_50 47 .dup 1 48 := ⟨by decide +kernel, rfl⟩
theorem dk_50_48 : zz_d mm_50 48 (.iload_n 1) 1 49 := ⟨by decide +kernel, rfl⟩
theorem dk_50_49 : zz_d mm_50 49 (.iload_n 2) 1 50 := ⟨by decide +kernel, rfl⟩
theorem dk_50_50 : zz_d mm_50 50 (.iload_n 3) 1 51 := ⟨by decide +kernel, rfl⟩
theorem dk_50_51 : zz_d mm_50 51 (.invokespecial 120) 3 54 := ⟨by decide +kernel, rfl⟩
theorem dk_50_54 : zz_d mm_50 54 (.invokevirtual 98) 3 57 := ⟨by decide +kernel, rfl⟩
theorem dk_50_57 : zz_d mm_50 57 .pop 1 58 := ⟨by decide +kernel, rfl⟩
theorem dk_50_58 : zz_d mm_50 58 (.aload_n 0) 1 59 := ⟨by decide +kernel, rfl⟩
theorem dk_50_59 : zz_d mm_50 59 (.getfield 54) 3 62 := ⟨by decide +kernel, rfl⟩
theorem dk_50_62 : zz_d mm_50 62 (.invokevirtual 82) 3 65 := ⟨by decide +kernel, rfl⟩
theorem dk_50_65 : zz_d mm_50 65 (.iconst 1) 1 66 := ⟨by decide +kernel, rfl⟩
theorem dk_50_66 : zz_d mm_50 66 .isub 1 67 := ⟨by decide +kernel, rfl⟩
theorem dk_50_67 : zz_d mm_50 67 .ireturn 1 68 := ⟨by decide +kernel, rfl⟩
theorem dk_51_0 : zz_d mm_51 0 (.iload_n 1) 1 1 := ⟨by decide +kernel, rfl⟩
theorem dk_51_1 : zz_d mm_51 1 (.iconst (-1)) 1 2 := ⟨by decide +kernel, rfl⟩
theorem dk_51_2 : zz_d mm_51 2 (.if_icmp .eq 14) 3 5 := ⟨by decide +kernel, rfl⟩
theorem dk_51_5 : zz_d mm_51 5 (.aload_n 0) 1 6 := ⟨by decide +kernel, rfl⟩
theorem dk_51_6 : zz_d mm_51 6 (.getfield 33) 3 9 := ⟨by decide +kernel, rfl⟩
theorem dk_51_9 : zz_d mm_51 9 (.iload_n 1) 1 10 := ⟨by decide +kernel, rfl⟩
theorem dk_51_10 : zz_d mm_51 10 (.invokevirtual 86) 3 13 := ⟨by decide +kernel, rfl⟩
theorem dk_51_13 : zz_d mm_51 13 (.ifCond .eq 7) 3 16 := ⟨by decide +kernel, rfl⟩
theorem dk_51_16 : zz_d mm_51 16 (.iconst 1) 1 17 := ⟨by decide +kernel, rfl⟩
theorem dk_51_17 : zz_d mm_51 17 (.goto 4) 3 20 := ⟨by decide +kernel, rfl⟩
theorem dk_51_20 : zz_d mm_51 20 (.iconst 0) 1 21 := ⟨by decide +kernel, rfl⟩
theorem dk_51_21 : zz_d mm_51 21 .ireturn 1 22 := ⟨by decide +kernel, rfl⟩
theorem dk_52_0 : zz_d mm_52 0 (.iload_n 1) 1 1 := ⟨by decide +kernel, rfl⟩
theorem dk_52_1 : zz_d mm_52 1 (.iconst (-1)) 1 2 := ⟨by decide +kernel, rfl⟩
theorem dk_52_2 : zz_d mm_52 2 (.if_icmp .eq 11) 3 5 := ⟨by decide +kernel, rfl⟩
theorem dk_52_5 : zz_d mm_52 5 (.aload_n 0) 1 6 := ⟨by decide +kernel, rfl⟩
theorem dk_52_6 : zz_d mm_52 6 (.iload_n 1) 1 7 := ⟨by decide +kernel, rfl⟩
theorem dk_52_7 : zz_d mm_52 7 (.invokevirtual 123) 3 10 := ⟨by decide +kernel, rfl⟩
theorem dk_52_10 : zz_d mm_52 10 (.ifCond .eq 7) 3 13 := ⟨by decide +kernel, rfl⟩
theorem dk_52_13 : zz_d mm_52 13 (.iconst 1) 1 14 := ⟨by decide +kernel, rfl⟩
theorem dk_52_14 : zz_d mm_52 14 (.goto 4) 3 17 := ⟨by decide +kernel, rfl⟩
theorem dk_52_17 : zz_d mm_52 17 (.iconst 0) 1 18 := ⟨by decide +kernel, rfl⟩
theorem dk_52_18 : zz_d mm_52 18 .ireturn 1 19 := ⟨by decide +kernel, rfl⟩
theorem dk_53_0 : zz_d mm_53 0 (.iload_n 1) 1 1 := ⟨by decide +kernel, rfl⟩
theorem dk_53_1 : zz_d mm_53 1 (.ifCond .lt 18) 3 4 := ⟨by decide +kernel, rfl⟩
theorem dk_53_4 : zz_d mm_53 4 (.iload_n 1) 1 5 := ⟨by decide +kernel, rfl⟩
theorem dk_53_5 : zz_d mm_53 5 (.aload_n 0) 1 6 := ⟨by decide +kernel, rfl⟩
theorem dk_53_6 : zz_d mm_53 6 (.getfield 54) 3 9 := ⟨by decide +kernel, rfl⟩
theorem dk_53_9 : zz_d mm_53 9 (.invokevirtual 82) 3 12 := ⟨by decide +kernel, rfl⟩
theorem dk_53_12 : zz_d mm_53 12 (.if_icmp .ge 7) 3 15 := ⟨by decide +kernel, rfl⟩
theorem dk_53_15 : zz_d mm_53 15 (.iconst 1) 1 16 := ⟨by decide +kernel, rfl⟩
theorem dk_53_16 : zz_d mm_53 16 (.goto 4) 3 19 := ⟨by decide +kernel, rfl⟩
theorem dk_53_19 : zz_d mm_53 19 (.iconst 0) 1 20 := ⟨by decide +kernel, rfl⟩
theorem dk_53_20 : zz_d mm_53 20 .ireturn 1 21 := ⟨by decide +kernel, rfl⟩
theorem dk_54_0 : zz_d mm_54 0 (.aload_n 0) 1 1 := ⟨by decide +kernel, rfl⟩
theorem dk_54_1 : zz_d mm_54 1 (.invokespecial 3) 3 4 := ⟨by decide +kernel, rfl⟩
theorem dk_54_4 : zz_d mm_54 4 (.aload_n 0) 1 5 := ⟨by decide +kernel, rfl⟩
theorem dk_54_5 : zz_d mm_54 5 (.iconst 4) 1 6 := ⟨by decide +kernel, rfl⟩
theorem dk_54_6 : zz_d mm_54 6 (.newarray .boolean) 2 8 := ⟨by decide +kernel, rfl⟩
theorem dk_54_8 : zz_d mm_54 8 (.putfield 9) 3 11 := ⟨by decide +kernel, rfl⟩
theorem dk_54_11 : zz_d mm_54 11 (.aload_n 0) 1 12 := ⟨by decide +kernel, rfl⟩
theorem dk_54_12 : zz_d mm_54 12 (.iconst 4) 1 13 := ⟨by decide +kernel, rfl⟩
theorem dk_54_13 : zz_d mm_54 13 (.newarray .int) 2 15 := ⟨by decide +kernel, rfl⟩
theorem dk_54_15 : zz_d mm_54 15 (.putfield 15) 3 18 := ⟨by decide +kernel, rfl⟩
theorem dk_54_18 : zz_d mm_54 18 (.aload_n 0) 1 19 := ⟨by decide +kernel, rfl⟩
theorem dk_54_19 : zz_d mm_54 19 (.iload_n 1) 1 20 := ⟨by decide +kernel, rfl⟩
theorem dk_54_20 : zz_d mm_54 20 (.putfield 19) 3 23 := ⟨by decide +kernel, rfl⟩
theorem dk_54_23 : zz_d mm_54 23 (.aload_n 0) 1 24 := ⟨by decide +kernel, rfl⟩
theorem dk_54_24 : zz_d mm_54 24 (.iload_n 2) 1 25 := ⟨by decide +kernel, rfl⟩
theorem dk_54_25 : zz_d mm_54 25 (.putfield 23) 3 28 := ⟨by decide +kernel, rfl⟩
theorem dk_54_28 : zz_d mm_54 28 (.aload_n 0) 1 29 := ⟨by decide +kernel, rfl⟩
theorem dk_54_29 : zz_d mm_54 29 (.iload_n 3) 1 30 := ⟨by decide +kernel, rfl⟩
theorem dk_54_30 : zz_d mm_54 30 (.putfield 26) 3 33 := ⟨by decide +kernel, rfl⟩
theorem dk_54_33 : zz_d mm_54 33 .return_ 1 34 := ⟨by decide +kernel, rfl⟩
theorem dk_55_0 : zz_d mm_55 0 (.aload_n 0) 1 1 := ⟨by decide +kernel, rfl⟩
theorem dk_55_1 : zz_d mm_55 1 (.iload_n 1) 1 2 := ⟨by decide +kernel, rfl⟩
theorem dk_55_2 : zz_d mm_55 2 (.invokevirtual 123) 3 5 := ⟨by decide +kernel, rfl⟩
theorem dk_55_5 : zz_d mm_55 5 (.ifCond .eq 18) 3 8 := ⟨by decide +kernel, rfl⟩
theorem dk_55_8 : zz_d mm_55 8 (.iload_n 2) 1 9 := ⟨by decide +kernel, rfl⟩
theorem dk_55_9 : zz_d mm_55 9 (.invokestatic 126) 3 12 := ⟨by decide +kernel, rfl⟩
theorem dk_55_12 : zz_d mm_55 12 (.ifCond .eq 11) 3 15 := ⟨by decide +kernel, rfl⟩
theorem dk_55_15 : zz_d mm_55 15 (.aload_n 0) 1 16 := ⟨by decide +kernel, rfl⟩
theorem dk_55_16 : zz_d mm_55 16 (.iload_n 3) 1 17 := ⟨by decide +kernel, rfl⟩
theorem dk_55_17 : zz_d mm_55 17 (.invokevirtual 112) 3 20 := ⟨by decide +kernel, rfl⟩
theorem dk_55_20 : zz_d mm_55 20 (.ifCond .ne 5) 3 23 := ⟨by decide +kernel, rfl⟩
theorem dk_55_23 : zz_d mm_55 23 (.iconst 0) 1 24 := ⟨by decide +kernel, rfl⟩
theorem dk_55_24 : zz_d mm_55 24 .ireturn 1 25 := ⟨by decide +kernel, rfl⟩
theorem dk_55_25 : zz_d mm_55 25 (.aload_n 0) 1 26 := ⟨by decide +kernel, rfl⟩
theorem dk_55_26 : zz_d mm_55 26 (.getfield 54) 3 29 := ⟨by decide +kernel, rfl⟩
theorem dk_55_29 : zz_d mm_55 29 (.iload_n 1) 1 30 := ⟨by decide +kernel, rfl⟩
theorem dk_55_30 : zz_d mm_55 30 (.invokevirtual 129) 3 33 := ⟨by decide +kernel, rfl⟩
theorem dk_55_33 : zz_d mm_55 33 (.checkcast 118) 3 36 := ⟨by decide +kernel, rfl⟩
theorem dk_55_36 : zz_d mm_55 36 (.iload_n 2) 1 37 := ⟨by decide +kernel, rfl⟩
theorem dk_55_37 : zz_d mm_55 37 (.iload_n 3) 1 38 := ⟨by decide +kernel, rfl⟩
theorem dk_55_38 : zz_d mm_55 38 (.invokevirtual 133) 3 41 := ⟨by decide +kernel, rfl⟩
theorem dk_55_41 : zz_d mm_55 41 .ireturn 1 42 := ⟨by decide +kernel, rfl⟩
theorem dk_56_0 : zz_d mm_56 0 (.iload_n 0) 1 1 := ⟨by decide +kernel, rfl⟩
theorem dk_56_1 : zz_d mm_56 1 (.ifCond .lt 12) 3 4 := ⟨by decide +kernel, rfl⟩
theorem dk_56_4 : zz_d mm_56 4 (.iload_n 0) 1 5 := ⟨by decide +kernel, rfl⟩
theorem dk_56_5 : zz_d mm_56 5 (.iconst 4) 1 6 := ⟨by decide +kernel, rfl⟩
theorem dk_56_6 : zz_d mm_56 6 (.if_icmp .ge 7) 3 9 := ⟨by decide +kernel, rfl⟩
theorem dk_56_9 : zz_d mm_56 9 (.iconst 1) 1 10 := ⟨by decide +kernel, rfl⟩
theorem dk_56_10 : zz_d mm_56 10 (.goto 4) 3 13 := ⟨by decide +kernel, rfl⟩
theorem dk_56_13 : zz_d mm_56 13 (.iconst 0) 1 14 := ⟨by decide +kernel, rfl⟩
theorem dk_56_14 : zz_d mm_56 14 .ireturn 1 15 := ⟨by decide +kernel, rfl⟩
theorem dk_57_0 : zz_d mm_57 0 (.iload_n 1) 1 1 := ⟨by decide +kernel, rfl⟩
theorem dk_57_1 : zz_d mm_57 1 (.aload_n 0) 1 2 := ⟨by decide +kernel, rfl⟩
theorem dk_57_2 : zz_d mm_57 2 (.getfield 48) 3 5 := ⟨by decide +kernel, rfl⟩
theorem dk_57_5 : zz_d mm_57 5 (.invokestatic 118) 3 8 := ⟨by decide +kernel, rfl⟩
theorem dk_57_8 : zz_d mm_57 8 .pop 1 9 := ⟨by decide +kernel, rfl⟩
theorem dk_57_9 : zz_d mm_57 9 (.aload_n 0) 1 10 := ⟨by decide +kernel, rfl⟩
theorem dk_57_10 : zz_d mm_57 10 (.iload_n 1) 1 11 := ⟨by decide +kernel, rfl⟩
theorem dk_57_11 : zz_d mm_57 11 (.invokevirtual 123) 3 14 := ⟨by decide +kernel, rfl⟩
theorem dk_57_14 : zz_d mm_57 14 .areturn 1 15 := ⟨by decide +kernel, rfl⟩
theorem dk_58_0 : zz_d mm_58 0 (.iload_n 0) 1 1 := ⟨by decide +kernel, rfl⟩
theorem dk_58_1 : zz_d mm_58 1 (.iload_n 1) 1 2 := ⟨by decide +kernel, rfl⟩
theorem dk_58_2 : zz_d mm_58 2 .aconst_null 1 3 := ⟨by decide +kernel, rfl⟩
theorem dk_58_3 : zz_d mm_58 3 (.invokestatic 105) 3 6 := ⟨by decide +kernel, rfl⟩
theorem dk_58_6 : zz_d mm_58 6 .ireturn 1 7 := ⟨by decide +kernel, rfl⟩
theorem dk_59_0 : zz_d mm_59 0 (.iload_n 0) 1 1 := ⟨by decide +kernel, rfl⟩
theorem dk_59_1 : zz_d mm_59 1 (.ifCond .lt 8) 3 4 := ⟨by decide +kernel, rfl⟩
theorem dk_59_4 : zz_d mm_59 4 (.iload_n 0) 1 5 := ⟨by decide +kernel, rfl⟩
theorem dk_59_5 : zz_d mm_59 5 (.iload_n 1) 1 6 := ⟨by decide +kernel, rfl⟩
theorem dk_59_6 : zz_d mm_59 6 (.if_icmp .lt 10) 3 9 := ⟨by decide +kernel, rfl⟩
theorem dk_59_9 : zz_d mm_59 9 (.aload_n 2) 1 10 := ⟨by decide +kernel, rfl⟩
theorem dk_59_10 : zz_d mm_59 10 (.iload_n 0) 1 11 := ⟨by decide +kernel, rfl⟩
theorem dk_59_11 : zz_d mm_59 11 (.iload_n 1) 1 12 := ⟨by decide +kernel, rfl⟩
theorem dk_59_12 : zz_d mm_59 12 (.invokestatic 95) 3 15 := ⟨by decide +kernel, rfl⟩
theorem dk_59_15 : zz_d mm_59 15 .athrow 1 16 := ⟨by decide +kernel, rfl⟩
theorem dk_59_16 : zz_d mm_59 16 (.iload_n 0) 1 17 := ⟨by decide +kernel, rfl⟩
theorem dk_59_17 : zz_d mm_59 17 .ireturn 1 18 := ⟨by decide +kernel, rfl⟩
theorem dk_60_0 : zz_d mm_60 0 (.aload_n 0) 1 1 := ⟨by decide +kernel, rfl⟩
theorem dk_60_1 : zz_d mm_60 1 (.getfield 9) 3 4 := ⟨by decide +kernel, rfl⟩
theorem dk_60_4 : zz_d mm_60 4 (.iload_n 1) 1 5 := ⟨by decide +kernel, rfl⟩
theorem dk_60_5 : zz_d mm_60 5 .aaload 1 6 := ⟨by decide +kernel, rfl⟩
theorem dk_60_6 : zz_d mm_60 6 .areturn 1 7 := ⟨by decide +kernel, rfl⟩
theorem dk_61_0 : zz_d mm_61 0 (.iload_n 1) 1 1 := ⟨by decide +kernel, rfl⟩
theorem dk_61_1 : zz_d mm_61 1 (.invokestatic 29) 3 4 := ⟨by decide +kernel, rfl⟩
theorem dk_61_4 : zz_d mm_61 4 (.ifCond .eq 12) 3 7 := ⟨by decide +kernel, rfl⟩
theorem dk_61_7 : zz_d mm_61 7 (.aload_n 0) 1 8 := ⟨by decide +kernel, rfl⟩
theorem dk_61_8 : zz_d mm_61 8 (.getfield 9) 3 11 := ⟨by decide +kernel, rfl⟩
theorem dk_61_11 : zz_d mm_61 11 (.iload_n 1) 1 12 := ⟨by decide +kernel, rfl⟩
theorem dk_61_12 : zz_d mm_61 12 .baload 1 13 := ⟨by decide +kernel, rfl⟩
theorem dk_61_13 : zz_d mm_61 13 (.ifCond .eq 5) 3 16 := ⟨by decide +kernel, rfl⟩
theorem dk_61_16 : zz_d mm_61 16 (.iconst 0) 1 17 := ⟨by decide +kernel, rfl⟩
theorem dk_61_17 : zz_d mm_61 17 .ireturn 1 18 := ⟨by decide +kernel, rfl⟩
theorem dk_61_18 : zz_d mm_61 18 (.aload_n 0) 1 19 := ⟨by decide +kernel, rfl⟩
theorem dk_61_19 : zz_d mm_61 19 (.getfield 9) 3 22 := ⟨by decide +kernel, rfl⟩
theorem dk_61_22 : zz_d mm_61 22 (.iload_n 1) 1 23 := ⟨by decide +kernel, rfl⟩
theorem dk_61_23 : zz_d mm_61 23 (.iconst 1) 1 24 := ⟨by decide +kernel, rfl⟩
theorem dk_61_24 : zz_d mm_61 24 .bastore 1 25 := ⟨by decide +kernel, rfl⟩
theorem dk_61_25 : zz_d mm_61 25 (.aload_n 0) 1 26 := ⟨by decide +kernel, rfl⟩
theorem dk_61_26 : zz_d mm_61 26 (.getfield 15) 3 29 := ⟨by decide +kernel, rfl⟩
theorem dk_61_29 : zz_d mm_61 29 (.iload_n 1) 1 30 := ⟨by decide +kernel, rfl⟩
theorem dk_61_30 : zz_d mm_61 30 (.iload_n 2) 1 31 := ⟨by decide +kernel, rfl⟩
theorem dk_61_31 : zz_d mm_61 31 .iastore 1 32 := ⟨by decide +kernel, rfl⟩
theorem dk_61_32 : zz_d mm_61 32 (.iconst 1) 1 33 := ⟨by decide +kernel, rfl⟩
theorem dk_61_33 : zz_d mm_61 33 .ireturn 1 34 := ⟨by decide +kernel, rfl⟩
theorem dk_62_0 : zz_d mm_62 0 (.iload_n 1) 1 1 := ⟨by decide +kernel, rfl⟩
theorem dk_62_1 : zz_d mm_62 1 (.iconst 1) 1 2 := ⟨by decide +kernel, rfl⟩
theorem dk_62_2 : zz_d mm_62 2 (.if_icmp .lt 9) 3 5 := ⟨by decide +kernel, rfl⟩
theorem dk_62_5 : zz_d mm_62 5 (.iload_n 1) 1 6 := ⟨by decide +kernel, rfl⟩
theorem dk_62_6 : zz_d mm_62 6 (.bipush 100) 2 8 := ⟨by decide +kernel, rfl⟩
theorem dk_62_8 : zz_d mm_62 8 (.if_icmp .le 5) 3 11 := ⟨by decide +kernel, rfl⟩
theorem dk_62_11 : zz_d mm_62 11 (.iconst 0) 1 12 := ⟨by decide +kernel, rfl⟩
theorem dk_62_12 : zz_d mm_62 12 .ireturn 1 13 := ⟨by decide +kernel, rfl⟩
theorem dk_62_13 : zz_d mm_62 13 (.aload_n 0) 1 14 := ⟨by decide +kernel, rfl⟩
theorem dk_62_14 : zz_d mm_62 14 .dup 1 15 := ⟨by decide +kernel, rfl⟩
theorem dk_62_15 : zz_d mm_62 15 (.getfield 134) 3 18 := ⟨by decide +kernel, rfl⟩
theorem dk_62_18 : zz_d mm_62 18 (.iload_n 1) 1 19 := ⟨by decide +kernel, rfl⟩
theorem dk_62_19 : zz_d mm_62 19 .iadd 1 20 := ⟨by decide +kernel, rfl⟩
theorem dk_62_20 : zz_d mm_62 20 (.putfield 134) 3 23 := ⟨by decide +kernel, rfl⟩
theorem dk_62_23 : zz_d mm_62 23 (.aload_n 0) 1 24 := ⟨by decide +kernel, rfl⟩
theorem dk_62_24 : zz_d mm_62 24 (.getfield 60) 3 27 := ⟨by decide +kernel, rfl⟩
theorem dk_62_27 : zz_d mm_62 27 (.aload_n 0) 1 28 := ⟨by decide +kernel, rfl⟩
theorem dk_62_28 : zz_d mm_62 28 (.getfield 134) 3 31 := ⟨by decide +kernel, rfl⟩
theorem dk_62_31 : zz_d mm_62 31 (.invokevirtual 137) 3 34 := ⟨by decide +kernel, rfl⟩
theorem dk_62_34 : zz_d mm_62 34 (.iconst 1) 1 35 := ⟨by decide +kernel, rfl⟩
theorem dk_62_35 : zz_d mm_62 35 .ireturn 1 36 := ⟨by decide +kernel, rfl⟩
theorem dk_63_0 : zz_d mm_63 0 (.aload_n 0) 1 1 := ⟨by decide +kernel, rfl⟩
theorem dk_63_1 : zz_d mm_63 1 (.getfield 10) 3 4 := ⟨by decide +kernel, rfl⟩
theorem dk_63_4 : zz_d mm_63 4 (.invokevirtual 16) 3 7 := ⟨by decide +kernel, rfl⟩
theorem dk_63_7 : zz_d mm_63 7 (.iconst 1) 1 8 := ⟨by decide +kernel, rfl⟩
theorem dk_63_8 : zz_d mm_63 8 .isub 1 9 := ⟨by decide +kernel, rfl⟩
theorem dk_63_9 : zz_d mm_63 9 (.istore_n 2) 1 10 := ⟨by decide +kernel, rfl⟩
theorem dk_63_10 : zz_d mm_63 10 (.iload_n 2) 1 11 := ⟨by decide +kernel, rfl⟩
theorem dk_63_11 : zz_d mm_63 11 (.ifCond .lt 36) 3 14 := ⟨by decide +kernel, rfl⟩
theorem dk_63_14 : zz_d mm_63 14 (.aload_n 0) 1 15 := ⟨by decide +kernel, rfl⟩
theorem dk_63_15 : zz_d mm_63 15 (.getfield 10) 3 18 := ⟨by decide +kernel, rfl⟩
theorem dk_63_18 : zz_d mm_63 18 (.iload_n 2) 1 19 := ⟨by decide +kernel, rfl⟩
theorem dk_63_19 : zz_d mm_63 19 (.invokevirtual 20) 3 22 := ⟨by decide +kernel, rfl⟩
theorem dk_63_22 : zz_d mm_63 22 (.checkcast 24) 3 25 := ⟨by decide +kernel, rfl⟩
theorem dk_63_25 : zz_d mm_63 25 (.iload_n 1) 1 26 := ⟨by decide +kernel, rfl⟩
theorem dk_63_26 : zz_d mm_63 26 (.invokevirtual 51) 3 29 := ⟨by decide +kernel, rfl⟩
theorem dk_63_29 : zz_d mm_63 29 (.ifCond .eq 12) 3 32 := ⟨by decide +kernel, rfl⟩
theorem dk_63_32 : zz_d mm_63 32 (.aload_n 0) 1 33 := ⟨by decide +kernel, rfl⟩
theorem dk_63_33 : zz_d mm_63 33 (.getfield 10) 3 36 := ⟨by decide +kernel, rfl⟩
theorem dk_63_36 : zz_d mm_63 36 (.iload_n 2) 1 37 := ⟨by decide +kernel, rfl⟩
theorem dk_63_37 : zz_d mm_63 37 (.invokevirtual 48) 3 40 := ⟨by decide +kernel, rfl⟩
theorem dk_63_40 : zz_d mm_63 40 .pop 1 41 := ⟨by decide +kernel, rfl⟩
theorem dk_63_41 : zz_d mm_63 41 (.iinc 2 (-1)) 3 44 := ⟨by decide +kernel, rfl⟩
theorem dk_63_44 : zz_d mm_63 44 (.goto (-34)) 3 47 := ⟨by decide +kernel, rfl⟩
theorem dk_63_47 : zz_d mm_63 47 .return_ 1 48 := ⟨by decide +kernel, rfl⟩
theorem dk_64_0 : zz_d mm_64 0 (.iload_n 1) 1 1 := ⟨by decide +kernel, rfl⟩
theorem dk_64_1 : zz_d mm_64 1 (.aload_n 0) 1 2 := ⟨by decide +kernel, rfl⟩
theorem dk_64_2 : zz_d mm_64 2 (.getfield 23) 3 5 := ⟨by decide +kernel, rfl⟩
theorem dk_64_5 : zz_d mm_64 5 .isub 1 6 := ⟨by decide +kernel, rfl⟩
theorem dk_64_6 : zz_d mm_64 6 (.bipush 60) 2 8 := ⟨by decide +kernel, rfl⟩
theorem dk_64_8 : zz_d mm_64 8 (.if_icmp .gt 14) 3 11 := ⟨by decide +kernel, rfl⟩
theorem dk_64_11 : zz_d mm_64 11 (.iload_n 1) 1 12 := ⟨by decide +kernel, rfl⟩
theorem dk_64_12 : zz_d mm_64 12 (.aload_n 0) 1 13 := ⟨by decide +kernel, rfl⟩
theorem dk_64_13 : zz_d mm_64 13 (.getfield 26) 3 16 := ⟨by decide +kernel, rfl⟩
theorem dk_64_16 : zz_d mm_64 16 .isub 1 17 := ⟨by decide +kernel, rfl⟩
theorem dk_64_17 : zz_d mm_64 17 (.bipush 20) 2 19 := ⟨by decide +kernel, rfl⟩
theorem dk_64_19 : zz_d mm_64 19 (.if_icmp .le 7) 3 22 := ⟨by decide +kernel, rfl⟩
theorem dk_64_22 : zz_d mm_64 22 (.iconst 1) 1 23 := ⟨by decide +kernel, rfl⟩
theorem dk_64_23 : zz_d mm_64 23 (.goto 4) 3 26 := ⟨by decide +kernel, rfl⟩
theorem dk_64_26 : zz_d mm_64 26 (.iconst 0) 1 27 := ⟨by decide +kernel, rfl⟩
theorem dk_64_27 : zz_d mm_64 27 .ireturn 1 28 := ⟨by decide +kernel, rfl⟩
theorem dk_65_0 : zz_d mm_65 0 (.iload_n 1) 1 1 := ⟨by decide +kernel, rfl⟩
theorem dk_65_1 : zz_d mm_65 1 (.aload_n 0) 1 2 := ⟨by decide +kernel, rfl⟩
theorem dk_65_2 : zz_d mm_65 2 (.getfield 48) 3 5 := ⟨by decide +kernel, rfl⟩
theorem dk_65_5 : zz_d mm_65 5 (.invokestatic 118) 3 8 := ⟨by decide +kernel, rfl⟩
theorem dk_65_8 : zz_d mm_65 8 .pop 1 9 := ⟨by decide +kernel, rfl⟩
theorem dk_65_9 : zz_d mm_65 9 (.aload_n 0) 1 10 := ⟨by decide +kernel, rfl⟩
theorem dk_65_10 : zz_d mm_65 10 (.getfield 9) 3 13 := ⟨by decide +kernel, rfl⟩
theorem dk_65_13 : zz_d mm_65 13 (.astore_n 2) 1 14 := ⟨by decide +kernel, rfl⟩
theorem dk_65_14 : zz_d mm_65 14 (.aload_n 2) 1 15 := ⟨by decide +kernel, rfl⟩
theorem dk_65_15 : zz_d mm_65 15 (.iload_n 1) 1 16 := ⟨by decide +kernel, rfl⟩
theorem dk_65_16 : zz_d mm_65 16 .aaload 1 17 := ⟨by decide +kernel, rfl⟩
theorem dk_65_17 : zz_d mm_65 17 (.astore_n 3) 1 18 := ⟨by decide +kernel, rfl⟩
theorem dk_65_18 : zz_d mm_65 18 (.aload_n 0) 1 19 := ⟨by decide +kernel, rfl⟩
theorem dk_65_19 : zz_d mm_65 19 (.aload_n 2) 1 20 := ⟨by decide +kernel, rfl⟩
theorem dk_65_20 : zz_d mm_65 20 (.iload_n 1) 1 21 := ⟨by decide +kernel, rfl⟩
theorem dk_65_21 : zz_d mm_65 21 (.invokevirtual 144) 3 24 := ⟨by decide +kernel, rfl⟩
theorem dk_65_24 : zz_d mm_65 24 (.aload_n 3) 1 25 := ⟨by decide +kernel, rfl⟩
theorem dk_65_25 : zz_d mm_65 25 .areturn 1 26 := ⟨by decide +kernel, rfl⟩
theorem dk_66_0 : zz_d mm_66 0 (.aload_n 0) 1 1 := ⟨by decide +kernel, rfl⟩
theorem dk_66_1 : zz_d mm_66 1 .dup 1 2 := ⟨by decide +kernel, rfl⟩
theorem dk_66_2 : zz_d mm_66 2 (.getfield 63) 3 5 := ⟨by decide +kernel, rfl⟩
theorem dk_66_5 : zz_d mm_66 5 (.iconst 1) 1 6 := ⟨by decide +kernel, rfl⟩
theorem dk_66_6 : zz_d mm_66 6 .iadd 1 7 := ⟨by decide +kernel, rfl⟩
theorem dk_66_7 : zz_d mm_66 7 (.putfield 63) 3 10 := ⟨by decide +kernel, rfl⟩
theorem dk_66_10 : zz_d mm_66 10 (.aload_n 0) 1 11 := ⟨by decide +kernel, rfl⟩
theorem dk_66_11 : zz_d mm_66 11 (.getfield 48) 3 14 := ⟨by decide +kernel, rfl⟩
theorem dk_66_14 : zz_d mm_66 14 (.iconst 1) 1 15 := ⟨by decide +kernel, rfl⟩
theorem dk_66_15 : zz_d mm_66 15 .isub 1 16 := ⟨by decide +kernel, rfl⟩
theorem dk_66_16 : zz_d mm_66 16 .dup 1 17 := ⟨by decide +kernel, rfl⟩
theorem dk_66_17 : zz_d mm_66 17 (.istore_n 3) 1 18 := ⟨by decide +kernel, rfl⟩
theorem dk_66_18 : zz_d mm_66 18 (.iload_n 2) 1 19 := ⟨by decide +kernel, rfl⟩
theorem dk_66_19 : zz_d mm_66 19 (.if_icmp .le 15) 3 22 := ⟨by decide +kernel, rfl⟩
theorem dk_66_22 : zz_d mm_66 22 (.aload_n 1) 1 23 := ⟨by decide +kernel, rfl⟩
theorem dk_66_23 : zz_d mm_66 23 (.iload_n 2) 1 24 := ⟨by decide +kernel, rfl⟩
theorem dk_66_24 : zz_d mm_66 24 (.iconst 1) 1 25 := ⟨by decide +kernel, rfl⟩
theorem dk_66_25 : zz_d mm_66 25 .iadd 1 26 := ⟨by decide +kernel, rfl⟩
theorem dk_66_26 : zz_d mm_66 26 (.aload_n 1) 1 27 := ⟨by decide +kernel, rfl⟩
theorem dk_66_27 : zz_d mm_66 27 (.iload_n 2) 1 28 := ⟨by decide +kernel, rfl⟩
theorem dk_66_28 : zz_d mm_66 28 (.iload_n 3) 1 29 := ⟨by decide +kernel, rfl⟩
theorem dk_66_29 : zz_d mm_66 29 (.iload_n 2) 1 30 := ⟨by decide +kernel, rfl⟩
theorem dk_66_30 : zz_d mm_66 30 .isub 1 31 := ⟨by decide +kernel, rfl⟩
theorem dk_66_31 : zz_d mm_66 31 (.invokestatic 112) 3 34 := ⟨by decide +kernel, rfl⟩
theorem dk_66_34 : zz_d mm_66 34 (.aload_n 1) 1 35 := ⟨by decide +kernel, rfl⟩
theorem dk_66_35 : zz_d mm_66 35 (.aload_n 0) 1 36 := ⟨by decide +kernel, rfl⟩
theorem dk_66_36 : zz_d mm_66 36 (.iload_n 3) 1 37 := ⟨by decide +kernel, rfl⟩
theorem dk_66_37 : zz_d mm_66 37 .dup_x1 1 38 := ⟨by decide +kernel, rfl⟩
theorem dk_66_38 : zz_d mm_66 38 (.putfield 48) 3 41 := ⟨by decide +kernel, rfl⟩
theorem dk_66_41 : zz_d mm_66 41 .aconst_null 1 42 := ⟨by decide +kernel, rfl⟩
theorem dk_66_42 : zz_d mm_66 42 .aastore 1 43 := ⟨by decide +kernel, rfl⟩
theorem dk_66_43 : zz_d mm_66 43 .return_ 1 44 := ⟨by decide +kernel, rfl⟩
theorem dk_67_0 : zz_d mm_67 0 (.aload_n 0) 1 1 := ⟨by decide +kernel, rfl⟩
theorem dk_67_1 : zz_d mm_67 1 (.iload_n 1) 1 2 := ⟨by decide +kernel, rfl⟩
theorem dk_67_2 : zz_d mm_67 2 (.invokevirtual 141) 3 5 := ⟨by decide +kernel, rfl⟩
theorem dk_67_5 : zz_d mm_67 5 (.ifCond .ne 5) 3 8 := ⟨by decide +kernel, rfl⟩
theorem dk_67_8 : zz_d mm_67 8 (.iconst (-1)) 1 9 := ⟨by decide +kernel, rfl⟩
theorem dk_67_9 : zz_d mm_67 9 .ireturn 1 10 := ⟨by decide +kernel, rfl⟩
theorem dk_67_10 : zz_d mm_67 10 (.aload_n 0) 1 11 := ⟨by decide +kernel, rfl⟩
theorem dk_67_11 : zz_d mm_67 11 (.getfield 51) 3 14 := ⟨by decide +kernel, rfl⟩
theorem dk_67_14 : zz_d mm_67 14 (.iload_n 1) 1 15 := ⟨by decide +kernel, rfl⟩
theorem dk_67_15 : zz_d mm_67 15 (.invokevirtual 129) 3 18 := ⟨by decide +kernel, rfl⟩
theorem dk_67_18 : zz_d mm_67 18 (.checkcast 104) 3 21 := ⟨by decide +kernel, rfl⟩
theorem dk_67_21 : zz_d mm_67 21 (.astore 5) 2 23 := ⟨by decide +kernel, rfl⟩
theorem dk_67_23 : zz_d mm_67 23 (.aload 5) 2 25 := ⟨by decide +kernel, rfl⟩
theorem dk_67_25 : zz_d mm_67 25 (.aload_n 0) 1 26 := ⟨by decide +kernel, rfl⟩
theorem dk_67_26 : zz_d mm_67 26 (.getfield 134) 3 29 := ⟨by decide +kernel, rfl⟩
theorem dk_67_29 : zz_d mm_67 29 (.invokevirtual 144) 3 32 := ⟨by decide +kernel, rfl⟩
theorem dk_67_32 : zz_d mm_67 32 (.ifCond .eq 6) 3 35 := ⟨by decide +kernel, rfl⟩
theorem dk_67_35 : zz_d mm_67 35 (.bipush (-2)) 2 37 := ⟨by decide +kernel, rfl⟩
theorem dk_67_37 : zz_d mm_67 37 .ireturn 1 38 := ⟨by decide +kernel, rfl⟩
theorem dk_67_38 : zz_d mm_67 38 (.aload 5) 2 40 := ⟨by decide +kernel, rfl⟩
theorem dk_67_40 : zz_d mm_67 40 (.iload_n 2) 1 41 := ⟨by decide +kernel, rfl⟩
theorem dk_67_41 : zz_d mm_67 41 (.invokevirtual 147) 3 44 := ⟨by decide +kernel, rfl⟩
theorem dk_67_44 : zz_d mm_67 44 (.ifCond .ne 28) 3 47 := ⟨by decide +kernel, rfl⟩
theorem dk_67_47 : zz_d mm_67 47 (.aload 5) 2 49 := ⟨by decide +kernel, rfl⟩
theorem dk_67_49 : zz_d mm_67 49 (.aload_n 0) 1 50 := ⟨by decide +kernel, rfl⟩
theorem dk_67_50 : zz_d mm_67 50 (.getfield 134) 3 53 := ⟨by decide +kernel, rfl⟩
theorem dk_67_53 : zz_d mm_67 53 (.invokevirtual 150) 3 56 := ⟨by decide +kernel, rfl⟩
theorem dk_67_56 : zz_d mm_67 56 (.ifCond .eq 13) 3 59 := ⟨by decide +kernel, rfl⟩
theorem dk_67_59 : zz_d mm_67 59 (.aload_n 0) 1 60 := ⟨by decide +kernel, rfl⟩
theorem dk_67_60 : zz_d mm_67 60 .dup 1 61 := ⟨by decide +kernel, rfl⟩
theorem dk_67_61 : zz_d mm_67 61 (.getfield 153) 3 64 := ⟨by decide +kernel, rfl⟩
theorem dk_67_64 : zz_d mm_67 64 (.iconst 1) 1 65 := ⟨by decide +kernel, rfl⟩
theorem dk_67_65 : zz_d mm_67 65 .iadd 1 66 := ⟨by decide +kernel, rfl⟩
theorem dk_67_66 : zz_d mm_67 66 (.putfield 153) 3 69 := ⟨by decide +kernel, rfl⟩
theorem dk_67_69 : zz_d mm_67 69 (.bipush (-3)) 2 71 := ⟨by decide +kernel, rfl⟩
theorem dk_67_71 : zz_d mm_67 71 .ireturn 1 72 := ⟨by decide +kernel, rfl⟩
theorem dk_67_72 : zz_d mm_67 72 (.aload 5) 2 74 := ⟨by decide +kernel, rfl⟩
theorem dk_67_74 : zz_d mm_67 74 (.invokevirtual 156) 3 77 := ⟨by decide +kernel, rfl⟩
theorem dk_67_77 : zz_d mm_67 77 (.aload 5) 2 79 := ⟨by decide +kernel, rfl⟩
theorem dk_67_79 : zz_d mm_67 79 (.invokevirtual 159) 3 82 := ⟨by decide +kernel, rfl⟩
theorem dk_67_82 : zz_d mm_67 82 (.ifCond .eq 13) 3 85 := ⟨by decide +kernel, rfl⟩
theorem dk_67_85 : zz_d mm_67 85 (.aload 5) 2 87 := ⟨by decide +kernel, rfl⟩
theorem dk_67_87 : zz_d mm_67 87 (.iload_n 2) 1 88 := ⟨by decide +kernel, rfl⟩
theorem dk_67_88 : zz_d mm_67 88 (.aload_n 0) 1 89 := ⟨by decide +kernel, rfl⟩
theorem dk_67_89 : zz_d mm_67 89 (.invokevirtual 106) 3 92 := ⟨by decide +kernel, rfl⟩
theorem dk_67_92 : zz_d mm_67 92 (.invokevirtual 163) 3 95 := ⟨by decide +kernel, rfl⟩
theorem dk_67_95 : zz_d mm_67 95 (.aload_n 0) 1 96 := ⟨by decide +kernel, rfl⟩
theorem dk_67_96 : zz_d mm_67 96 (.getfield 60) 3 99 := ⟨by decide +kernel, rfl⟩
theorem dk_67_99 : zz_d mm_67 99 (.iload_n 3) 1 100 := ⟨by decide +kernel, rfl⟩
theorem dk_67_100 : zz_d mm_67 100 (.invokevirtual 167) 3 103 := ⟨by decide +kernel, rfl⟩
theorem dk_67_103 : zz_d mm_67 103 (.aload_n 0) 1 104 := ⟨by decide +kernel, rfl⟩
theorem dk_67_104 : zz_d mm_67 104 (.aload_n 0) 1 105 := ⟨by decide +kernel, rfl⟩
theorem dk_67_105 : zz_d mm_67 105 (.getfield 60) 3 108 := ⟨by decide +kernel, rfl⟩
theorem dk_67_108 : zz_d mm_67 108 (.iload_n 1) 1 109 := ⟨by decide +kernel, rfl⟩
theorem dk_67_109 : zz_d mm_67 109 (.iconst 0) 1 110 := ⟨by decide +kernel, rfl⟩
theorem dk_67_110 : zz_d mm_67 110 (.invokevirtual 170) 3 113 := ⟨by decide +kernel, rfl⟩
theorem dk_67_113 : zz_d mm_67 113 (.istore 6) 2 115 := ⟨by decide +kernel, rfl⟩
theorem dk_67_115 : zz_d mm_67 115 (.iload 4) 2 117 := ⟨by decide +kernel, rfl⟩
theorem dk_67_117 : zz_d mm_67 117 (.ifCond .eq 14) 3 120 := ⟨by decide +kernel, rfl⟩
theorem dk_67_120 : zz_d mm_67 120 (.aload_n 0) 1 121 := ⟨by decide +kernel, rfl⟩
theorem dk_67_121 : zz_d mm_67 121 (.aload_n 0) 1 122 := ⟨by decide +kernel, rfl⟩
theorem dk_67_122 : zz_d mm_67 122 (.getfield 64) 3 125 := ⟨by decide +kernel, rfl⟩
theorem dk_67_125 : zz_d mm_67 125 (.iload_n 1) 1 126 := ⟨by decide +kernel, rfl⟩
theorem dk_67_126 : zz_d mm_67 126 (.iconst 0) 1 127 := ⟨by decide +kernel, rfl⟩
theorem dk_67_127 : zz_d mm_67 127 (.invokevirtual 170) 3 130 := ⟨by decide +kernel, rfl⟩
theorem dk_67_130 : zz_d mm_67 130 .pop 1 131 := ⟨by decide +kernel, rfl⟩
theorem dk_67_131 : zz_d mm_67 131 (.iload 6) 2 133 := ⟨by decide +kernel, rfl⟩
theorem dk_67_133 : zz_d mm_67 133 .ireturn 1 134 := ⟨by decide +kernel, rfl⟩
theorem dk_68_0 : zz_d mm_68 0 (.iload_n 1) 1 1 := ⟨by decide +kernel, rfl⟩
theorem dk_68_1 : zz_d mm_68 1 (.ifCond .lt 18) 3 4 := ⟨by decide +kernel, rfl⟩
theorem dk_68_4 : zz_d mm_68 4 (.iload_n 1) 1 5 := ⟨by decide +kernel, rfl⟩
theorem dk_68_5 : zz_d mm_68 5 (.aload_n 0) 1 6 := ⟨by decide +kernel, rfl⟩
theorem dk_68_6 : zz_d mm_68 6 (.getfield 51) 3 9 := ⟨by decide +kernel, rfl⟩
theorem dk_68_9 : zz_d mm_68 9 (.invokevirtual 82) 3 12 := ⟨by decide +kernel, rfl⟩
theorem dk_68_12 : zz_d mm_68 12 (.if_icmp .ge 7) 3 15 := ⟨by decide +kernel, rfl⟩
theorem dk_68_15 : zz_d mm_68 15 (.iconst 1) 1 16 := ⟨by decide +kernel, rfl⟩
theorem dk_68_16 : zz_d mm_68 16 (.goto 4) 3 19 := ⟨by decide +kernel, rfl⟩
theorem dk_68_19 : zz_d mm_68 19 (.iconst 0) 1 20 := ⟨by decide +kernel, rfl⟩
theorem dk_68_20 : zz_d mm_68 20 .ireturn 1 21 := ⟨by decide +kernel, rfl⟩
theorem dk_69_0 : zz_d mm_69 0 (.iload_n 1) 1 1 := ⟨by decide +kernel, rfl⟩
theorem dk_69_1 : zz_d mm_69 1 (.aload_n 0) 1 2 := ⟨by decide +kernel, rfl⟩
theorem dk_69_2 : zz_d mm_69 2 (.getfield 26) 3 5 := ⟨by decide +kernel, rfl⟩
theorem dk_69_5 : zz_d mm_69 5 (.if_icmp .ge 7) 3 8 := ⟨by decide +kernel, rfl⟩
theorem dk_69_8 : zz_d mm_69 8 (.iconst 1) 1 9 := ⟨by decide +kernel, rfl⟩
theorem dk_69_9 : zz_d mm_69 9 (.goto 4) 3 12 := ⟨by decide +kernel, rfl⟩
theorem dk_69_12 : zz_d mm_69 12 (.iconst 0) 1 13 := ⟨by decide +kernel, rfl⟩
theorem dk_69_13 : zz_d mm_69 13 .ireturn 1 14 := ⟨by decide +kernel, rfl⟩
theorem dk_70_0 : zz_d mm_70 0 (.iload_n 1) 1 1 := ⟨by decide +kernel, rfl⟩
theorem dk_70_1 : zz_d mm_70 1 (.aload_n 0) 1 2 := ⟨by decide +kernel, rfl⟩
theorem dk_70_2 : zz_d mm_70 2 (.getfield 13) 3 5 := ⟨by decide +kernel, rfl⟩
theorem dk_70_5 : zz_d mm_70 5 (.aload_n 0) 1 6 := ⟨by decide +kernel, rfl⟩
theorem dk_70_6 : zz_d mm_70 6 (.getfield 16) 3 9 := ⟨by decide +kernel, rfl⟩
theorem dk_70_9 : zz_d mm_70 9 (.invokestatic 19) 3 12 := ⟨by decide +kernel, rfl⟩
theorem dk_70_12 : zz_d mm_70 12 (.aload_n 0) 1 13 := ⟨by decide +kernel, rfl⟩
theorem dk_70_13 : zz_d mm_70 13 (.getfield 23) 3 16 := ⟨by decide +kernel, rfl⟩
theorem dk_70_16 : zz_d mm_70 16 (.if_icmp .ne 7) 3 19 := ⟨by decide +kernel, rfl⟩
theorem dk_70_19 : zz_d mm_70 19 (.iconst 1) 1 20 := ⟨by decide +kernel, rfl⟩
theorem dk_70_20 : zz_d mm_70 20 (.goto 4) 3 23 := ⟨by decide +kernel, rfl⟩
theorem dk_70_23 : zz_d mm_70 23 (.iconst 0) 1 24 := ⟨by decide +kernel, rfl⟩
theorem dk_70_24 : zz_d mm_70 24 .ireturn 1 25 := ⟨by decide +kernel, rfl⟩
theorem dk_71_0 : zz_d mm_71 0 (.aload_n 0) 1 1 := ⟨by decide +kernel, rfl⟩
theorem dk_71_1 : zz_d mm_71 1 .dup 1 2 := ⟨by decide +kernel, rfl⟩
theorem dk_71_2 : zz_d mm_71 2 (.getfield 29) 3 5 := ⟨by decide +kernel, rfl⟩
theorem dk_71_5 : zz_d mm_71 5 (.iconst 1) 1 6 := ⟨by decide +kernel, rfl⟩
theorem dk_71_6 : zz_d mm_71 6 .iadd 1 7 := ⟨by decide +kernel, rfl⟩
theorem dk_71_7 : zz_d mm_71 7 (.putfield 29) 3 10 := ⟨by decide +kernel, rfl⟩
theorem dk_71_10 : zz_d mm_71 10 (.aload_n 0) 1 11 := ⟨by decide +kernel, rfl⟩
theorem dk_71_11 : zz_d mm_71 11 (.getfield 29) 3 14 := ⟨by decide +kernel, rfl⟩
theorem dk_71_14 : zz_d mm_71 14 (.iconst 3) 1 15 := ⟨by decide +kernel, rfl⟩
theorem dk_71_15 : zz_d mm_71 15 (.if_icmp .ge 5) 3 18 := ⟨by decide +kernel, rfl⟩
theorem dk_71_18 : zz_d mm_71 18 (.iconst 0) 1 19 := ⟨by decide +kernel, rfl⟩
theorem dk_71_19 : zz_d mm_71 19 .ireturn 1 20 := ⟨by decide +kernel, rfl⟩
theorem dk_71_20 : zz_d mm_71 20 (.aload_n 0) 1 21 := ⟨by decide +kernel, rfl⟩
theorem dk_71_21 : zz_d mm_71 21 (.iload_n 1) 1 22 := ⟨by decide +kernel, rfl⟩
theorem dk_71_22 : zz_d mm_71 22 (.bipush 10) 2 24 := ⟨by decide +kernel, rfl⟩
theorem dk_71_24 : zz_d mm_71 24 .iadd 1 25 := ⟨by decide +kernel, rfl⟩
theorem dk_71_25 : zz_d mm_71 25 (.putfield 26) 3 28 := ⟨by decide +kernel, rfl⟩
theorem dk_71_28 : zz_d mm_71 28 (.aload_n 0) 1 29 := ⟨by decide +kernel, rfl⟩
theorem dk_71_29 : zz_d mm_71 29 (.invokevirtual 32) 3 32 := ⟨by decide +kernel, rfl⟩
theorem dk_71_32 : zz_d mm_71 32 (.iconst 1) 1 33 := ⟨by decide +kernel, rfl⟩
theorem dk_71_33 : zz_d mm_71 33 .ireturn 1 34 := ⟨by decide +kernel, rfl⟩
theorem dk_72_0 : zz_d mm_72 0 (.aload_n 0) 1 1 := ⟨by decide +kernel, rfl⟩
theorem dk_72_1 : zz_d mm_72 1 (.iconst 0) 1 2 := ⟨by decide +kernel, rfl⟩
theorem dk_72_2 : zz_d mm_72 2 (.putfield 29) 3 5 := ⟨by decide +kernel, rfl⟩
theorem dk_72_5 : zz_d mm_72 5 .return_ 1 6 := ⟨by decide +kernel, rfl⟩
theorem dk_73_0 : zz_d mm_73 0 (.aload_n 0) 1 1 := ⟨by decide +kernel, rfl⟩
theorem dk_73_1 : zz_d mm_73 1 (.getfield 13) 3 4 := ⟨by decide +kernel, rfl⟩
theorem dk_73_4 : zz_d mm_73 4 (.ifCond .ne 7) 3 7 := ⟨by decide +kernel, rfl⟩
theorem dk_73_7 : zz_d mm_73 7 (.iconst 1) 1 8 := ⟨by decide +kernel, rfl⟩
theorem dk_73_8 : zz_d mm_73 8 (.goto 4) 3 11 := ⟨by decide +kernel, rfl⟩
theorem dk_73_11 : zz_d mm_73 11 (.iconst 0) 1 12 := ⟨by decide +kernel, rfl⟩
theorem dk_73_12 : zz_d mm_73 12 .ireturn 1 13 := ⟨by decide +kernel, rfl⟩
theorem dk_74_0 : zz_d mm_74 0 (.aload_n 0) 1 1 := ⟨by decide +kernel, rfl⟩
theorem dk_74_1 : zz_d mm_74 1 (.iconst 1) 1 2 := ⟨by decide +kernel, rfl⟩
theorem dk_74_2 : zz_d mm_74 2 (.putfield 13) 3 5 := ⟨by decide +kernel, rfl⟩
theorem dk_74_5 : zz_d mm_74 5 (.aload_n 0) 1 6 := ⟨by decide +kernel, rfl⟩
theorem dk_74_6 : zz_d mm_74 6 (.iload_n 2) 1 7 := ⟨by decide +kernel, rfl⟩
theorem dk_74_7 : zz_d mm_74 7 (.putfield 16) 3 10 := ⟨by decide +kernel, rfl⟩
theorem dk_74_10 : zz_d mm_74 10 (.aload_n 0) 1 11 := ⟨by decide +kernel, rfl⟩
theorem dk_74_11 : zz_d mm_74 11 (.iload_n 1) 1 12 := ⟨by decide +kernel, rfl⟩
theorem dk_74_12 : zz_d mm_74 12 (.aload_n 0) 1 13 := ⟨by decide +kernel, rfl⟩
theorem dk_74_13 : zz_d mm_74 13 (.getfield 13) 3 16 := ⟨by decide +kernel, rfl⟩
theorem dk_74_16 : zz_d mm_74 16 (.aload_n 0) 1 17 := ⟨by decide +kernel, rfl⟩
theorem dk_74_17 : zz_d mm_74 17 (.getfield 16) 3 20 := ⟨by decide +kernel, rfl⟩
theorem dk_74_20 : zz_d mm_74 20 (.invokestatic 19) 3 23 := ⟨by decide +kernel, rfl⟩
theorem dk_74_23 : zz_d mm_74 23 (.putfield 23) 3 26 := ⟨by decide +kernel, rfl⟩
theorem dk_74_26 : zz_d mm_74 26 .return_ 1 27 := ⟨by decide +kernel, rfl⟩
theorem dk_75_0 : zz_d mm_75 0 (.aload_n 0) 1 1 := ⟨by decide +kernel, rfl⟩
theorem dk_75_1 : zz_d mm_75 1 (.getfield 10) 3 4 := ⟨by decide +kernel, rfl⟩
theorem dk_75_4 : zz_d mm_75 4 (.invokevirtual 16) 3 7 := ⟨by decide +kernel, rfl⟩
theorem dk_75_7 : zz_d mm_75 7 (.iconst 1) 1 8 := ⟨by decide +kernel, rfl⟩
theorem dk_75_8 : zz_d mm_75 8 .isub 1 9 := ⟨by decide +kernel, rfl⟩
theorem dk_75_9 : zz_d mm_75 9 (.istore_n 2) 1 10 := ⟨by decide +kernel, rfl⟩
theorem dk_75_10 : zz_d mm_75 10 (.iload_n 2) 1 11 := ⟨by decide +kernel, rfl⟩
theorem dk_75_11 : zz_d mm_75 11 (.ifCond .lt 36) 3 14 := ⟨by decide +kernel, rfl⟩
theorem dk_75_14 : zz_d mm_75 14 (.aload_n 0) 1 15 := ⟨by decide +kernel, rfl⟩
theorem dk_75_15 : zz_d mm_75 15 (.getfield 10) 3 18 := ⟨by decide +kernel, rfl⟩
theorem dk_75_18 : zz_d mm_75 18 (.iload_n 2) 1 19 := ⟨by decide +kernel, rfl⟩
theorem dk_75_19 : zz_d mm_75 19 (.invokevirtual 20) 3 22 := ⟨by decide +kernel, rfl⟩
theorem dk_75_22 : zz_d mm_75 22 (.checkcast 24) 3 25 := ⟨by decide +kernel, rfl⟩
theorem dk_75_25 : zz_d mm_75 25 (.getfield 26) 3 28 := ⟨by decide +kernel, rfl⟩
theorem dk_75_28 : zz_d mm_75 28 (.iload_n 1) 1 29 := ⟨by decide +kernel, rfl⟩
theorem dk_75_29 : zz_d mm_75 29 (.if_icmp .ne 12) 3 32 := ⟨by decide +kernel, rfl⟩
theorem dk_75_32 : zz_d mm_75 32 (.aload_n 0) 1 33 := ⟨by decide +kernel, rfl⟩
theorem dk_75_33 : zz_d mm_75 33 (.getfield 10) 3 36 := ⟨by decide +kernel, rfl⟩
theorem dk_75_36 : zz_d mm_75 36 (.iload_n 2) 1 37 := ⟨by decide +kernel, rfl⟩
theorem dk_75_37 : zz_d mm_75 37 (.invokevirtual 48) 3 40 := ⟨by decide +kernel, rfl⟩
theorem dk_75_40 : zz_d mm_75 40 .pop 1 41 := ⟨by decide +kernel, rfl⟩
theorem dk_75_41 : zz_d mm_75 41 (.iinc 2 (-1)) 3 44 := ⟨by decide +kernel, rfl⟩
theorem dk_75_44 : zz_d mm_75 44 (.goto (-34)) 3 47 := ⟨by decide +kernel, rfl⟩
theorem dk_75_47 : zz_d mm_75 47 .return_ 1 48 := ⟨by decide +kernel, rfl⟩
theorem dk_76_0 : zz_d mm_76 0 (.aload_n 0) 1 1 := ⟨by decide +kernel, rfl⟩
theorem dk_76_1 : zz_d mm_76 1 (.invokevirtual 106) 3 4 := ⟨by decide +kernel, rfl⟩
theorem dk_76_4 : zz_d mm_76 4 (.istore 4) 2 6 := ⟨by decide +kernel, rfl⟩
theorem dk_76_6 : zz_d mm_76 6 (.aload_n 0) 1 7 := ⟨by decide +kernel, rfl⟩
theorem dk_76_7 : zz_d mm_76 7 (.invokevirtual 106) 3 10 := ⟨by decide +kernel, rfl⟩
theorem dk_76_10 : zz_d mm_76 10 (.istore 5) 2 12 := ⟨by decide +kernel, rfl⟩
theorem dk_76_12 : zz_d mm_76 12 (.aload_n 1) 1 13 := ⟨by decide +kernel, rfl⟩
theorem dk_76_13 : zz_d mm_76 13 (.new 179) 3 16 := ⟨by decide +kernel, rfl⟩
theorem dk_76_16 : zz_d mm_76 16 .dup 1 17 := ⟨by decide +kernel, rfl⟩
theorem dk_76_17 : zz_d mm_76 17 (.iload_n 2) 1 18 := ⟨by decide +kernel, rfl⟩
theorem dk_76_18 : zz_d mm_76 18 (.iload 4) 2 20 := ⟨by decide +kernel, rfl⟩
theorem dk_76_20 : zz_d mm_76 20 (.iload 5) 2 22 := ⟨by decide +kernel, rfl⟩
theorem dk_76_22 : zz_d mm_76 22 (.iload_n 3) 1 23 := ⟨by decide +kernel, rfl⟩
theorem dk_76_23 : zz_d mm_76 23 (.aload_n 0) 1 24 := ⟨by decide +kernel, rfl⟩
theorem dk_76_24 : zz_d mm_76 24 (.getfield 134) 3 27 := ⟨by decide +kernel, rfl⟩
theorem dk_76_27 : zz_d mm_76 27 (.invokespecial 259) 3 30 := ⟨by decide +kernel, rfl⟩
theorem dk_76_30 : zz_d mm_76 30 (.invokevirtual 262) 3 33 := ⟨by decide +kernel, rfl⟩
theorem dk_76_33 : zz_d mm_76 33 (.iload 4) 2 35 := ⟨by decide +kernel, rfl⟩
theorem dk_76_35 : zz_d mm_76 35 .ireturn 1 36 := ⟨by decide +kernel, rfl⟩
theorem dk_77_0 : zz_d mm_77 0 (.aload_n 0) 1 1 := ⟨by decide +kernel, rfl⟩
theorem dk_77_1 : zz_d mm_77 1 (.invokespecial 1) 3 4 := ⟨by decide +kernel, rfl⟩
theorem dk_77_4 : zz_d mm_77 4 (.aload_n 0) 1 5 := ⟨by decide +kernel, rfl⟩
theorem dk_77_5 : zz_d mm_77 5 (.iload_n 1) 1 6 := ⟨by decide +kernel, rfl⟩
theorem dk_77_6 : zz_d mm_77 6 (.putfield 7) 3 9 := ⟨by decide +kernel, rfl⟩
theorem dk_77_9 : zz_d mm_77 9 (.aload_n 0) 1 10 := ⟨by decide +kernel, rfl⟩
theorem dk_77_10 : zz_d mm_77 10 (.iload_n 2) 1 11 := ⟨by decide +kernel, rfl⟩
theorem dk_77_11 : zz_d mm_77 11 (.putfield 13) 3 14 := ⟨by decide +kernel, rfl⟩
theorem dk_77_14 : zz_d mm_77 14 (.aload_n 0) 1 15 := ⟨by decide +kernel, rfl⟩
theorem dk_77_15 : zz_d mm_77 15 (.iload_n 3) 1 16 := ⟨by decide +kernel, rfl⟩
theorem dk_77_16 : zz_d mm_77 16 (.putfield 16) 3 19 := ⟨by decide +kernel, rfl⟩
theorem dk_77_19 : zz_d mm_77 19 (.aload_n 0) 1 20 := ⟨by decide +kernel, rfl⟩
theorem dk_77_20 : zz_d mm_77 20 (.iload 4) 2 22 := ⟨by decide +kernel, rfl⟩
theorem dk_77_22 : zz_d mm_77 22 (.putfield 19) 3 25 := ⟨by decide +kernel, rfl⟩
theorem dk_77_25 : zz_d mm_77 25 (.aload_n 0) 1 26 := ⟨by decide +kernel, rfl⟩
theorem dk_77_26 : zz_d mm_77 26 (.iload 5) 2 28 := ⟨by decide +kernel, rfl⟩
theorem dk_77_28 : zz_d mm_77 28 (.putfield 23) 3 31 := ⟨by decide +kernel, rfl⟩
theorem dk_77_31 : zz_d mm_77 31 (.aload_n 0) 1 32 := ⟨by decide +kernel, rfl⟩
theorem dk_77_32 : zz_d mm_77 32 (.iload 5) 2 34 := ⟨by decide +kernel, rfl⟩
theorem dk_77_34 : zz_d mm_77 34 (.putfield 26) 3 37 := ⟨by decide +kernel, rfl⟩
theorem dk_77_37 : zz_d mm_77 37 .return_ 1 38 := ⟨by decide +kernel, rfl⟩
theorem dk_78_0 : zz_d mm_78 0 (.aload_n 0) 1 1 := ⟨by decide +kernel, rfl⟩
theorem dk_78_1 : zz_d mm_78 1 (.aload_n 1) 1 2 := ⟨by decide +kernel, rfl⟩
theorem dk_78_2 : zz_d mm_78 2 (.getfield 30) 3 5 := ⟨by decide +kernel, rfl⟩
theorem dk_78_5 : zz_d mm_78 5 (.iconst 0) 1 6 := ⟨by decide +kernel, rfl⟩
theorem dk_78_6 : zz_d mm_78 6 (.invokevirtual 33) 3 9 := ⟨by decide +kernel, rfl⟩
theorem dk_78_9 : zz_d mm_78 9 (.astore_n 2) 1 10 := ⟨by decide +kernel, rfl⟩
theorem dk_78_10 : zz_d mm_78 10 (.aload_n 0) 1 11 := ⟨by decide +kernel, rfl⟩
end
section
theorem dk_78_11 : zz_d mm_78 11 (.aload_n 1) 1 12 := ⟨by decide +kernel, rfl⟩
theorem dk_78_12 : zz_d mm_78 12 (.getfield 30) 3 15 := ⟨by decide +kernel, rfl⟩
theorem dk_78_15 : zz_d mm_78 15 (.iconst 1) 1 16 := ⟨by decide +kernel, rfl⟩
theorem dk_78_16 : zz_d mm_78 16 (.invokevirtual 33) 3 19 := ⟨by decide +kernel, rfl⟩
theorem dk_78_19 : zz_d mm_78 19 (.astore_n 3) 1 20 := ⟨by decide +kernel, rfl⟩
theorem dk_78_20 : zz_d mm_78 20 (.aload_n 2) 1 21 := ⟨by decide +kernel, rfl⟩
theorem dk_78_21 : zz_d mm_78 21 (.ifnull 33) 3 24 := ⟨by decide +kernel, rfl⟩
theorem dk_78_24 : zz_d mm_78 24 (.aload_n 3) 1 25 := ⟨by decide +kernel, rfl⟩
theorem dk_78_25 : zz_d mm_78 25 (.ifnull 29) 3 28 := ⟨by decide +kernel, rfl⟩
theorem dk_78_28 : zz_d mm_78 28 (.aload_n 0) 1 29 := ⟨by decide +kernel, rfl⟩
theorem dk_78_29 : zz_d mm_78 29 (.aload_n 3) 1 30 := ⟨by decide +kernel, rfl⟩
theorem dk_78_30 : zz_d mm_78 30 (.getfield 37) 3 33 := ⟨by decide +kernel, rfl⟩
theorem dk_78_33 : zz_d mm_78 33 (.aload_n 2) 1 34 := ⟨by decide +kernel, rfl⟩
theorem dk_78_34 : zz_d mm_78 34 (.getfield 37) 3 37 := ⟨by decide +kernel, rfl⟩
theorem dk_78_37 : zz_d mm_78 37 (.if_icmp .ge 10) 3 40 := ⟨by decide +kernel, rfl⟩
theorem dk_78_40 : zz_d mm_78 40 (.aload_n 3) 1 41 := ⟨by decide +kernel, rfl⟩
theorem dk_78_41 : zz_d mm_78 41 (.getfield 26) 3 44 := ⟨by decide +kernel, rfl⟩
theorem dk_78_44 : zz_d mm_78 44 (.goto 7) 3 47 := ⟨by decide +kernel, rfl⟩
theorem dk_78_47 : zz_d mm_78 47 (.aload_n 2) 1 48 := ⟨by decide +kernel, rfl⟩
theorem dk_78_48 : zz_d mm_78 48 (.getfield 26) 3 51 := ⟨by decide +kernel, rfl⟩
theorem dk_78_51 : zz_d mm_78 51 (.invokevirtual 40) 3 54 := ⟨by decide +kernel, rfl⟩
theorem dk_78_54 : zz_d mm_78 54 (.aload_n 0) 1 55 := ⟨by decide +kernel, rfl⟩
theorem dk_78_55 : zz_d mm_78 55 (.getfield 10) 3 58 := ⟨by decide +kernel, rfl⟩
theorem dk_78_58 : zz_d mm_78 58 (.aload_n 1) 1 59 := ⟨by decide +kernel, rfl⟩
theorem dk_78_59 : zz_d mm_78 59 (.invokevirtual 44) 3 62 := ⟨by decide +kernel, rfl⟩
theorem dk_78_62 : zz_d mm_78 62 .pop 1 63 := ⟨by decide +kernel, rfl⟩
theorem dk_78_63 : zz_d mm_78 63 .return_ 1 64 := ⟨by decide +kernel, rfl⟩
theorem dk_79_0 : zz_d mm_79 0 (.iconst 0) 1 1 := ⟨by decide +kernel, rfl⟩
theorem dk_79_1 : zz_d mm_79 1 (.istore_n 3) 1 2 := ⟨by decide +kernel, rfl⟩
theorem dk_79_2 : zz_d mm_79 2 (.iconst 0) 1 3 := ⟨by decide +kernel, rfl⟩
theorem dk_79_3 : zz_d mm_79 3 (.istore 4) 2 5 := ⟨by decide +kernel, rfl⟩
theorem dk_79_5 : zz_d mm_79 5 (.iload 4) 2 7 := ⟨by decide +kernel, rfl⟩
theorem dk_79_7 : zz_d mm_79 7 (.aload_n 0) 1 8 := ⟨by decide +kernel, rfl⟩
theorem dk_79_8 : zz_d mm_79 8 (.getfield 10) 3 11 := ⟨by decide +kernel, rfl⟩
theorem dk_79_11 : zz_d mm_79 11 (.invokevirtual 16) 3 14 := ⟨by decide +kernel, rfl⟩
theorem dk_79_14 : zz_d mm_79 14 (.if_icmp .ge 43) 3 17 := ⟨by decide +kernel, rfl⟩
theorem dk_79_17 : zz_d mm_79 17 (.aload_n 0) 1 18 := ⟨by decide +kernel, rfl⟩
theorem dk_79_18 : zz_d mm_79 18 (.getfield 10) 3 21 := ⟨by decide +kernel, rfl⟩
theorem dk_79_21 : zz_d mm_79 21 (.iload 4) 2 23 := ⟨by decide +kernel, rfl⟩
theorem dk_79_23 : zz_d mm_79 23 (.invokevirtual 20) 3 26 := ⟨by decide +kernel, rfl⟩
theorem dk_79_26 : zz_d mm_79 26 (.checkcast 24) 3 29 := ⟨by decide +kernel, rfl⟩
theorem dk_79_29 : zz_d mm_79 29 (.astore 5) 2 31 := ⟨by decide +kernel, rfl⟩
theorem dk_79_31 : zz_d mm_79 31 (.aload 5) 2 33 := ⟨by decide +kernel, rfl⟩
theorem dk_79_33 : zz_d mm_79 33 (.getfield 30) 3 36 := ⟨by decide +kernel, rfl⟩
theorem dk_79_36 : zz_d mm_79 36 (.iload_n 1) 1 37 := ⟨by decide +kernel, rfl⟩
theorem dk_79_37 : zz_d mm_79 37 (.if_icmp .ne 14) 3 40 := ⟨by decide +kernel, rfl⟩
theorem dk_79_40 : zz_d mm_79 40 (.iload_n 3) 1 41 := ⟨by decide +kernel, rfl⟩
theorem dk_79_41 : zz_d mm_79 41 (.iload_n 2) 1 42 := ⟨by decide +kernel, rfl⟩
theorem dk_79_42 : zz_d mm_79 42 (.if_icmp .ne 6) 3 45 := ⟨by decide +kernel, rfl⟩
theorem dk_79_45 : zz_d mm_79 45 (.aload 5) 2 47 := ⟨by decide +kernel, rfl⟩
theorem dk_79_47 : zz_d mm_79 47 .areturn 1 48 := ⟨by decide +kernel, rfl⟩
theorem dk_79_48 : zz_d mm_79 48 (.iinc 3 1) 3 51 := ⟨by decide +kernel, rfl⟩
theorem dk_79_51 : zz_d mm_79 51 (.iinc 4 1) 3 54 := ⟨by decide +kernel, rfl⟩
theorem dk_79_54 : zz_d mm_79 54 (.goto (-49)) 3 57 := ⟨by decide +kernel, rfl⟩
theorem dk_79_57 : zz_d mm_79 57 .aconst_null 1 58 := ⟨by decide +kernel, rfl⟩
theorem dk_79_58 : zz_d mm_79 58 .areturn 1 59 := ⟨by decide +kernel, rfl⟩
theorem dk_80_0 : zz_d mm_80 0 (.aload_n 0) 1 1 := ⟨by decide +kernel, rfl⟩
theorem dk_80_1 : zz_d mm_80 1 (.getfield 60) 3 4 := ⟨by decide +kernel, rfl⟩
theorem dk_80_4 : zz_d mm_80 4 (.iload_n 1) 1 5 := ⟨by decide +kernel, rfl⟩
theorem dk_80_5 : zz_d mm_80 5 (.invokevirtual 174) 3 8 := ⟨by decide +kernel, rfl⟩
theorem dk_80_8 : zz_d mm_80 8 (.astore_n 2) 1 9 := ⟨by decide +kernel, rfl⟩
theorem dk_80_9 : zz_d mm_80 9 (.aload_n 2) 1 10 := ⟨by decide +kernel, rfl⟩
theorem dk_80_10 : zz_d mm_80 10 (.ifnonnull 5) 3 13 := ⟨by decide +kernel, rfl⟩
theorem dk_80_13 : zz_d mm_80 13 (.iconst 0) 1 14 := ⟨by decide +kernel, rfl⟩
theorem dk_80_14 : zz_d mm_80 14 .ireturn 1 15 := ⟨by decide +kernel, rfl⟩
theorem dk_80_15 : zz_d mm_80 15 (.aload_n 0) 1 16 := ⟨by decide +kernel, rfl⟩
theorem dk_80_16 : zz_d mm_80 16 (.getfield 60) 3 19 := ⟨by decide +kernel, rfl⟩
theorem dk_80_19 : zz_d mm_80 19 (.iload_n 1) 1 20 := ⟨by decide +kernel, rfl⟩
theorem dk_80_20 : zz_d mm_80 20 (.invokevirtual 167) 3 23 := ⟨by decide +kernel, rfl⟩
theorem dk_80_23 : zz_d mm_80 23 (.aload_n 0) 1 24 := ⟨by decide +kernel, rfl⟩
theorem dk_80_24 : zz_d mm_80 24 (.getfield 64) 3 27 := ⟨by decide +kernel, rfl⟩
theorem dk_80_27 : zz_d mm_80 27 (.aload_n 2) 1 28 := ⟨by decide +kernel, rfl⟩
theorem dk_80_28 : zz_d mm_80 28 (.getfield 178) 3 31 := ⟨by decide +kernel, rfl⟩
theorem dk_80_31 : zz_d mm_80 31 (.invokevirtual 183) 3 34 := ⟨by decide +kernel, rfl⟩
theorem dk_80_34 : zz_d mm_80 34 (.iconst 1) 1 35 := ⟨by decide +kernel, rfl⟩
theorem dk_80_35 : zz_d mm_80 35 .ireturn 1 36 := ⟨by decide +kernel, rfl⟩
theorem dk_81_0 : zz_d mm_81 0 (.iconst 0) 1 1 := ⟨by decide +kernel, rfl⟩
theorem dk_81_1 : zz_d mm_81 1 (.istore_n 2) 1 2 := ⟨by decide +kernel, rfl⟩
theorem dk_81_2 : zz_d mm_81 2 (.iload_n 2) 1 3 := ⟨by decide +kernel, rfl⟩
theorem dk_81_3 : zz_d mm_81 3 (.aload_n 0) 1 4 := ⟨by decide +kernel, rfl⟩
theorem dk_81_4 : zz_d mm_81 4 (.getfield 10) 3 7 := ⟨by decide +kernel, rfl⟩
theorem dk_81_7 : zz_d mm_81 7 (.invokevirtual 16) 3 10 := ⟨by decide +kernel, rfl⟩
theorem dk_81_10 : zz_d mm_81 10 (.if_icmp .ge 31) 3 13 := ⟨by decide +kernel, rfl⟩
theorem dk_81_13 : zz_d mm_81 13 (.aload_n 0) 1 14 := ⟨by decide +kernel, rfl⟩
theorem dk_81_14 : zz_d mm_81 14 (.getfield 10) 3 17 := ⟨by decide +kernel, rfl⟩
theorem dk_81_17 : zz_d mm_81 17 (.iload_n 2) 1 18 := ⟨by decide +kernel, rfl⟩
theorem dk_81_18 : zz_d mm_81 18 (.invokevirtual 20) 3 21 := ⟨by decide +kernel, rfl⟩
theorem dk_81_21 : zz_d mm_81 21 (.checkcast 24) 3 24 := ⟨by decide +kernel, rfl⟩
theorem dk_81_24 : zz_d mm_81 24 (.astore_n 3) 1 25 := ⟨by decide +kernel, rfl⟩
theorem dk_81_25 : zz_d mm_81 25 (.aload_n 3) 1 26 := ⟨by decide +kernel, rfl⟩
theorem dk_81_26 : zz_d mm_81 26 (.getfield 26) 3 29 := ⟨by decide +kernel, rfl⟩
theorem dk_81_29 : zz_d mm_81 29 (.iload_n 1) 1 30 := ⟨by decide +kernel, rfl⟩
theorem dk_81_30 : zz_d mm_81 30 (.if_icmp .ne 5) 3 33 := ⟨by decide +kernel, rfl⟩
theorem dk_81_33 : zz_d mm_81 33 (.aload_n 3) 1 34 := ⟨by decide +kernel, rfl⟩
theorem dk_81_34 : zz_d mm_81 34 .areturn 1 35 := ⟨by decide +kernel, rfl⟩
theorem dk_81_35 : zz_d mm_81 35 (.iinc 2 1) 3 38 := ⟨by decide +kernel, rfl⟩
theorem dk_81_38 : zz_d mm_81 38 (.goto (-36)) 3 41 := ⟨by decide +kernel, rfl⟩
theorem dk_81_41 : zz_d mm_81 41 .aconst_null 1 42 := ⟨by decide +kernel, rfl⟩
theorem dk_81_42 : zz_d mm_81 42 .areturn 1 43 := ⟨by decide +kernel, rfl⟩
theorem dk_82_0 : zz_d mm_82 0 (.aload_n 0) 1 1 := ⟨by decide +kernel, rfl⟩
theorem dk_82_1 : zz_d mm_82 1 (.getfield 10) 3 4 := ⟨by decide +kernel, rfl⟩
theorem dk_82_4 : zz_d mm_82 4 (.invokevirtual 16) 3 7 := ⟨by decide +kernel, rfl⟩
theorem dk_82_7 : zz_d mm_82 7 (.iconst 1) 1 8 := ⟨by decide +kernel, rfl⟩
theorem dk_82_8 : zz_d mm_82 8 .isub 1 9 := ⟨by decide +kernel, rfl⟩
theorem dk_82_9 : zz_d mm_82 9 (.istore_n 2) 1 10 := ⟨by decide +kernel, rfl⟩
theorem dk_82_10 : zz_d mm_82 10 (.iload_n 2) 1 11 := ⟨by decide +kernel, rfl⟩
theorem dk_82_11 : zz_d mm_82 11 (.ifCond .lt 36) 3 14 := ⟨by decide +kernel, rfl⟩
theorem dk_82_14 : zz_d mm_82 14 (.aload_n 0) 1 15 := ⟨by decide +kernel, rfl⟩
theorem dk_82_15 : zz_d mm_82 15 (.getfield 10) 3 18 := ⟨by decide +kernel, rfl⟩
theorem dk_82_18 : zz_d mm_82 18 (.iload_n 2) 1 19 := ⟨by decide +kernel, rfl⟩
theorem dk_82_19 : zz_d mm_82 19 (.invokevirtual 20) 3 22 := ⟨by decide +kernel, rfl⟩
theorem dk_82_22 : zz_d mm_82 22 (.checkcast 24) 3 25 := ⟨by decide +kernel, rfl⟩
theorem dk_82_25 : zz_d mm_82 25 (.getfield 30) 3 28 := ⟨by decide +kernel, rfl⟩
theorem dk_82_28 : zz_d mm_82 28 (.iload_n 1) 1 29 := ⟨by decide +kernel, rfl⟩
theorem dk_82_29 : zz_d mm_82 29 (.if_icmp .ne 12) 3 32 := ⟨by decide +kernel, rfl⟩
theorem dk_82_32 : zz_d mm_82 32 (.aload_n 0) 1 33 := ⟨by decide +kernel, rfl⟩
theorem dk_82_33 : zz_d mm_82 33 (.getfield 10) 3 36 := ⟨by decide +kernel, rfl⟩
theorem dk_82_36 : zz_d mm_82 36 (.iload_n 2) 1 37 := ⟨by decide +kernel, rfl⟩
theorem dk_82_37 : zz_d mm_82 37 (.invokevirtual 48) 3 40 := ⟨by decide +kernel, rfl⟩
theorem dk_82_40 : zz_d mm_82 40 .pop 1 41 := ⟨by decide +kernel, rfl⟩
theorem dk_82_41 : zz_d mm_82 41 (.iinc 2 (-1)) 3 44 := ⟨by decide +kernel, rfl⟩
theorem dk_82_44 : zz_d mm_82 44 (.goto (-34)) 3 47 := ⟨by decide +kernel, rfl⟩
theorem dk_82_47 : zz_d mm_82 47 .return_ 1 48 := ⟨by decide +kernel, rfl⟩
theorem dk_83_0 : zz_d mm_83 0 (.iload_n 1) 1 1 := ⟨by decide +kernel, rfl⟩
theorem dk_83_1 : zz_d mm_83 1 (.ifCond .lt 15) 3 4 := ⟨by decide +kernel, rfl⟩
theorem dk_83_4 : zz_d mm_83 4 (.iload_n 1) 1 5 := ⟨by decide +kernel, rfl⟩
theorem dk_83_5 : zz_d mm_83 5 (.iconst 4) 1 6 := ⟨by decide +kernel, rfl⟩
theorem dk_83_6 : zz_d mm_83 6 (.if_icmp .ge 10) 3 9 := ⟨by decide +kernel, rfl⟩
theorem dk_83_9 : zz_d mm_83 9 (.aload_n 0) 1 10 := ⟨by decide +kernel, rfl⟩
theorem dk_83_10 : zz_d mm_83 10 (.getfield 186) 3 13 := ⟨by decide +kernel, rfl⟩
theorem dk_83_13 : zz_d mm_83 13 (.ifCond .eq 5) 3 16 := ⟨by decide +kernel, rfl⟩
theorem dk_83_16 : zz_d mm_83 16 (.iconst (-1)) 1 17 := ⟨by decide +kernel, rfl⟩
theorem dk_83_17 : zz_d mm_83 17 .ireturn 1 18 := ⟨by decide +kernel, rfl⟩
theorem dk_83_18 : zz_d mm_83 18 (.aload_n 0) 1 19 := ⟨by decide +kernel, rfl⟩
theorem dk_83_19 : zz_d mm_83 19 (.getfield 19) 3 22 := ⟨by decide +kernel, rfl⟩
theorem dk_83_22 : zz_d mm_83 22 (.aload_n 0) 1 23 := ⟨by decide +kernel, rfl⟩
theorem dk_83_23 : zz_d mm_83 23 (.getfield 12) 3 26 := ⟨by decide +kernel, rfl⟩
theorem dk_83_26 : zz_d mm_83 26 (.invokevirtual 190) 3 29 := ⟨by decide +kernel, rfl⟩
theorem dk_83_29 : zz_d mm_83 29 (.istore 6) 2 31 := ⟨by decide +kernel, rfl⟩
theorem dk_83_31 : zz_d mm_83 31 (.aload_n 0) 1 32 := ⟨by decide +kernel, rfl⟩
theorem dk_83_32 : zz_d mm_83 32 (.getfield 12) 3 35 := ⟨by decide +kernel, rfl⟩
theorem dk_83_35 : zz_d mm_83 35 (.invokevirtual 75) 3 38 := ⟨by decide +kernel, rfl⟩
theorem dk_83_38 : zz_d mm_83 38 (.iload 6) 2 40 := ⟨by decide +kernel, rfl⟩
theorem dk_83_40 : zz_d mm_83 40 (.ifCond .ne 7) 3 43 := ⟨by decide +kernel, rfl⟩
theorem dk_83_43 : zz_d mm_83 43 (.sipush 400) 3 46 := ⟨by decide +kernel, rfl⟩
theorem dk_83_46 : zz_d mm_83 46 .ireturn 1 47 := ⟨by decide +kernel, rfl⟩
theorem dk_83_47 : zz_d mm_83 47 (.aload_n 0) 1 48 := ⟨by decide +kernel, rfl⟩
theorem dk_83_48 : zz_d mm_83 48 (.getfield 60) 3 51 := ⟨by decide +kernel, rfl⟩
theorem dk_83_51 : zz_d mm_83 51 (.iload_n 2) 1 52 := ⟨by decide +kernel, rfl⟩
theorem dk_83_52 : zz_d mm_83 52 (.invokevirtual 174) 3 55 := ⟨by decide +kernel, rfl⟩
theorem dk_83_55 : zz_d mm_83 55 (.astore 7) 2 57 := ⟨by decide +kernel, rfl⟩
theorem dk_83_57 : zz_d mm_83 57 (.aload 7) 2 59 := ⟨by decide +kernel, rfl⟩
theorem dk_83_59 : zz_d mm_83 59 (.ifnull 12) 3 62 := ⟨by decide +kernel, rfl⟩
theorem dk_83_62 : zz_d mm_83 62 (.aload_n 0) 1 63 := ⟨by decide +kernel, rfl⟩
theorem dk_83_63 : zz_d mm_83 63 (.aload 7) 2 65 := ⟨by decide +kernel, rfl⟩
theorem dk_83_65 : zz_d mm_83 65 (.invokevirtual 193) 3 68 := ⟨by decide +kernel, rfl⟩
theorem dk_83_68 : zz_d mm_83 68 (.goto 11) 3 71 := ⟨by decide +kernel, rfl⟩
theorem dk_83_71 : zz_d mm_83 71 (.aload_n 0) 1 72 := ⟨by decide +kernel, rfl⟩
theorem dk_83_72 : zz_d mm_83 72 (.iload 4) 2 74 := ⟨by decide +kernel, rfl⟩
theorem dk_83_74 : zz_d mm_83 74 (.iload 5) 2 76 := ⟨by decide +kernel, rfl⟩
theorem dk_83_76 : zz_d mm_83 76 (.invokevirtual 197) 3 79 := ⟨by decide +kernel, rfl⟩
theorem dk_83_79 : zz_d mm_83 79 (.istore 8) 2 81 := ⟨by decide +kernel, rfl⟩
theorem dk_83_81 : zz_d mm_83 81 (.aload 7) 2 83 := ⟨by decide +kernel, rfl⟩
theorem dk_83_83 : zz_d mm_83 83 (.ifnull 16) 3 86 := ⟨by decide +kernel, rfl⟩
theorem dk_83_86 : zz_d mm_83 86 (.aload 7) 2 88 := ⟨by decide +kernel, rfl⟩
theorem dk_83_88 : zz_d mm_83 88 (.getfield 201) 3 91 := ⟨by decide +kernel, rfl⟩
theorem dk_83_91 : zz_d mm_83 91 (.iload_n 3) 1 92 := ⟨by decide +kernel, rfl⟩
theorem dk_83_92 : zz_d mm_83 92 (.if_icmp .ne 7) 3 95 := ⟨by decide +kernel, rfl⟩
theorem dk_83_95 : zz_d mm_83 95 (.iconst 1) 1 96 := ⟨by decide +kernel, rfl⟩
theorem dk_83_96 : zz_d mm_83 96 (.goto 4) 3 99 := ⟨by decide +kernel, rfl⟩
theorem dk_83_99 : zz_d mm_83 99 (.iconst 0) 1 100 := ⟨by decide +kernel, rfl⟩
theorem dk_83_100 : zz_d mm_83 100 (.istore 9) 2 102 := ⟨by decide +kernel, rfl⟩
theorem dk_83_102 : zz_d mm_83 102 (.iload_n 1) 1 103 := ⟨by decide +kernel, rfl⟩
theorem dk_83_103 : zz_d mm_83 103 (.iconst 2) 1 104 := ⟨by decide +kernel, rfl⟩
theorem dk_83_104 : zz_d mm_83 104 (.if_icmp .lt 12) 3 107 := ⟨by decide +kernel, rfl⟩
theorem dk_83_107 : zz_d mm_83 107 (.iload 9) 2 109 := ⟨by decide +kernel, rfl⟩
theorem dk_83_109 : zz_d mm_83 109 (.ifCond .ne 7) 3 112 := ⟨by decide +kernel, rfl⟩
theorem dk_83_112 : zz_d mm_83 112 (.sipush 419) 3 115 := ⟨by decide +kernel, rfl⟩
theorem dk_83_115 : zz_d mm_83 115 .ireturn 1 116 := ⟨by decide +kernel, rfl⟩
theorem dk_83_116 : zz_d mm_83 116 (.aload_n 0) 1 117 := ⟨by decide +kernel, rfl⟩
theorem dk_83_117 : zz_d mm_83 117 (.iload_n 1) 1 118 := ⟨by decide +kernel, rfl⟩
theorem dk_83_118 : zz_d mm_83 118 (.iload 8) 2 120 := ⟨by decide +kernel, rfl⟩
theorem dk_83_120 : zz_d mm_83 120 (.invokevirtual 204) 3 123 := ⟨by decide +kernel, rfl⟩
theorem dk_83_123 : zz_d mm_83 123 .ireturn 1 124 := ⟨by decide +kernel, rfl⟩
theorem dk_84_0 : zz_d mm_84 0 (.aload_n 0) 1 1 := ⟨by decide +kernel, rfl⟩
theorem dk_84_1 : zz_d mm_84 1 (.getfield 12) 3 4 := ⟨by decide +kernel, rfl⟩
theorem dk_84_4 : zz_d mm_84 4 (.invokevirtual 18) 3 7 := ⟨by decide +kernel, rfl⟩
theorem dk_84_7 : zz_d mm_84 7 (.aload_n 1) 1 8 := ⟨by decide +kernel, rfl⟩
theorem dk_84_8 : zz_d mm_84 8 (.iconst 0) 1 9 := ⟨by decide +kernel, rfl⟩
theorem dk_84_9 : zz_d mm_84 9 (.invokevirtual 21) 3 12 := ⟨by decide +kernel, rfl⟩
theorem dk_84_12 : zz_d mm_84 12 (.bipush 47) 2 14 := ⟨by decide +kernel, rfl⟩
theorem dk_84_14 : zz_d mm_84 14 (.if_icmp .ne 12) 3 17 := ⟨by decide +kernel, rfl⟩
theorem dk_84_17 : zz_d mm_84 17 (.aload_n 1) 1 18 := ⟨by decide +kernel, rfl⟩
theorem dk_84_18 : zz_d mm_84 18 (.bipush 92) 2 20 := ⟨by decide +kernel, rfl⟩
theorem dk_84_20 : zz_d mm_84 20 (.invokevirtual 27) 3 23 := ⟨by decide +kernel, rfl⟩
theorem dk_84_23 : zz_d mm_84 23 (.ifCond .eq 5) 3 26 := ⟨by decide +kernel, rfl⟩
theorem dk_84_26 : zz_d mm_84 26 (.iconst 0) 1 27 := ⟨by decide +kernel, rfl⟩
theorem dk_84_27 : zz_d mm_84 27 .ireturn 1 28 := ⟨by decide +kernel, rfl⟩
theorem dk_84_28 : zz_d mm_84 28 (.iconst 1) 1 29 := ⟨by decide +kernel, rfl⟩
theorem dk_84_29 : zz_d mm_84 29 (.istore_n 2) 1 30 := ⟨by decide +kernel, rfl⟩
theorem dk_84_30 : zz_d mm_84 30 (.iconst 1) 1 31 := ⟨by decide +kernel, rfl⟩
theorem dk_84_31 : zz_d mm_84 31 (.istore_n 3) 1 32 := ⟨by decide +kernel, rfl⟩
theorem dk_84_32 : zz_d mm_84 32 (.iload_n 3) 1 33 := ⟨by decide +kernel, rfl⟩
theorem dk_84_33 : zz_d mm_84 33 (.aload_n 1) 1 34 := ⟨by decide +kernel, rfl⟩
theorem dk_84_34 : zz_d mm_84 34 (.getfield 31) 3 37 := ⟨by decide +kernel, rfl⟩
theorem dk_84_37 : zz_d mm_84 37 (.if_icmp .gt 64) 3 40 := ⟨by decide +kernel, rfl⟩
theorem dk_84_40 : zz_d mm_84 40 (.aload_n 1) 1 41 := ⟨by decide +kernel, rfl⟩
theorem dk_84_41 : zz_d mm_84 41 (.iload_n 3) 1 42 := ⟨by decide +kernel, rfl⟩
theorem dk_84_42 : zz_d mm_84 42 (.invokevirtual 35) 3 45 := ⟨by decide +kernel, rfl⟩
theorem dk_84_45 : zz_d mm_84 45 (.ifCond .eq 50) 3 48 := ⟨by decide +kernel, rfl⟩
theorem dk_84_48 : zz_d mm_84 48 (.iload_n 3) 1 49 := ⟨by decide +kernel, rfl⟩
theorem dk_84_49 : zz_d mm_84 49 (.aload_n 1) 1 50 := ⟨by decide +kernel, rfl⟩
theorem dk_84_50 : zz_d mm_84 50 (.getfield 31) 3 53 := ⟨by decide +kernel, rfl⟩
theorem dk_84_53 : zz_d mm_84 53 (.if_icmp .ne 7) 3 56 := ⟨by decide +kernel, rfl⟩
theorem dk_84_56 : zz_d mm_84 56 (.iconst 1) 1 57 := ⟨by decide +kernel, rfl⟩
theorem dk_84_57 : zz_d mm_84 57 (.goto 4) 3 60 := ⟨by decide +kernel, rfl⟩
theorem dk_84_60 : zz_d mm_84 60 (.iconst 0) 1 61 := ⟨by decide +kernel, rfl⟩
theorem dk_84_61 : zz_d mm_84 61 (.istore 4) 2 63 := ⟨by decide +kernel, rfl⟩
theorem dk_84_63 : zz_d mm_84 63 (.aload_n 0) 1 64 := ⟨by decide +kernel, rfl⟩
theorem dk_84_64 : zz_d mm_84 64 (.aload_n 1) 1 65 := ⟨by decide +kernel, rfl⟩
theorem dk_84_65 : zz_d mm_84 65 (.iload_n 2) 1 66 := ⟨by decide +kernel, rfl⟩
theorem dk_84_66 : zz_d mm_84 66 (.aload_n 1) 1 67 := ⟨by decide +kernel, rfl⟩
theorem dk_84_67 : zz_d mm_84 67 (.bipush 59) 2 69 := ⟨by decide +kernel, rfl⟩
theorem dk_84_69 : zz_d mm_84 69 (.iload_n 2) 1 70 := ⟨by decide +kernel, rfl⟩
theorem dk_84_70 : zz_d mm_84 70 (.iload_n 3) 1 71 := ⟨by decide +kernel, rfl⟩
theorem dk_84_71 : zz_d mm_84 71 (.invokevirtual 39) 3 74 := ⟨by decide +kernel, rfl⟩
theorem dk_84_74 : zz_d mm_84 74 (.invokevirtual 43) 3 77 := ⟨by decide +kernel, rfl⟩
theorem dk_84_77 : zz_d mm_84 77 (.ifCond .eq 12) 3 80 := ⟨by decide +kernel, rfl⟩
theorem dk_84_80 : zz_d mm_84 80 (.aload_n 0) 1 81 := ⟨by decide +kernel, rfl⟩
theorem dk_84_81 : zz_d mm_84 81 (.iload 4) 2 83 := ⟨by decide +kernel, rfl⟩
theorem dk_84_83 : zz_d mm_84 83 (.invokevirtual 47) 3 86 := ⟨by decide +kernel, rfl⟩
theorem dk_84_86 : zz_d mm_84 86 (.ifCond .ne 5) 3 89 := ⟨by decide +kernel, rfl⟩
theorem dk_84_89 : zz_d mm_84 89 (.iconst 0) 1 90 := ⟨by decide +kernel, rfl⟩
theorem dk_84_90 : zz_d mm_84 90 .ireturn 1 91 := ⟨by decide +kernel, rfl⟩
theorem dk_84_91 : zz_d mm_84 91 (.iload_n 3) 1 92 := ⟨by decide +kernel, rfl⟩
theorem dk_84_92 : zz_d mm_84 92 (.iconst 1) 1 93 := ⟨by decide +kernel, rfl⟩
theorem dk_84_93 : zz_d mm_84 93 .iadd 1 94 := ⟨by decide +kernel, rfl⟩
theorem dk_84_94 : zz_d mm_84 94 (.istore_n 2) 1 95 := ⟨by decide +kernel, rfl⟩
theorem dk_84_95 : zz_d mm_84 95 (.iinc 3 1) 3 98 := ⟨by decide +kernel, rfl⟩
theorem dk_84_98 : zz_d mm_84 98 (.goto (-66)) 3 101 := ⟨by decide +kernel, rfl⟩
theorem dk_84_101 : zz_d mm_84 101 (.iconst 1) 1 102 := ⟨by decide +kernel, rfl⟩
theorem dk_84_102 : zz_d mm_84 102 .ireturn 1 103 := ⟨by decide +kernel, rfl⟩
theorem dk_85_0 : zz_d mm_85 0 (.aload_n 0) 1 1 := ⟨by decide +kernel, rfl⟩
theorem dk_85_1 : zz_d mm_85 1 (.iconst 0) 1 2 := ⟨by decide +kernel, rfl⟩
theorem dk_85_2 : zz_d mm_85 2 (.putfield 22) 3 5 := ⟨by decide +kernel, rfl⟩
theorem dk_85_5 : zz_d mm_85 5 (.aload_n 0) 1 6 := ⟨by decide +kernel, rfl⟩
theorem dk_85_6 : zz_d mm_85 6 (.iconst 0) 1 7 := ⟨by decide +kernel, rfl⟩
theorem dk_85_7 : zz_d mm_85 7 (.putfield 26) 3 10 := ⟨by decide +kernel, rfl⟩
theorem dk_85_10 : zz_d mm_85 10 (.aload_n 0) 1 11 := ⟨by decide +kernel, rfl⟩
theorem dk_85_11 : zz_d mm_85 11 (.iconst 0) 1 12 := ⟨by decide +kernel, rfl⟩
theorem dk_85_12 : zz_d mm_85 12 (.putfield 29) 3 15 := ⟨by decide +kernel, rfl⟩
theorem dk_85_15 : zz_d mm_85 15 .return_ 1 16 := ⟨by decide +kernel, rfl⟩
theorem dk_86_0 : zz_d mm_86 0 (.iload_n 2) 1 1 := ⟨by decide +kernel, rfl⟩
theorem dk_86_1 : zz_d mm_86 1 (.istore 4) 2 3 := ⟨by decide +kernel, rfl⟩
theorem dk_86_3 : zz_d mm_86 3 (.iload 4) 2 5 := ⟨by decide +kernel, rfl⟩
theorem dk_86_5 : zz_d mm_86 5 (.iload_n 3) 1 6 := ⟨by decide +kernel, rfl⟩
theorem dk_86_6 : zz_d mm_86 6 (.if_icmp .ge 77) 3 9 := ⟨by decide +kernel, rfl⟩
theorem dk_86_9 : zz_d mm_86 9 (.aload_n 1) 1 10 := ⟨by decide +kernel, rfl⟩
theorem dk_86_10 : zz_d mm_86 10 (.iload 4) 2 12 := ⟨by decide +kernel, rfl⟩
theorem dk_86_12 : zz_d mm_86 12 (.invokevirtual 21) 3 15 := ⟨by decide +kernel, rfl⟩
theorem dk_86_15 : zz_d mm_86 15 (.istore 5) 2 17 := ⟨by decide +kernel, rfl⟩
theorem dk_86_17 : zz_d mm_86 17 (.iload 5) 2 19 := ⟨by decide +kernel, rfl⟩
theorem dk_86_19 : zz_d mm_86 19 (.bipush 37) 2 21 := ⟨by decide +kernel, rfl⟩
theorem dk_86_21 : zz_d mm_86 21 (.if_icmp .ne 39) 3 24 := ⟨by decide +kernel, rfl⟩
theorem dk_86_24 : zz_d mm_86 24 (.iload 4) 2 26 := ⟨by decide +kernel, rfl⟩
theorem dk_86_26 : zz_d mm_86 26 (.iconst 2) 1 27 := ⟨by decide +kernel, rfl⟩
theorem dk_86_27 : zz_d mm_86 27 .iadd 1 28 := ⟨by decide +kernel, rfl⟩
theorem dk_86_28 : zz_d mm_86 28 (.iload_n 3) 1 29 := ⟨by decide +kernel, rfl⟩
theorem dk_86_29 : zz_d mm_86 29 (.if_icmp .ge 25) 3 32 := ⟨by decide +kernel, rfl⟩
theorem dk_86_32 : zz_d mm_86 32 (.aload_n 1) 1 33 := ⟨by decide +kernel, rfl⟩
theorem dk_86_33 : zz_d mm_86 33 (.iload 4) 2 35 := ⟨by decide +kernel, rfl⟩
theorem dk_86_35 : zz_d mm_86 35 (.iconst 1) 1 36 := ⟨by decide +kernel, rfl⟩
theorem dk_86_36 : zz_d mm_86 36 .iadd 1 37 := ⟨by decide +kernel, rfl⟩
theorem dk_86_37 : zz_d mm_86 37 (.invokevirtual 21) 3 40 := ⟨by decide +kernel, rfl⟩
theorem dk_86_40 : zz_d mm_86 40 (.aload_n 1) 1 41 := ⟨by decide +kernel, rfl⟩
theorem dk_86_41 : zz_d mm_86 41 (.iload 4) 2 43 := ⟨by decide +kernel, rfl⟩
theorem dk_86_43 : zz_d mm_86 43 (.iconst 2) 1 44 := ⟨by decide +kernel, rfl⟩
theorem dk_86_44 : zz_d mm_86 44 .iadd 1 45 := ⟨by decide +kernel, rfl⟩
theorem dk_86_45 : zz_d mm_86 45 (.invokevirtual 21) 3 48 := ⟨by decide +kernel, rfl⟩
theorem dk_86_48 : zz_d mm_86 48 (.invokestatic 51) 3 51 := ⟨by decide +kernel, rfl⟩
theorem dk_86_51 : zz_d mm_86 51 (.goto 4) 3 54 := ⟨by decide +kernel, rfl⟩
theorem dk_86_54 : zz_d mm_86 54 (.iconst (-1)) 1 55 := ⟨by decide +kernel, rfl⟩
theorem dk_86_55 : zz_d mm_86 55 (.istore 5) 2 57 := ⟨by decide +kernel, rfl⟩
theorem dk_86_57 : zz_d mm_86 57 (.iinc 4 2) 3 60 := ⟨by decide +kernel, rfl⟩
theorem dk_86_60 : zz_d mm_86 60 (.iload 5) 2 62 := ⟨by decide +kernel, rfl⟩
theorem dk_86_62 : zz_d mm_86 62 (.iconst (-1)) 1 63 := ⟨by decide +kernel, rfl⟩
theorem dk_86_63 : zz_d mm_86 63 (.if_icmp .ne 5) 3 66 := ⟨by decide +kernel, rfl⟩
theorem dk_86_66 : zz_d mm_86 66 (.iconst 0) 1 67 := ⟨by decide +kernel, rfl⟩
theorem dk_86_67 : zz_d mm_86 67 .ireturn 1 68 := ⟨by decide +kernel, rfl⟩
theorem dk_86_68 : zz_d mm_86 68 (.aload_n 0) 1 69 := ⟨by decide +kernel, rfl⟩
theorem dk_86_69 : zz_d mm_86 69 (.getfield 12) 3 72 := ⟨by decide +kernel, rfl⟩
theorem dk_86_72 : zz_d mm_86 72 (.iload 5) 2 74 := ⟨by decide +kernel, rfl⟩
theorem dk_86_74 : zz_d mm_86 74 (.invokevirtual 55) 3 77 := ⟨by decide +kernel, rfl⟩
theorem dk_86_77 : zz_d mm_86 77 (.iinc 4 1) 3 80 := ⟨by decide +kernel, rfl⟩
theorem dk_86_80 : zz_d mm_86 80 (.goto (-77)) 3 83 := ⟨by decide +kernel, rfl⟩
theorem dk_86_83 : zz_d mm_86 83 (.iconst 1) 1 84 := ⟨by decide +kernel, rfl⟩
theorem dk_86_84 : zz_d mm_86 84 .ireturn 1 85 := ⟨by decide +kernel, rfl⟩
theorem dk_87_0 : zz_d mm_87 0 (.iload_n 0) 1 1 := ⟨by decide +kernel, rfl⟩
theorem dk_87_1 : zz_d mm_87 1 (.invokestatic 59) 3 4 := ⟨by decide +kernel, rfl⟩
theorem dk_87_4 : zz_d mm_87 4 (.istore_n 2) 1 5 := ⟨by decide +kernel, rfl⟩
theorem dk_87_5 : zz_d mm_87 5 (.iload_n 1) 1 6 := ⟨by decide +kernel, rfl⟩
theorem dk_87_6 : zz_d mm_87 6 (.invokestatic 59) 3 9 := ⟨by decide +kernel, rfl⟩
theorem dk_87_9 : zz_d mm_87 9 (.istore_n 3) 1 10 := ⟨by decide +kernel, rfl⟩
theorem dk_87_10 : zz_d mm_87 10 (.iload_n 2) 1 11 := ⟨by decide +kernel, rfl⟩
theorem dk_87_11 : zz_d mm_87 11 (.iconst (-1)) 1 12 := ⟨by decide +kernel, rfl⟩
theorem dk_87_12 : zz_d mm_87 12 (.if_icmp .eq 8) 3 15 := ⟨by decide +kernel, rfl⟩
theorem dk_87_15 : zz_d mm_87 15 (.iload_n 3) 1 16 := ⟨by decide +kernel, rfl⟩
theorem dk_87_16 : zz_d mm_87 16 (.iconst (-1)) 1 17 := ⟨by decide +kernel, rfl⟩
theorem dk_87_17 : zz_d mm_87 17 (.if_icmp .ne 5) 3 20 := ⟨by decide +kernel, rfl⟩
theorem dk_87_20 : zz_d mm_87 20 (.iconst (-1)) 1 21 := ⟨by decide +kernel, rfl⟩
theorem dk_87_21 : zz_d mm_87 21 .ireturn 1 22 := ⟨by decide +kernel, rfl⟩
theorem dk_87_22 : zz_d mm_87 22 (.bipush 16) 2 24 := ⟨by decide +kernel, rfl⟩
theorem dk_87_24 : zz_d mm_87 24 (.iload_n 2) 1 25 := ⟨by decide +kernel, rfl⟩
theorem dk_87_25 : zz_d mm_87 25 .imul 1 26 := ⟨by decide +kernel, rfl⟩
theorem dk_87_26 : zz_d mm_87 26 (.iload_n 3) 1 27 := ⟨by decide +kernel, rfl⟩
theorem dk_87_27 : zz_d mm_87 27 .iadd 1 28 := ⟨by decide +kernel, rfl⟩
theorem dk_87_28 : zz_d mm_87 28 (.istore 4) 2 30 := ⟨by decide +kernel, rfl⟩
theorem dk_87_30 : zz_d mm_87 30 (.iload 4) 2 32 := ⟨by decide +kernel, rfl⟩
theorem dk_87_32 : zz_d mm_87 32 (.bipush 47) 2 34 := ⟨by decide +kernel, rfl⟩
theorem dk_87_34 : zz_d mm_87 34 (.if_icmp .eq 24) 3 37 := ⟨by decide +kernel, rfl⟩
theorem dk_87_37 : zz_d mm_87 37 (.iload 4) 2 39 := ⟨by decide +kernel, rfl⟩
theorem dk_87_39 : zz_d mm_87 39 (.bipush 92) 2 41 := ⟨by decide +kernel, rfl⟩
theorem dk_87_41 : zz_d mm_87 41 (.if_icmp .eq 17) 3 44 := ⟨by decide +kernel, rfl⟩
theorem dk_87_44 : zz_d mm_87 44 (.iload 4) 2 46 := ⟨by decide +kernel, rfl⟩
theorem dk_87_46 : zz_d mm_87 46 (.bipush 37) 2 48 := ⟨by decide +kernel, rfl⟩
theorem dk_87_48 : zz_d mm_87 48 (.if_icmp .eq 10) 3 51 := ⟨by decide +kernel, rfl⟩
theorem dk_87_51 : zz_d mm_87 51 (.iload 4) 2 53 := ⟨by decide +kernel, rfl⟩
theorem dk_87_53 : zz_d mm_87 53 (.bipush 59) 2 55 := ⟨by decide +kernel, rfl⟩
theorem dk_87_55 : zz_d mm_87 55 (.if_icmp .ne 7) 3 58 := ⟨by decide +kernel, rfl⟩
theorem dk_87_58 : zz_d mm_87 58 (.iconst 1) 1 59 := ⟨by decide +kernel, rfl⟩
theorem dk_87_59 : zz_d mm_87 59 (.goto 4) 3 62 := ⟨by decide +kernel, rfl⟩
theorem dk_87_62 : zz_d mm_87 62 (.iconst 0) 1 63 := ⟨by decide +kernel, rfl⟩
theorem dk_87_63 : zz_d mm_87 63 (.istore 5) 2 65 := ⟨by decide +kernel, rfl⟩
theorem dk_87_65 : zz_d mm_87 65 (.iload 4) 2 67 := ⟨by decide +kernel, rfl⟩
theorem dk_87_67 : zz_d mm_87 67 (.invokestatic 63) 3 70 := ⟨by decide +kernel, rfl⟩
theorem dk_87_70 : zz_d mm_87 70 (.ifCond .eq 13) 3 73 := ⟨by decide +kernel, rfl⟩
theorem dk_87_73 : zz_d mm_87 73 (.iload 5) 2 75 := ⟨by decide +kernel, rfl⟩
theorem dk_87_75 : zz_d mm_87 75 (.ifCond .ne 8) 3 78 := ⟨by decide +kernel, rfl⟩
theorem dk_87_78 : zz_d mm_87 78 (.iload 4) 2 80 := ⟨by decide +kernel, rfl⟩
theorem dk_87_80 : zz_d mm_87 80 (.goto 4) 3 83 := ⟨by decide +kernel, rfl⟩
theorem dk_87_83 : zz_d mm_87 83 (.iconst (-1)) 1 84 := ⟨by decide +kernel, rfl⟩
theorem dk_87_84 : zz_d mm_87 84 .ireturn 1 85 := ⟨by decide +kernel, rfl⟩
theorem dk_88_0 : zz_d mm_88 0 (.iload_n 0) 1 1 := ⟨by decide +kernel, rfl⟩
theorem dk_88_1 : zz_d mm_88 1 (.bipush 48) 2 3 := ⟨by decide +kernel, rfl⟩
theorem dk_88_3 : zz_d mm_88 3 (.if_icmp .lt 14) 3 6 := ⟨by decide +kernel, rfl⟩
theorem dk_88_6 : zz_d mm_88 6 (.iload_n 0) 1 7 := ⟨by decide +kernel, rfl⟩
theorem dk_88_7 : zz_d mm_88 7 (.bipush 57) 2 9 := ⟨by decide +kernel, rfl⟩
theorem dk_88_9 : zz_d mm_88 9 (.if_icmp .gt 8) 3 12 := ⟨by decide +kernel, rfl⟩
theorem dk_88_12 : zz_d mm_88 12 (.iload_n 0) 1 13 := ⟨by decide +kernel, rfl⟩
theorem dk_88_13 : zz_d mm_88 13 (.bipush 48) 2 15 := ⟨by decide +kernel, rfl⟩
theorem dk_88_15 : zz_d mm_88 15 .isub 1 16 := ⟨by decide +kernel, rfl⟩
theorem dk_88_16 : zz_d mm_88 16 .ireturn 1 17 := ⟨by decide +kernel, rfl⟩
theorem dk_88_17 : zz_d mm_88 17 (.iload_n 0) 1 18 := ⟨by decide +kernel, rfl⟩
theorem dk_88_18 : zz_d mm_88 18 (.bipush 97) 2 20 := ⟨by decide +kernel, rfl⟩
theorem dk_88_20 : zz_d mm_88 20 (.if_icmp .lt 17) 3 23 := ⟨by decide +kernel, rfl⟩
theorem dk_88_23 : zz_d mm_88 23 (.iload_n 0) 1 24 := ⟨by decide +kernel, rfl⟩
theorem dk_88_24 : zz_d mm_88 24 (.bipush 102) 2 26 := ⟨by decide +kernel, rfl⟩
theorem dk_88_26 : zz_d mm_88 26 (.if_icmp .gt 11) 3 29 := ⟨by decide +kernel, rfl⟩
theorem dk_88_29 : zz_d mm_88 29 (.iload_n 0) 1 30 := ⟨by decide +kernel, rfl⟩
theorem dk_88_30 : zz_d mm_88 30 (.bipush 97) 2 32 := ⟨by decide +kernel, rfl⟩
theorem dk_88_32 : zz_d mm_88 32 .isub 1 33 := ⟨by decide +kernel, rfl⟩
theorem dk_88_33 : zz_d mm_88 33 (.bipush 10) 2 35 := ⟨by decide +kernel, rfl⟩
theorem dk_88_35 : zz_d mm_88 35 .iadd 1 36 := ⟨by decide +kernel, rfl⟩
theorem dk_88_36 : zz_d mm_88 36 .ireturn 1 37 := ⟨by decide +kernel, rfl⟩
theorem dk_88_37 : zz_d mm_88 37 (.iload_n 0) 1 38 := ⟨by decide +kernel, rfl⟩
theorem dk_88_38 : zz_d mm_88 38 (.bipush 65) 2 40 := ⟨by decide +kernel, rfl⟩
theorem dk_88_40 : zz_d mm_88 40 (.if_icmp .lt 17) 3 43 := ⟨by decide +kernel, rfl⟩
theorem dk_88_43 : zz_d mm_88 43 (.iload_n 0) 1 44 := ⟨by decide +kernel, rfl⟩
theorem dk_88_44 : zz_d mm_88 44 (.bipush 70) 2 46 := ⟨by decide +kernel, rfl⟩
theorem dk_88_46 : zz_d mm_88 46 (.if_icmp .gt 11) 3 49 := ⟨by decide +kernel, rfl⟩
theorem dk_88_49 : zz_d mm_88 49 (.iload_n 0) 1 50 := ⟨by decide +kernel, rfl⟩
theorem dk_88_50 : zz_d mm_88 50 (.bipush 65) 2 52 := ⟨by decide +kernel, rfl⟩
theorem dk_88_52 : zz_d mm_88 52 .isub 1 53 := ⟨by decide +kernel, rfl⟩
theorem dk_88_53 : zz_d mm_88 53 (.bipush 10) 2 55 := ⟨by decide +kernel, rfl⟩
theorem dk_88_55 : zz_d mm_88 55 .iadd 1 56 := ⟨by decide +kernel, rfl⟩
theorem dk_88_56 : zz_d mm_88 56 .ireturn 1 57 := ⟨by decide +kernel, rfl⟩
theorem dk_88_57 : zz_d mm_88 57 (.iconst (-1)) 1 58 := ⟨by decide +kernel, rfl⟩
theorem dk_88_58 : zz_d mm_88 58 .ireturn 1 59 := ⟨by decide +kernel, rfl⟩
theorem dk_89_0 : zz_d mm_89 0 (.aload_n 0) 1 1 := ⟨by decide +kernel, rfl⟩
theorem dk_89_1 : zz_d mm_89 1 (.getfield 12) 3 4 := ⟨by decide +kernel, rfl⟩
theorem dk_89_4 : zz_d mm_89 4 (.invokevirtual 66) 3 7 := ⟨by decide +kernel, rfl⟩
theorem dk_89_7 : zz_d mm_89 7 (.ifCond .ne 5) 3 10 := ⟨by decide +kernel, rfl⟩
theorem dk_89_10 : zz_d mm_89 10 (.iload_n 1) 1 11 := ⟨by decide +kernel, rfl⟩
theorem dk_89_11 : zz_d mm_89 11 .ireturn 1 12 := ⟨by decide +kernel, rfl⟩
theorem dk_89_12 : zz_d mm_89 12 (.aload_n 0) 1 13 := ⟨by decide +kernel, rfl⟩
theorem dk_89_13 : zz_d mm_89 13 (.getfield 12) 3 16 := ⟨by decide +kernel, rfl⟩
theorem dk_89_16 : zz_d mm_89 16 (.iconst 1) 1 17 := ⟨by decide +kernel, rfl⟩
theorem dk_89_17 : zz_d mm_89 17 (.invokevirtual 70) 3 20 := ⟨by decide +kernel, rfl⟩
theorem dk_89_20 : zz_d mm_89 20 (.ifCond .eq 12) 3 23 := ⟨by decide +kernel, rfl⟩
theorem dk_89_23 : zz_d mm_89 23 (.aload_n 0) 1 24 := ⟨by decide +kernel, rfl⟩
theorem dk_89_24 : zz_d mm_89 24 (.getfield 12) 3 27 := ⟨by decide +kernel, rfl⟩
theorem dk_89_27 : zz_d mm_89 27 (.invokevirtual 73) 3 30 := ⟨by decide +kernel, rfl⟩
theorem dk_89_30 : zz_d mm_89 30 (.iconst 1) 1 31 := ⟨by decide +kernel, rfl⟩
theorem dk_89_31 : zz_d mm_89 31 .ireturn 1 32 := ⟨by decide +kernel, rfl⟩
theorem dk_89_32 : zz_d mm_89 32 (.aload_n 0) 1 33 := ⟨by decide +kernel, rfl⟩
theorem dk_89_33 : zz_d mm_89 33 (.getfield 12) 3 36 := ⟨by decide +kernel, rfl⟩
theorem dk_89_36 : zz_d mm_89 36 (.iconst 2) 1 37 := ⟨by decide +kernel, rfl⟩
theorem dk_89_37 : zz_d mm_89 37 (.invokevirtual 70) 3 40 := ⟨by decide +kernel, rfl⟩
theorem dk_89_40 : zz_d mm_89 40 (.ifCond .eq 35) 3 43 := ⟨by decide +kernel, rfl⟩
theorem dk_89_43 : zz_d mm_89 43 (.aload_n 0) 1 44 := ⟨by decide +kernel, rfl⟩
theorem dk_89_44 : zz_d mm_89 44 (.getfield 12) 3 47 := ⟨by decide +kernel, rfl⟩
theorem dk_89_47 : zz_d mm_89 47 (.getfield 76) 3 50 := ⟨by decide +kernel, rfl⟩
theorem dk_89_50 : zz_d mm_89 50 (.ifCond .le 7) 3 53 := ⟨by decide +kernel, rfl⟩
theorem dk_89_53 : zz_d mm_89 53 (.iconst 1) 1 54 := ⟨by decide +kernel, rfl⟩
theorem dk_89_54 : zz_d mm_89 54 (.goto 4) 3 57 := ⟨by decide +kernel, rfl⟩
theorem dk_89_57 : zz_d mm_89 57 (.iconst 0) 1 58 := ⟨by decide +kernel, rfl⟩
theorem dk_89_58 : zz_d mm_89 58 (.istore_n 2) 1 59 := ⟨by decide +kernel, rfl⟩
theorem dk_89_59 : zz_d mm_89 59 (.aload_n 0) 1 60 := ⟨by decide +kernel, rfl⟩
theorem dk_89_60 : zz_d mm_89 60 (.getfield 12) 3 63 := ⟨by decide +kernel, rfl⟩
theorem dk_89_63 : zz_d mm_89 63 (.invokevirtual 73) 3 66 := ⟨by decide +kernel, rfl⟩
theorem dk_89_66 : zz_d mm_89 66 (.aload_n 0) 1 67 := ⟨by decide +kernel, rfl⟩
theorem dk_89_67 : zz_d mm_89 67 (.getfield 12) 3 70 := ⟨by decide +kernel, rfl⟩
theorem dk_89_70 : zz_d mm_89 70 (.invokevirtual 79) 3 73 := ⟨by decide +kernel, rfl⟩
theorem dk_89_73 : zz_d mm_89 73 (.iload_n 2) 1 74 := ⟨by decide +kernel, rfl⟩
theorem dk_89_74 : zz_d mm_89 74 .ireturn 1 75 := ⟨by decide +kernel, rfl⟩
theorem dk_89_75 : zz_d mm_89 75 (.aload_n 0) 1 76 := ⟨by decide +kernel, rfl⟩
theorem dk_89_76 : zz_d mm_89 76 (.getfield 12) 3 79 := ⟨by decide +kernel, rfl⟩
theorem dk_89_79 : zz_d mm_89 79 (.invokevirtual 82) 3 82 := ⟨by decide +kernel, rfl⟩
theorem dk_89_82 : zz_d mm_89 82 (.iconst 1) 1 83 := ⟨by decide +kernel, rfl⟩
theorem dk_89_83 : zz_d mm_89 83 .ireturn 1 84 := ⟨by decide +kernel, rfl⟩
theorem dk_90_0 : zz_d mm_90 0 (.aload_n 0) 1 1 := ⟨by decide +kernel, rfl⟩
theorem dk_90_1 : zz_d mm_90 1 (.getfield 26) 3 4 := ⟨by decide +kernel, rfl⟩
theorem dk_90_4 : zz_d mm_90 4 (.aload_n 0) 1 5 := ⟨by decide +kernel, rfl⟩
theorem dk_90_5 : zz_d mm_90 5 (.getfield 22) 3 8 := ⟨by decide +kernel, rfl⟩
theorem dk_90_8 : zz_d mm_90 8 .isub 1 9 := ⟨by decide +kernel, rfl⟩
theorem dk_90_9 : zz_d mm_90 9 .ireturn 1 10 := ⟨by decide +kernel, rfl⟩
theorem dk_91_0 : zz_d mm_91 0 (.aload_n 0) 1 1 := ⟨by decide +kernel, rfl⟩
theorem dk_91_1 : zz_d mm_91 1 (.invokevirtual 32) 3 4 := ⟨by decide +kernel, rfl⟩
theorem dk_91_4 : zz_d mm_91 4 (.iload_n 1) 1 5 := ⟨by decide +kernel, rfl⟩
theorem dk_91_5 : zz_d mm_91 5 (.if_icmp .eq 5) 3 8 := ⟨by decide +kernel, rfl⟩
theorem dk_91_8 : zz_d mm_91 8 (.iconst 0) 1 9 := ⟨by decide +kernel, rfl⟩
theorem dk_91_9 : zz_d mm_91 9 .ireturn 1 10 := ⟨by decide +kernel, rfl⟩
theorem dk_91_10 : zz_d mm_91 10 (.aload_n 0) 1 11 := ⟨by decide +kernel, rfl⟩
theorem dk_91_11 : zz_d mm_91 11 (.getfield 22) 3 14 := ⟨by decide +kernel, rfl⟩
theorem dk_91_14 : zz_d mm_91 14 (.istore_n 2) 1 15 := ⟨by decide +kernel, rfl⟩
theorem dk_91_15 : zz_d mm_91 15 (.iload_n 2) 1 16 := ⟨by decide +kernel, rfl⟩
theorem dk_91_16 : zz_d mm_91 16 (.aload_n 0) 1 17 := ⟨by decide +kernel, rfl⟩
theorem dk_91_17 : zz_d mm_91 17 (.getfield 26) 3 20 := ⟨by decide +kernel, rfl⟩
theorem dk_91_20 : zz_d mm_91 20 (.if_icmp .ge 22) 3 23 := ⟨by decide +kernel, rfl⟩
theorem dk_91_23 : zz_d mm_91 23 (.aload_n 0) 1 24 := ⟨by decide +kernel, rfl⟩
theorem dk_91_24 : zz_d mm_91 24 (.getfield 9) 3 27 := ⟨by decide +kernel, rfl⟩
theorem dk_91_27 : zz_d mm_91 27 (.iload_n 2) 1 28 := ⟨by decide +kernel, rfl⟩
theorem dk_91_28 : zz_d mm_91 28 .caload 1 29 := ⟨by decide +kernel, rfl⟩
theorem dk_91_29 : zz_d mm_91 29 (.bipush 46) 2 31 := ⟨by decide +kernel, rfl⟩
theorem dk_91_31 : zz_d mm_91 31 (.if_icmp .eq 5) 3 34 := ⟨by decide +kernel, rfl⟩
theorem dk_91_34 : zz_d mm_91 34 (.iconst 0) 1 35 := ⟨by decide +kernel, rfl⟩
theorem dk_91_35 : zz_d mm_91 35 .ireturn 1 36 := ⟨by decide +kernel, rfl⟩
theorem dk_91_36 : zz_d mm_91 36 (.iinc 2 1) 3 39 := ⟨by decide +kernel, rfl⟩
theorem dk_91_39 : zz_d mm_91 39 (.goto (-24)) 3 42 := ⟨by decide +kernel, rfl⟩
theorem dk_91_42 : zz_d mm_91 42 (.iconst 1) 1 43 := ⟨by decide +kernel, rfl⟩
theorem dk_91_43 : zz_d mm_91 43 .ireturn 1 44 := ⟨by decide +kernel, rfl⟩
theorem dk_92_0 : zz_d mm_92 0 (.aload_n 0) 1 1 := ⟨by decide +kernel, rfl⟩
theorem dk_92_1 : zz_d mm_92 1 (.aload_n 0) 1 2 := ⟨by decide +kernel, rfl⟩
theorem dk_92_2 : zz_d mm_92 2 (.getfield 22) 3 5 := ⟨by decide +kernel, rfl⟩
theorem dk_92_5 : zz_d mm_92 5 (.putfield 26) 3 8 := ⟨by decide +kernel, rfl⟩
theorem dk_92_8 : zz_d mm_92 8 .return_ 1 9 := ⟨by decide +kernel, rfl⟩
theorem dk_93_0 : zz_d mm_93 0 (.aload_n 0) 1 1 := ⟨by decide +kernel, rfl⟩
theorem dk_93_1 : zz_d mm_93 1 (.getfield 29) 3 4 := ⟨by decide +kernel, rfl⟩
theorem dk_93_4 : zz_d mm_93 4 (.ifCond .le 13) 3 7 := ⟨by decide +kernel, rfl⟩
theorem dk_93_7 : zz_d mm_93 7 (.aload_n 0) 1 8 := ⟨by decide +kernel, rfl⟩
theorem dk_93_8 : zz_d mm_93 8 .dup 1 9 := ⟨by decide +kernel, rfl⟩
theorem dk_93_9 : zz_d mm_93 9 (.getfield 29) 3 12 := ⟨by decide +kernel, rfl⟩
theorem dk_93_12 : zz_d mm_93 12 (.iconst 1) 1 13 := ⟨by decide +kernel, rfl⟩
theorem dk_93_13 : zz_d mm_93 13 .isub 1 14 := ⟨by decide +kernel, rfl⟩
theorem dk_93_14 : zz_d mm_93 14 (.putfield 29) 3 17 := ⟨by decide +kernel, rfl⟩
theorem dk_93_17 : zz_d mm_93 17 .return_ 1 18 := ⟨by decide +kernel, rfl⟩
theorem dk_94_0 : zz_d mm_94 0 (.aload_n 1) 1 1 := ⟨by decide +kernel, rfl⟩
theorem dk_94_1 : zz_d mm_94 1 (.aload_n 0) 1 2 := ⟨by decide +kernel, rfl⟩
theorem dk_94_2 : zz_d mm_94 2 (.getfield 134) 3 5 := ⟨by decide +kernel, rfl⟩
theorem dk_94_5 : zz_d mm_94 5 (.putfield 265) 3 8 := ⟨by decide +kernel, rfl⟩
theorem dk_94_8 : zz_d mm_94 8 (.aload_n 1) 1 9 := ⟨by decide +kernel, rfl⟩
theorem dk_94_9 : zz_d mm_94 9 (.getfield 244) 3 12 := ⟨by decide +kernel, rfl⟩
theorem dk_94_12 : zz_d mm_94 12 (.ifCond .eq 13) 3 15 := ⟨by decide +kernel, rfl⟩
theorem dk_94_15 : zz_d mm_94 15 (.aload_n 1) 1 16 := ⟨by decide +kernel, rfl⟩
theorem dk_94_16 : zz_d mm_94 16 (.getfield 178) 3 19 := ⟨by decide +kernel, rfl⟩
theorem dk_94_19 : zz_d mm_94 19 (.bipush 8) 2 21 := ⟨by decide +kernel, rfl⟩
theorem dk_94_21 : zz_d mm_94 21 .iadd 1 22 := ⟨by decide +kernel, rfl⟩
theorem dk_94_22 : zz_d mm_94 22 (.goto 7) 3 25 := ⟨by decide +kernel, rfl⟩
theorem dk_94_25 : zz_d mm_94 25 (.aload_n 1) 1 26 := ⟨by decide +kernel, rfl⟩
theorem dk_94_26 : zz_d mm_94 26 (.getfield 178) 3 29 := ⟨by decide +kernel, rfl⟩
theorem dk_94_29 : zz_d mm_94 29 .ireturn 1 30 := ⟨by decide +kernel, rfl⟩
theorem dk_95_0 : zz_d mm_95 0 (.aload_n 0) 1 1 := ⟨by decide +kernel, rfl⟩
theorem dk_95_1 : zz_d mm_95 1 (.getfield 64) 3 4 := ⟨by decide +kernel, rfl⟩
theorem dk_95_4 : zz_d mm_95 4 (.iload_n 1) 1 5 := ⟨by decide +kernel, rfl⟩
theorem dk_95_5 : zz_d mm_95 5 (.invokevirtual 174) 3 8 := ⟨by decide +kernel, rfl⟩
theorem dk_95_8 : zz_d mm_95 8 (.astore_n 3) 1 9 := ⟨by decide +kernel, rfl⟩
theorem dk_95_9 : zz_d mm_95 9 (.aload_n 3) 1 10 := ⟨by decide +kernel, rfl⟩
theorem dk_95_10 : zz_d mm_95 10 (.ifnonnull 5) 3 13 := ⟨by decide +kernel, rfl⟩
theorem dk_95_13 : zz_d mm_95 13 (.iconst (-1)) 1 14 := ⟨by decide +kernel, rfl⟩
theorem dk_95_14 : zz_d mm_95 14 .ireturn 1 15 := ⟨by decide +kernel, rfl⟩
theorem dk_95_15 : zz_d mm_95 15 (.aload_n 3) 1 16 := ⟨by decide +kernel, rfl⟩
theorem dk_95_16 : zz_d mm_95 16 (.getfield 201) 3 19 := ⟨by decide +kernel, rfl⟩
theorem dk_95_19 : zz_d mm_95 19 (.iload_n 2) 1 20 := ⟨by decide +kernel, rfl⟩
theorem dk_95_20 : zz_d mm_95 20 (.if_icmp .eq 37) 3 23 := ⟨by decide +kernel, rfl⟩
theorem dk_95_23 : zz_d mm_95 23 (.aload_n 0) 1 24 := ⟨by decide +kernel, rfl⟩
theorem dk_95_24 : zz_d mm_95 24 .dup 1 25 := ⟨by decide +kernel, rfl⟩
theorem dk_95_25 : zz_d mm_95 25 (.getfield 253) 3 28 := ⟨by decide +kernel, rfl⟩
theorem dk_95_28 : zz_d mm_95 28 (.iconst 1) 1 29 := ⟨by decide +kernel, rfl⟩
theorem dk_95_29 : zz_d mm_95 29 .iadd 1 30 := ⟨by decide +kernel, rfl⟩
theorem dk_95_30 : zz_d mm_95 30 (.putfield 253) 3 33 := ⟨by decide +kernel, rfl⟩
theorem dk_95_33 : zz_d mm_95 33 (.aload_n 0) 1 34 := ⟨by decide +kernel, rfl⟩
theorem dk_95_34 : zz_d mm_95 34 (.getfield 64) 3 37 := ⟨by decide +kernel, rfl⟩
theorem dk_95_37 : zz_d mm_95 37 (.aload_n 3) 1 38 := ⟨by decide +kernel, rfl⟩
theorem dk_95_38 : zz_d mm_95 38 (.getfield 178) 3 41 := ⟨by decide +kernel, rfl⟩
theorem dk_95_41 : zz_d mm_95 41 (.invokevirtual 183) 3 44 := ⟨by decide +kernel, rfl⟩
theorem dk_95_44 : zz_d mm_95 44 (.aload_n 0) 1 45 := ⟨by decide +kernel, rfl⟩
theorem dk_95_45 : zz_d mm_95 45 (.getfield 60) 3 48 := ⟨by decide +kernel, rfl⟩
theorem dk_95_48 : zz_d mm_95 48 (.aload_n 3) 1 49 := ⟨by decide +kernel, rfl⟩
theorem dk_95_49 : zz_d mm_95 49 (.getfield 178) 3 52 := ⟨by decide +kernel, rfl⟩
theorem dk_95_52 : zz_d mm_95 52 (.invokevirtual 183) 3 55 := ⟨by decide +kernel, rfl⟩
theorem dk_95_55 : zz_d mm_95 55 (.iconst (-1)) 1 56 := ⟨by decide +kernel, rfl⟩
theorem dk_95_56 : zz_d mm_95 56 .ireturn 1 57 := ⟨by decide +kernel, rfl⟩
theorem dk_95_57 : zz_d mm_95 57 (.aload_n 3) 1 58 := ⟨by decide +kernel, rfl⟩
theorem dk_95_58 : zz_d mm_95 58 (.aload_n 0) 1 59 := ⟨by decide +kernel, rfl⟩
theorem dk_95_59 : zz_d mm_95 59 (.invokevirtual 106) 3 62 := ⟨by decide +kernel, rfl⟩
theorem dk_95_62 : zz_d mm_95 62 (.putfield 201) 3 65 := ⟨by decide +kernel, rfl⟩
theorem dk_95_65 : zz_d mm_95 65 (.aload_n 0) 1 66 := ⟨by decide +kernel, rfl⟩
theorem dk_95_66 : zz_d mm_95 66 (.aload_n 0) 1 67 := ⟨by decide +kernel, rfl⟩
theorem dk_95_67 : zz_d mm_95 67 (.getfield 60) 3 70 := ⟨by decide +kernel, rfl⟩
theorem dk_95_70 : zz_d mm_95 70 (.aload_n 3) 1 71 := ⟨by decide +kernel, rfl⟩
theorem dk_95_71 : zz_d mm_95 71 (.getfield 178) 3 74 := ⟨by decide +kernel, rfl⟩
theorem dk_95_74 : zz_d mm_95 74 (.iconst 1) 1 75 := ⟨by decide +kernel, rfl⟩
theorem dk_95_75 : zz_d mm_95 75 (.invokevirtual 170) 3 78 := ⟨by decide +kernel, rfl⟩
theorem dk_95_78 : zz_d mm_95 78 .pop 1 79 := ⟨by decide +kernel, rfl⟩
theorem dk_95_79 : zz_d mm_95 79 (.aload_n 3) 1 80 := ⟨by decide +kernel, rfl⟩
theorem dk_95_80 : zz_d mm_95 80 (.getfield 178) 3 83 := ⟨by decide +kernel, rfl⟩
theorem dk_95_83 : zz_d mm_95 83 (.bipush 8) 2 85 := ⟨by decide +kernel, rfl⟩
theorem dk_95_85 : zz_d mm_95 85 .iadd 1 86 := ⟨by decide +kernel, rfl⟩
theorem dk_95_86 : zz_d mm_95 86 .ireturn 1 87 := ⟨by decide +kernel, rfl⟩
theorem dk_96_0 : zz_d mm_96 0 (.aload_n 0) 1 1 := ⟨by decide +kernel, rfl⟩
theorem dk_96_1 : zz_d mm_96 1 (.iload_n 1) 1 2 := ⟨by decide +kernel, rfl⟩
theorem dk_96_2 : zz_d mm_96 2 (.invokevirtual 268) 3 5 := ⟨by decide +kernel, rfl⟩
theorem dk_96_5 : zz_d mm_96 5 (.istore_n 3) 1 6 := ⟨by decide +kernel, rfl⟩
theorem dk_96_6 : zz_d mm_96 6 (.iload_n 3) 1 7 := ⟨by decide +kernel, rfl⟩
theorem dk_96_7 : zz_d mm_96 7 (.iconst (-1)) 1 8 := ⟨by decide +kernel, rfl⟩
theorem dk_96_8 : zz_d mm_96 8 (.if_icmp .ne 7) 3 11 := ⟨by decide +kernel, rfl⟩
theorem dk_96_11 : zz_d mm_96 11 (.sipush 403) 3 14 := ⟨by decide +kernel, rfl⟩
theorem dk_96_14 : zz_d mm_96 14 .ireturn 1 15 := ⟨by decide +kernel, rfl⟩
theorem dk_96_15 : zz_d mm_96 15 (.aload_n 0) 1 16 := ⟨by decide +kernel, rfl⟩
theorem dk_96_16 : zz_d mm_96 16 (.aload_n 0) 1 17 := ⟨by decide +kernel, rfl⟩
theorem dk_96_17 : zz_d mm_96 17 (.getfield 47) 3 20 := ⟨by decide +kernel, rfl⟩
theorem dk_96_20 : zz_d mm_96 20 (.iload_n 3) 1 21 := ⟨by decide +kernel, rfl⟩
theorem dk_96_21 : zz_d mm_96 21 (.invokevirtual 129) 3 24 := ⟨by decide +kernel, rfl⟩
theorem dk_96_24 : zz_d mm_96 24 (.checkcast 90) 3 27 := ⟨by decide +kernel, rfl⟩
theorem dk_96_27 : zz_d mm_96 27 (.getfield 272) 3 30 := ⟨by decide +kernel, rfl⟩
theorem dk_96_30 : zz_d mm_96 30 (.iload_n 2) 1 31 := ⟨by decide +kernel, rfl⟩
theorem dk_96_31 : zz_d mm_96 31 (.aload_n 0) 1 32 := ⟨by decide +kernel, rfl⟩
theorem dk_96_32 : zz_d mm_96 32 (.getfield 19) 3 35 := ⟨by decide +kernel, rfl⟩
theorem dk_96_35 : zz_d mm_96 35 (.getfield 230) 3 38 := ⟨by decide +kernel, rfl⟩
theorem dk_96_38 : zz_d mm_96 38 (.getfield 275) 3 41 := ⟨by decide +kernel, rfl⟩
theorem dk_96_41 : zz_d mm_96 41 (.invokevirtual 216) 3 44 := ⟨by decide +kernel, rfl⟩
theorem dk_96_44 : zz_d mm_96 44 (.ifCond .ne 18) 3 47 := ⟨by decide +kernel, rfl⟩
theorem dk_96_47 : zz_d mm_96 47 (.iload_n 2) 1 48 := ⟨by decide +kernel, rfl⟩
theorem dk_96_48 : zz_d mm_96 48 (.iconst (-1)) 1 49 := ⟨by decide +kernel, rfl⟩
theorem dk_96_49 : zz_d mm_96 49 (.if_icmp .ne 9) 3 52 := ⟨by decide +kernel, rfl⟩
theorem dk_96_52 : zz_d mm_96 52 (.sipush 401) 3 55 := ⟨by decide +kernel, rfl⟩
theorem dk_96_55 : zz_d mm_96 55 (.goto 6) 3 58 := ⟨by decide +kernel, rfl⟩
theorem dk_96_58 : zz_d mm_96 58 (.sipush 403) 3 61 := ⟨by decide +kernel, rfl⟩
theorem dk_96_61 : zz_d mm_96 61 .ireturn 1 62 := ⟨by decide +kernel, rfl⟩
theorem dk_96_62 : zz_d mm_96 62 (.aload_n 0) 1 63 := ⟨by decide +kernel, rfl⟩
theorem dk_96_63 : zz_d mm_96 63 (.iconst 1) 1 64 := ⟨by decide +kernel, rfl⟩
theorem dk_96_64 : zz_d mm_96 64 (.putfield 186) 3 67 := ⟨by decide +kernel, rfl⟩
theorem dk_96_67 : zz_d mm_96 67 (.aload_n 0) 1 68 := ⟨by decide +kernel, rfl⟩
theorem dk_96_68 : zz_d mm_96 68 (.iload_n 2) 1 69 := ⟨by decide +kernel, rfl⟩
theorem dk_96_69 : zz_d mm_96 69 (.putfield 67) 3 72 := ⟨by decide +kernel, rfl⟩
theorem dk_96_72 : zz_d mm_96 72 (.aload_n 0) 1 73 := ⟨by decide +kernel, rfl⟩
theorem dk_96_73 : zz_d mm_96 73 .dup 1 74 := ⟨by decide +kernel, rfl⟩
theorem dk_96_74 : zz_d mm_96 74 (.getfield 250) 3 77 := ⟨by decide +kernel, rfl⟩
theorem dk_96_77 : zz_d mm_96 77 (.iconst 1) 1 78 := ⟨by decide +kernel, rfl⟩
theorem dk_96_78 : zz_d mm_96 78 .iadd 1 79 := ⟨by decide +kernel, rfl⟩
theorem dk_96_79 : zz_d mm_96 79 (.putfield 250) 3 82 := ⟨by decide +kernel, rfl⟩
theorem dk_96_82 : zz_d mm_96 82 (.sipush 200) 3 85 := ⟨by decide +kernel, rfl⟩
theorem dk_96_85 : zz_d mm_96 85 (.iload_n 3) 1 86 := ⟨by decide +kernel, rfl⟩
theorem dk_96_86 : zz_d mm_96 86 .iadd 1 87 := ⟨by decide +kernel, rfl⟩
theorem dk_96_87 : zz_d mm_96 87 .ireturn 1 88 := ⟨by decide +kernel, rfl⟩
theorem dk_97_0 : zz_d mm_97 0 (.iconst 0) 1 1 := ⟨by decide +kernel, rfl⟩
theorem dk_97_1 : zz_d mm_97 1 (.istore_n 2) 1 2 := ⟨by decide +kernel, rfl⟩
theorem dk_97_2 : zz_d mm_97 2 (.iload_n 2) 1 3 := ⟨by decide +kernel, rfl⟩
theorem dk_97_3 : zz_d mm_97 3 (.aload_n 0) 1 4 := ⟨by decide +kernel, rfl⟩
theorem dk_97_4 : zz_d mm_97 4 (.getfield 47) 3 7 := ⟨by decide +kernel, rfl⟩
theorem dk_97_7 : zz_d mm_97 7 (.invokevirtual 82) 3 10 := ⟨by decide +kernel, rfl⟩
theorem dk_97_10 : zz_d mm_97 10 (.if_icmp .ge 52) 3 13 := ⟨by decide +kernel, rfl⟩
theorem dk_97_13 : zz_d mm_97 13 (.aload_n 0) 1 14 := ⟨by decide +kernel, rfl⟩
theorem dk_97_14 : zz_d mm_97 14 (.getfield 47) 3 17 := ⟨by decide +kernel, rfl⟩
theorem dk_97_17 : zz_d mm_97 17 (.iload_n 2) 1 18 := ⟨by decide +kernel, rfl⟩
theorem dk_97_18 : zz_d mm_97 18 (.invokevirtual 129) 3 21 := ⟨by decide +kernel, rfl⟩
theorem dk_97_21 : zz_d mm_97 21 (.checkcast 90) 3 24 := ⟨by decide +kernel, rfl⟩
theorem dk_97_24 : zz_d mm_97 24 (.astore_n 3) 1 25 := ⟨by decide +kernel, rfl⟩
theorem dk_97_25 : zz_d mm_97 25 (.aload_n 3) 1 26 := ⟨by decide +kernel, rfl⟩
theorem dk_97_26 : zz_d mm_97 26 (.iload_n 1) 1 27 := ⟨by decide +kernel, rfl⟩
theorem dk_97_27 : zz_d mm_97 27 (.invokevirtual 279) 3 30 := ⟨by decide +kernel, rfl⟩
theorem dk_97_30 : zz_d mm_97 30 (.ifCond .eq 26) 3 33 := ⟨by decide +kernel, rfl⟩
theorem dk_97_33 : zz_d mm_97 33 (.aload_n 0) 1 34 := ⟨by decide +kernel, rfl⟩
theorem dk_97_34 : zz_d mm_97 34 (.getfield 26) 3 37 := ⟨by decide +kernel, rfl⟩
theorem dk_97_37 : zz_d mm_97 37 (.aload_n 3) 1 38 := ⟨by decide +kernel, rfl⟩
theorem dk_97_38 : zz_d mm_97 38 (.getfield 226) 3 41 := ⟨by decide +kernel, rfl⟩
theorem dk_97_41 : zz_d mm_97 41 (.aload_n 0) 1 42 := ⟨by decide +kernel, rfl⟩
theorem dk_97_42 : zz_d mm_97 42 (.getfield 19) 3 45 := ⟨by decide +kernel, rfl⟩
theorem dk_97_45 : zz_d mm_97 45 (.getfield 230) 3 48 := ⟨by decide +kernel, rfl⟩
theorem dk_97_48 : zz_d mm_97 48 (.invokevirtual 233) 3 51 := ⟨by decide +kernel, rfl⟩
theorem dk_97_51 : zz_d mm_97 51 (.ifCond .eq 5) 3 54 := ⟨by decide +kernel, rfl⟩
theorem dk_97_54 : zz_d mm_97 54 (.iload_n 2) 1 55 := ⟨by decide +kernel, rfl⟩
theorem dk_97_55 : zz_d mm_97 55 .ireturn 1 56 := ⟨by decide +kernel, rfl⟩
theorem dk_97_56 : zz_d mm_97 56 (.iinc 2 1) 3 59 := ⟨by decide +kernel, rfl⟩
theorem dk_97_59 : zz_d mm_97 59 (.goto (-57)) 3 62 := ⟨by decide +kernel, rfl⟩
theorem dk_97_62 : zz_d mm_97 62 (.iconst (-1)) 1 63 := ⟨by decide +kernel, rfl⟩
theorem dk_97_63 : zz_d mm_97 63 .ireturn 1 64 := ⟨by decide +kernel, rfl⟩
theorem dk_98_0 : zz_d mm_98 0 (.aload_n 0) 1 1 := ⟨by decide +kernel, rfl⟩
theorem dk_98_1 : zz_d mm_98 1 (.getfield 20) 3 4 := ⟨by decide +kernel, rfl⟩
theorem dk_98_4 : zz_d mm_98 4 (.iload_n 1) 1 5 := ⟨by decide +kernel, rfl⟩
theorem dk_98_5 : zz_d mm_98 5 .ishr 1 6 := ⟨by decide +kernel, rfl⟩
theorem dk_98_6 : zz_d mm_98 6 (.iconst 1) 1 7 := ⟨by decide +kernel, rfl⟩
theorem dk_98_7 : zz_d mm_98 7 .iand 1 8 := ⟨by decide +kernel, rfl⟩
theorem dk_98_8 : zz_d mm_98 8 (.iconst 1) 1 9 := ⟨by decide +kernel, rfl⟩
theorem dk_98_9 : zz_d mm_98 9 (.if_icmp .ne 7) 3 12 := ⟨by decide +kernel, rfl⟩
theorem dk_98_12 : zz_d mm_98 12 (.iconst 1) 1 13 := ⟨by decide +kernel, rfl⟩
theorem dk_98_13 : zz_d mm_98 13 (.goto 4) 3 16 := ⟨by decide +kernel, rfl⟩
theorem dk_98_16 : zz_d mm_98 16 (.iconst 0) 1 17 := ⟨by decide +kernel, rfl⟩
theorem dk_98_17 : zz_d mm_98 17 .ireturn 1 18 := ⟨by decide +kernel, rfl⟩
theorem dk_99_0 : zz_d mm_99 0 (.aload_n 0) 1 1 := ⟨by decide +kernel, rfl⟩
theorem dk_99_1 : zz_d mm_99 1 (.getfield 9) 3 4 := ⟨by decide +kernel, rfl⟩
theorem dk_99_4 : zz_d mm_99 4 (.invokestatic 18) 3 7 := ⟨by decide +kernel, rfl⟩
theorem dk_99_7 : zz_d mm_99 7 (.iconst 0) 1 8 := ⟨by decide +kernel, rfl⟩
theorem dk_99_8 : zz_d mm_99 8 (.istore_n 3) 1 9 := ⟨by decide +kernel, rfl⟩
theorem dk_99_9 : zz_d mm_99 9 (.iload_n 3) 1 10 := ⟨by decide +kernel, rfl⟩
theorem dk_99_10 : zz_d mm_99 10 (.aload_n 1) 1 11 := ⟨by decide +kernel, rfl⟩
theorem dk_99_11 : zz_d mm_99 11 (.getfield 22) 3 14 := ⟨by decide +kernel, rfl⟩
theorem dk_99_14 : zz_d mm_99 14 (.if_icmp .ge 34) 3 17 := ⟨by decide +kernel, rfl⟩
theorem dk_99_17 : zz_d mm_99 17 (.aload_n 1) 1 18 := ⟨by decide +kernel, rfl⟩
theorem dk_99_18 : zz_d mm_99 18 (.iload_n 3) 1 19 := ⟨by decide +kernel, rfl⟩
theorem dk_99_19 : zz_d mm_99 19 (.invokevirtual 28) 3 22 := ⟨by decide +kernel, rfl⟩
theorem dk_99_22 : zz_d mm_99 22 (.ifCond .eq 13) 3 25 := ⟨by decide +kernel, rfl⟩
theorem dk_99_25 : zz_d mm_99 25 (.aload_n 0) 1 26 := ⟨by decide +kernel, rfl⟩
theorem dk_99_26 : zz_d mm_99 26 (.getfield 9) 3 29 := ⟨by decide +kernel, rfl⟩
theorem dk_99_29 : zz_d mm_99 29 (.invokestatic 32) 3 32 := ⟨by decide +kernel, rfl⟩
theorem dk_99_32 : zz_d mm_99 32 (.goto 10) 3 35 := ⟨by decide +kernel, rfl⟩
theorem dk_99_35 : zz_d mm_99 35 (.aload_n 0) 1 36 := ⟨by decide +kernel, rfl⟩
theorem dk_99_36 : zz_d mm_99 36 (.aload_n 1) 1 37 := ⟨by decide +kernel, rfl⟩
theorem dk_99_37 : zz_d mm_99 37 (.iload_n 3) 1 38 := ⟨by decide +kernel, rfl⟩
theorem dk_99_38 : zz_d mm_99 38 (.aload_n 2) 1 39 := ⟨by decide +kernel, rfl⟩
theorem dk_99_39 : zz_d mm_99 39 (.invokevirtual 35) 3 42 := ⟨by decide +kernel, rfl⟩
theorem dk_99_42 : zz_d mm_99 42 (.iinc 3 1) 3 45 := ⟨by decide +kernel, rfl⟩
theorem dk_99_45 : zz_d mm_99 45 (.goto (-36)) 3 48 := ⟨by decide +kernel, rfl⟩
theorem dk_99_48 : zz_d mm_99 48 (.aload_n 0) 1 49 := ⟨by decide +kernel, rfl⟩
theorem dk_99_49 : zz_d mm_99 49 (.getfield 9) 3 52 := ⟨by decide +kernel, rfl⟩
theorem dk_99_52 : zz_d mm_99 52 (.aload_n 2) 1 53 := ⟨by decide +kernel, rfl⟩
theorem dk_99_53 : zz_d mm_99 53 (.getfield 22) 3 56 := ⟨by decide +kernel, rfl⟩
theorem dk_99_56 : zz_d mm_99 56 .baload 1 57 := ⟨by decide +kernel, rfl⟩
theorem dk_99_57 : zz_d mm_99 57 .ireturn 1 58 := ⟨by decide +kernel, rfl⟩
theorem dk_100_0 : zz_d mm_100 0 (.iconst 0) 1 1 := ⟨by decide +kernel, rfl⟩
theorem dk_100_1 : zz_d mm_100 1 (.istore_n 1) 1 2 := ⟨by decide +kernel, rfl⟩
theorem dk_100_2 : zz_d mm_100 2 (.iload_n 1) 1 3 := ⟨by decide +kernel, rfl⟩
theorem dk_100_3 : zz_d mm_100 3 (.aload_n 0) 1 4 := ⟨by decide +kernel, rfl⟩
theorem dk_100_4 : zz_d mm_100 4 .arraylength 1 5 := ⟨by decide +kernel, rfl⟩
theorem dk_100_5 : zz_d mm_100 5 (.if_icmp .ge 21) 3 8 := ⟨by decide +kernel, rfl⟩
theorem dk_100_8 : zz_d mm_100 8 (.aload_n 0) 1 9 := ⟨by decide +kernel, rfl⟩
theorem dk_100_9 : zz_d mm_100 9 (.iload_n 1) 1 10 := ⟨by decide +kernel, rfl⟩
theorem dk_100_10 : zz_d mm_100 10 (.iload_n 1) 1 11 := ⟨by decide +kernel, rfl⟩
theorem dk_100_11 : zz_d mm_100 11 (.ifCond .ne 7) 3 14 := ⟨by decide +kernel, rfl⟩
theorem dk_100_14 : zz_d mm_100 14 (.iconst 1) 1 15 := ⟨by decide +kernel, rfl⟩
theorem dk_100_15 : zz_d mm_100 15 (.goto 4) 3 18 := ⟨by decide +kernel, rfl⟩
theorem dk_100_18 : zz_d mm_100 18 (.iconst 0) 1 19 := ⟨by decide +kernel, rfl⟩
theorem dk_100_19 : zz_d mm_100 19 .bastore 1 20 := ⟨by decide +kernel, rfl⟩
theorem dk_100_20 : zz_d mm_100 20 (.iinc 1 1) 3 23 := ⟨by decide +kernel, rfl⟩
theorem dk_100_23 : zz_d mm_100 23 (.goto (-21)) 3 26 := ⟨by decide +kernel, rfl⟩
theorem dk_100_26 : zz_d mm_100 26 .return_ 1 27 := ⟨by decide +kernel, rfl⟩
theorem dk_101_0 : zz_d mm_101 0 (.aload_n 0) 1 1 := ⟨by decide +kernel, rfl⟩
theorem dk_101_1 : zz_d mm_101 1 (.iload_n 1) 1 2 := ⟨by decide +kernel, rfl⟩
theorem dk_101_2 : zz_d mm_101 2 (.invokevirtual 36) 3 5 := ⟨by decide +kernel, rfl⟩
theorem dk_101_5 : zz_d mm_101 5 (.iconst 2) 1 6 := ⟨by decide +kernel, rfl⟩
theorem dk_101_6 : zz_d mm_101 6 (.if_icmp .ne 29) 3 9 := ⟨by decide +kernel, rfl⟩
theorem dk_101_9 : zz_d mm_101 9 (.aload_n 0) 1 10 := ⟨by decide +kernel, rfl⟩
theorem dk_101_10 : zz_d mm_101 10 (.iload_n 1) 1 11 := ⟨by decide +kernel, rfl⟩
theorem dk_101_11 : zz_d mm_101 11 (.iconst 0) 1 12 := ⟨by decide +kernel, rfl⟩
theorem dk_101_12 : zz_d mm_101 12 (.invokevirtual 40) 3 15 := ⟨by decide +kernel, rfl⟩
theorem dk_101_15 : zz_d mm_101 15 (.bipush 42) 2 17 := ⟨by decide +kernel, rfl⟩
theorem dk_101_17 : zz_d mm_101 17 (.if_icmp .ne 18) 3 20 := ⟨by decide +kernel, rfl⟩
theorem dk_101_20 : zz_d mm_101 20 (.aload_n 0) 1 21 := ⟨by decide +kernel, rfl⟩
theorem dk_101_21 : zz_d mm_101 21 (.iload_n 1) 1 22 := ⟨by decide +kernel, rfl⟩
theorem dk_101_22 : zz_d mm_101 22 (.iconst 1) 1 23 := ⟨by decide +kernel, rfl⟩
theorem dk_101_23 : zz_d mm_101 23 (.invokevirtual 40) 3 26 := ⟨by decide +kernel, rfl⟩
theorem dk_101_26 : zz_d mm_101 26 (.bipush 42) 2 28 := ⟨by decide +kernel, rfl⟩
theorem dk_101_28 : zz_d mm_101 28 (.if_icmp .ne 7) 3 31 := ⟨by decide +kernel, rfl⟩
theorem dk_101_31 : zz_d mm_101 31 (.iconst 1) 1 32 := ⟨by decide +kernel, rfl⟩
theorem dk_101_32 : zz_d mm_101 32 (.goto 4) 3 35 := ⟨by decide +kernel, rfl⟩
theorem dk_101_35 : zz_d mm_101 35 (.iconst 0) 1 36 := ⟨by decide +kernel, rfl⟩
theorem dk_101_36 : zz_d mm_101 36 .ireturn 1 37 := ⟨by decide +kernel, rfl⟩
theorem dk_102_0 : zz_d mm_102 0 (.iload_n 1) 1 1 := ⟨by decide +kernel, rfl⟩
theorem dk_102_1 : zz_d mm_102 1 (.ifCond .lt 27) 3 4 := ⟨by decide +kernel, rfl⟩
theorem dk_102_4 : zz_d mm_102 4 (.iload_n 1) 1 5 := ⟨by decide +kernel, rfl⟩
theorem dk_102_5 : zz_d mm_102 5 (.aload_n 0) 1 6 := ⟨by decide +kernel, rfl⟩
theorem dk_102_6 : zz_d mm_102 6 (.getfield 29) 3 9 := ⟨by decide +kernel, rfl⟩
theorem dk_102_9 : zz_d mm_102 9 (.if_icmp .ge 19) 3 12 := ⟨by decide +kernel, rfl⟩
theorem dk_102_12 : zz_d mm_102 12 (.aload_n 0) 1 13 := ⟨by decide +kernel, rfl⟩
theorem dk_102_13 : zz_d mm_102 13 (.getfield 19) 3 16 := ⟨by decide +kernel, rfl⟩
theorem dk_102_16 : zz_d mm_102 16 (.iload_n 1) 1 17 := ⟨by decide +kernel, rfl⟩
theorem dk_102_17 : zz_d mm_102 17 .iaload 1 18 := ⟨by decide +kernel, rfl⟩
theorem dk_102_18 : zz_d mm_102 18 (.aload_n 0) 1 19 := ⟨by decide +kernel, rfl⟩
theorem dk_102_19 : zz_d mm_102 19 (.getfield 15) 3 22 := ⟨by decide +kernel, rfl⟩
theorem dk_102_22 : zz_d mm_102 22 (.iload_n 1) 1 23 := ⟨by decide +kernel, rfl⟩
end
section
theorem dk_102_23 : zz_d mm_102 23 .iaload 1 24 := ⟨by decide +kernel, rfl⟩
theorem dk_102_24 : zz_d mm_102 24 .isub 1 25 := ⟨by decide +kernel, rfl⟩
theorem dk_102_25 : zz_d mm_102 25 (.goto 4) 3 28 := ⟨by decide +kernel, rfl⟩
theorem dk_102_28 : zz_d mm_102 28 (.iconst 0) 1 29 := ⟨by decide +kernel, rfl⟩
theorem dk_102_29 : zz_d mm_102 29 .ireturn 1 30 := ⟨by decide +kernel, rfl⟩
theorem dk_103_0 : zz_d mm_103 0 (.iload_n 1) 1 1 := ⟨by decide +kernel, rfl⟩
theorem dk_103_1 : zz_d mm_103 1 (.ifCond .lt 32) 3 4 := ⟨by decide +kernel, rfl⟩
theorem dk_103_4 : zz_d mm_103 4 (.iload_n 1) 1 5 := ⟨by decide +kernel, rfl⟩
theorem dk_103_5 : zz_d mm_103 5 (.aload_n 0) 1 6 := ⟨by decide +kernel, rfl⟩
theorem dk_103_6 : zz_d mm_103 6 (.getfield 29) 3 9 := ⟨by decide +kernel, rfl⟩
theorem dk_103_9 : zz_d mm_103 9 (.if_icmp .ge 24) 3 12 := ⟨by decide +kernel, rfl⟩
theorem dk_103_12 : zz_d mm_103 12 (.iload_n 2) 1 13 := ⟨by decide +kernel, rfl⟩
theorem dk_103_13 : zz_d mm_103 13 (.ifCond .lt 20) 3 16 := ⟨by decide +kernel, rfl⟩
theorem dk_103_16 : zz_d mm_103 16 (.iload_n 2) 1 17 := ⟨by decide +kernel, rfl⟩
theorem dk_103_17 : zz_d mm_103 17 (.aload_n 0) 1 18 := ⟨by decide +kernel, rfl⟩
theorem dk_103_18 : zz_d mm_103 18 (.getfield 19) 3 21 := ⟨by decide +kernel, rfl⟩
theorem dk_103_21 : zz_d mm_103 21 (.iload_n 1) 1 22 := ⟨by decide +kernel, rfl⟩
theorem dk_103_22 : zz_d mm_103 22 .iaload 1 23 := ⟨by decide +kernel, rfl⟩
theorem dk_103_23 : zz_d mm_103 23 (.aload_n 0) 1 24 := ⟨by decide +kernel, rfl⟩
theorem dk_103_24 : zz_d mm_103 24 (.getfield 15) 3 27 := ⟨by decide +kernel, rfl⟩
theorem dk_103_27 : zz_d mm_103 27 (.iload_n 1) 1 28 := ⟨by decide +kernel, rfl⟩
theorem dk_103_28 : zz_d mm_103 28 .iaload 1 29 := ⟨by decide +kernel, rfl⟩
theorem dk_103_29 : zz_d mm_103 29 .isub 1 30 := ⟨by decide +kernel, rfl⟩
theorem dk_103_30 : zz_d mm_103 30 (.if_icmp .lt 5) 3 33 := ⟨by decide +kernel, rfl⟩
theorem dk_103_33 : zz_d mm_103 33 (.iconst 0) 1 34 := ⟨by decide +kernel, rfl⟩
theorem dk_103_34 : zz_d mm_103 34 .ireturn 1 35 := ⟨by decide +kernel, rfl⟩
theorem dk_103_35 : zz_d mm_103 35 (.aload_n 0) 1 36 := ⟨by decide +kernel, rfl⟩
theorem dk_103_36 : zz_d mm_103 36 (.getfield 9) 3 39 := ⟨by decide +kernel, rfl⟩
theorem dk_103_39 : zz_d mm_103 39 (.aload_n 0) 1 40 := ⟨by decide +kernel, rfl⟩
theorem dk_103_40 : zz_d mm_103 40 (.getfield 15) 3 43 := ⟨by decide +kernel, rfl⟩
theorem dk_103_43 : zz_d mm_103 43 (.iload_n 1) 1 44 := ⟨by decide +kernel, rfl⟩
theorem dk_103_44 : zz_d mm_103 44 .iaload 1 45 := ⟨by decide +kernel, rfl⟩
theorem dk_103_45 : zz_d mm_103 45 (.iload_n 2) 1 46 := ⟨by decide +kernel, rfl⟩
theorem dk_103_46 : zz_d mm_103 46 .iadd 1 47 := ⟨by decide +kernel, rfl⟩
theorem dk_103_47 : zz_d mm_103 47 .caload 1 48 := ⟨by decide +kernel, rfl⟩
theorem dk_103_48 : zz_d mm_103 48 .ireturn 1 49 := ⟨by decide +kernel, rfl⟩
theorem dk_104_0 : zz_d mm_104 0 (.iconst 1) 1 1 := ⟨by decide +kernel, rfl⟩
theorem dk_104_1 : zz_d mm_104 1 (.istore_n 1) 1 2 := ⟨by decide +kernel, rfl⟩
theorem dk_104_2 : zz_d mm_104 2 (.iload_n 1) 1 3 := ⟨by decide +kernel, rfl⟩
theorem dk_104_3 : zz_d mm_104 3 (.aload_n 0) 1 4 := ⟨by decide +kernel, rfl⟩
theorem dk_104_4 : zz_d mm_104 4 .arraylength 1 5 := ⟨by decide +kernel, rfl⟩
theorem dk_104_5 : zz_d mm_104 5 (.if_icmp .ge 31) 3 8 := ⟨by decide +kernel, rfl⟩
theorem dk_104_8 : zz_d mm_104 8 (.aload_n 0) 1 9 := ⟨by decide +kernel, rfl⟩
theorem dk_104_9 : zz_d mm_104 9 (.iload_n 1) 1 10 := ⟨by decide +kernel, rfl⟩
theorem dk_104_10 : zz_d mm_104 10 (.aload_n 0) 1 11 := ⟨by decide +kernel, rfl⟩
theorem dk_104_11 : zz_d mm_104 11 (.iload_n 1) 1 12 := ⟨by decide +kernel, rfl⟩
theorem dk_104_12 : zz_d mm_104 12 .baload 1 13 := ⟨by decide +kernel, rfl⟩
theorem dk_104_13 : zz_d mm_104 13 (.ifCond .ne 11) 3 16 := ⟨by decide +kernel, rfl⟩
theorem dk_104_16 : zz_d mm_104 16 (.aload_n 0) 1 17 := ⟨by decide +kernel, rfl⟩
theorem dk_104_17 : zz_d mm_104 17 (.iload_n 1) 1 18 := ⟨by decide +kernel, rfl⟩
theorem dk_104_18 : zz_d mm_104 18 (.iconst 1) 1 19 := ⟨by decide +kernel, rfl⟩
theorem dk_104_19 : zz_d mm_104 19 .isub 1 20 := ⟨by decide +kernel, rfl⟩
theorem dk_104_20 : zz_d mm_104 20 .baload 1 21 := ⟨by decide +kernel, rfl⟩
theorem dk_104_21 : zz_d mm_104 21 (.ifCond .eq 7) 3 24 := ⟨by decide +kernel, rfl⟩
theorem dk_104_24 : zz_d mm_104 24 (.iconst 1) 1 25 := ⟨by decide +kernel, rfl⟩
theorem dk_104_25 : zz_d mm_104 25 (.goto 4) 3 28 := ⟨by decide +kernel, rfl⟩
theorem dk_104_28 : zz_d mm_104 28 (.iconst 0) 1 29 := ⟨by decide +kernel, rfl⟩
theorem dk_104_29 : zz_d mm_104 29 .bastore 1 30 := ⟨by decide +kernel, rfl⟩
theorem dk_104_30 : zz_d mm_104 30 (.iinc 1 1) 3 33 := ⟨by decide +kernel, rfl⟩
theorem dk_104_33 : zz_d mm_104 33 (.goto (-31)) 3 36 := ⟨by decide +kernel, rfl⟩
theorem dk_104_36 : zz_d mm_104 36 .return_ 1 37 := ⟨by decide +kernel, rfl⟩
theorem dk_105_0 : zz_d mm_105 0 (.aload_n 3) 1 1 := ⟨by decide +kernel, rfl⟩
theorem dk_105_1 : zz_d mm_105 1 (.getfield 22) 3 4 := ⟨by decide +kernel, rfl⟩
theorem dk_105_4 : zz_d mm_105 4 (.istore 4) 2 6 := ⟨by decide +kernel, rfl⟩
theorem dk_105_6 : zz_d mm_105 6 (.iload 4) 2 8 := ⟨by decide +kernel, rfl⟩
theorem dk_105_8 : zz_d mm_105 8 (.ifCond .le 47) 3 11 := ⟨by decide +kernel, rfl⟩
theorem dk_105_11 : zz_d mm_105 11 (.aload_n 0) 1 12 := ⟨by decide +kernel, rfl⟩
theorem dk_105_12 : zz_d mm_105 12 (.getfield 9) 3 15 := ⟨by decide +kernel, rfl⟩
theorem dk_105_15 : zz_d mm_105 15 (.iload 4) 2 17 := ⟨by decide +kernel, rfl⟩
theorem dk_105_17 : zz_d mm_105 17 (.aload_n 0) 1 18 := ⟨by decide +kernel, rfl⟩
theorem dk_105_18 : zz_d mm_105 18 (.getfield 9) 3 21 := ⟨by decide +kernel, rfl⟩
theorem dk_105_21 : zz_d mm_105 21 (.iload 4) 2 23 := ⟨by decide +kernel, rfl⟩
theorem dk_105_23 : zz_d mm_105 23 (.iconst 1) 1 24 := ⟨by decide +kernel, rfl⟩
theorem dk_105_24 : zz_d mm_105 24 .isub 1 25 := ⟨by decide +kernel, rfl⟩
theorem dk_105_25 : zz_d mm_105 25 .baload 1 26 := ⟨by decide +kernel, rfl⟩
theorem dk_105_26 : zz_d mm_105 26 (.ifCond .eq 21) 3 29 := ⟨by decide +kernel, rfl⟩
theorem dk_105_29 : zz_d mm_105 29 (.aload_n 0) 1 30 := ⟨by decide +kernel, rfl⟩
theorem dk_105_30 : zz_d mm_105 30 (.aload_n 1) 1 31 := ⟨by decide +kernel, rfl⟩
theorem dk_105_31 : zz_d mm_105 31 (.iload_n 2) 1 32 := ⟨by decide +kernel, rfl⟩
theorem dk_105_32 : zz_d mm_105 32 (.aload_n 3) 1 33 := ⟨by decide +kernel, rfl⟩
theorem dk_105_33 : zz_d mm_105 33 (.iload 4) 2 35 := ⟨by decide +kernel, rfl⟩
theorem dk_105_35 : zz_d mm_105 35 (.iconst 1) 1 36 := ⟨by decide +kernel, rfl⟩
theorem dk_105_36 : zz_d mm_105 36 .isub 1 37 := ⟨by decide +kernel, rfl⟩
theorem dk_105_37 : zz_d mm_105 37 (.invokevirtual 39) 3 40 := ⟨by decide +kernel, rfl⟩
theorem dk_105_40 : zz_d mm_105 40 (.ifCond .eq 7) 3 43 := ⟨by decide +kernel, rfl⟩
theorem dk_105_43 : zz_d mm_105 43 (.iconst 1) 1 44 := ⟨by decide +kernel, rfl⟩
theorem dk_105_44 : zz_d mm_105 44 (.goto 4) 3 47 := ⟨by decide +kernel, rfl⟩
theorem dk_105_47 : zz_d mm_105 47 (.iconst 0) 1 48 := ⟨by decide +kernel, rfl⟩
theorem dk_105_48 : zz_d mm_105 48 .bastore 1 49 := ⟨by decide +kernel, rfl⟩
theorem dk_105_49 : zz_d mm_105 49 (.iinc 4 (-1)) 3 52 := ⟨by decide +kernel, rfl⟩
theorem dk_105_52 : zz_d mm_105 52 (.goto (-46)) 3 55 := ⟨by decide +kernel, rfl⟩
theorem dk_105_55 : zz_d mm_105 55 (.aload_n 0) 1 56 := ⟨by decide +kernel, rfl⟩
theorem dk_105_56 : zz_d mm_105 56 (.getfield 9) 3 59 := ⟨by decide +kernel, rfl⟩
theorem dk_105_59 : zz_d mm_105 59 (.iconst 0) 1 60 := ⟨by decide +kernel, rfl⟩
theorem dk_105_60 : zz_d mm_105 60 (.iconst 0) 1 61 := ⟨by decide +kernel, rfl⟩
theorem dk_105_61 : zz_d mm_105 61 .bastore 1 62 := ⟨by decide +kernel, rfl⟩
theorem dk_105_62 : zz_d mm_105 62 .return_ 1 63 := ⟨by decide +kernel, rfl⟩
theorem dk_106_0 : zz_d mm_106 0 (.aload_n 3) 1 1 := ⟨by decide +kernel, rfl⟩
theorem dk_106_1 : zz_d mm_106 1 (.iload 4) 2 3 := ⟨by decide +kernel, rfl⟩
theorem dk_106_3 : zz_d mm_106 3 (.invokevirtual 43) 3 6 := ⟨by decide +kernel, rfl⟩
theorem dk_106_6 : zz_d mm_106 6 (.istore 5) 2 8 := ⟨by decide +kernel, rfl⟩
theorem dk_106_8 : zz_d mm_106 8 (.aload_n 0) 1 9 := ⟨by decide +kernel, rfl⟩
theorem dk_106_9 : zz_d mm_106 9 (.getfield 15) 3 12 := ⟨by decide +kernel, rfl⟩
theorem dk_106_12 : zz_d mm_106 12 (.invokestatic 18) 3 15 := ⟨by decide +kernel, rfl⟩
theorem dk_106_15 : zz_d mm_106 15 (.iconst 0) 1 16 := ⟨by decide +kernel, rfl⟩
theorem dk_106_16 : zz_d mm_106 16 (.istore 6) 2 18 := ⟨by decide +kernel, rfl⟩
theorem dk_106_18 : zz_d mm_106 18 (.iload 6) 2 20 := ⟨by decide +kernel, rfl⟩
theorem dk_106_20 : zz_d mm_106 20 (.aload_n 1) 1 21 := ⟨by decide +kernel, rfl⟩
theorem dk_106_21 : zz_d mm_106 21 (.iload_n 2) 1 22 := ⟨by decide +kernel, rfl⟩
theorem dk_106_22 : zz_d mm_106 22 (.invokevirtual 43) 3 25 := ⟨by decide +kernel, rfl⟩
theorem dk_106_25 : zz_d mm_106 25 (.if_icmp .ge 103) 3 28 := ⟨by decide +kernel, rfl⟩
theorem dk_106_28 : zz_d mm_106 28 (.aload_n 1) 1 29 := ⟨by decide +kernel, rfl⟩
theorem dk_106_29 : zz_d mm_106 29 (.iload_n 2) 1 30 := ⟨by decide +kernel, rfl⟩
theorem dk_106_30 : zz_d mm_106 30 (.iload 6) 2 32 := ⟨by decide +kernel, rfl⟩
theorem dk_106_32 : zz_d mm_106 32 (.invokevirtual 47) 3 35 := ⟨by decide +kernel, rfl⟩
theorem dk_106_35 : zz_d mm_106 35 (.istore 7) 2 37 := ⟨by decide +kernel, rfl⟩
theorem dk_106_37 : zz_d mm_106 37 (.iload 7) 2 39 := ⟨by decide +kernel, rfl⟩
theorem dk_106_39 : zz_d mm_106 39 (.bipush 42) 2 41 := ⟨by decide +kernel, rfl⟩
theorem dk_106_41 : zz_d mm_106 41 (.if_icmp .ne 13) 3 44 := ⟨by decide +kernel, rfl⟩
theorem dk_106_44 : zz_d mm_106 44 (.aload_n 0) 1 45 := ⟨by decide +kernel, rfl⟩
theorem dk_106_45 : zz_d mm_106 45 (.getfield 15) 3 48 := ⟨by decide +kernel, rfl⟩
theorem dk_106_48 : zz_d mm_106 48 (.invokestatic 32) 3 51 := ⟨by decide +kernel, rfl⟩
theorem dk_106_51 : zz_d mm_106 51 (.goto 71) 3 54 := ⟨by decide +kernel, rfl⟩
theorem dk_106_54 : zz_d mm_106 54 (.iload 5) 2 56 := ⟨by decide +kernel, rfl⟩
theorem dk_106_56 : zz_d mm_106 56 (.istore 8) 2 58 := ⟨by decide +kernel, rfl⟩
theorem dk_106_58 : zz_d mm_106 58 (.iload 8) 2 60 := ⟨by decide +kernel, rfl⟩
theorem dk_106_60 : zz_d mm_106 60 (.ifCond .le 55) 3 63 := ⟨by decide +kernel, rfl⟩
theorem dk_106_63 : zz_d mm_106 63 (.aload_n 0) 1 64 := ⟨by decide +kernel, rfl⟩
theorem dk_106_64 : zz_d mm_106 64 (.getfield 15) 3 67 := ⟨by decide +kernel, rfl⟩
theorem dk_106_67 : zz_d mm_106 67 (.iload 8) 2 69 := ⟨by decide +kernel, rfl⟩
theorem dk_106_69 : zz_d mm_106 69 (.aload_n 0) 1 70 := ⟨by decide +kernel, rfl⟩
theorem dk_106_70 : zz_d mm_106 70 (.getfield 15) 3 73 := ⟨by decide +kernel, rfl⟩
theorem dk_106_73 : zz_d mm_106 73 (.iload 8) 2 75 := ⟨by decide +kernel, rfl⟩
theorem dk_106_75 : zz_d mm_106 75 (.iconst 1) 1 76 := ⟨by decide +kernel, rfl⟩
theorem dk_106_76 : zz_d mm_106 76 .isub 1 77 := ⟨by decide +kernel, rfl⟩
theorem dk_106_77 : zz_d mm_106 77 .baload 1 78 := ⟨by decide +kernel, rfl⟩
theorem dk_106_78 : zz_d mm_106 78 (.ifCond .eq 29) 3 81 := ⟨by decide +kernel, rfl⟩
theorem dk_106_81 : zz_d mm_106 81 (.iload 7) 2 83 := ⟨by decide +kernel, rfl⟩
theorem dk_106_83 : zz_d mm_106 83 (.bipush 63) 2 85 := ⟨by decide +kernel, rfl⟩
theorem dk_106_85 : zz_d mm_106 85 (.if_icmp .eq 18) 3 88 := ⟨by decide +kernel, rfl⟩
theorem dk_106_88 : zz_d mm_106 88 (.iload 7) 2 90 := ⟨by decide +kernel, rfl⟩
theorem dk_106_90 : zz_d mm_106 90 (.aload_n 3) 1 91 := ⟨by decide +kernel, rfl⟩
theorem dk_106_91 : zz_d mm_106 91 (.iload 4) 2 93 := ⟨by decide +kernel, rfl⟩
theorem dk_106_93 : zz_d mm_106 93 (.iload 8) 2 95 := ⟨by decide +kernel, rfl⟩
theorem dk_106_95 : zz_d mm_106 95 (.iconst 1) 1 96 := ⟨by decide +kernel, rfl⟩
theorem dk_106_96 : zz_d mm_106 96 .isub 1 97 := ⟨by decide +kernel, rfl⟩
theorem dk_106_97 : zz_d mm_106 97 (.invokevirtual 47) 3 100 := ⟨by decide +kernel, rfl⟩
theorem dk_106_100 : zz_d mm_106 100 (.if_icmp .ne 7) 3 103 := ⟨by decide +kernel, rfl⟩
theorem dk_106_103 : zz_d mm_106 103 (.iconst 1) 1 104 := ⟨by decide +kernel, rfl⟩
theorem dk_106_104 : zz_d mm_106 104 (.goto 4) 3 107 := ⟨by decide +kernel, rfl⟩
theorem dk_106_107 : zz_d mm_106 107 (.iconst 0) 1 108 := ⟨by decide +kernel, rfl⟩
theorem dk_106_108 : zz_d mm_106 108 .bastore 1 109 := ⟨by decide +kernel, rfl⟩
theorem dk_106_109 : zz_d mm_106 109 (.iinc 8 (-1)) 3 112 := ⟨by decide +kernel, rfl⟩
theorem dk_106_112 : zz_d mm_106 112 (.goto (-54)) 3 115 := ⟨by decide +kernel, rfl⟩
theorem dk_106_115 : zz_d mm_106 115 (.aload_n 0) 1 116 := ⟨by decide +kernel, rfl⟩
theorem dk_106_116 : zz_d mm_106 116 (.getfield 15) 3 119 := ⟨by decide +kernel, rfl⟩
theorem dk_106_119 : zz_d mm_106 119 (.iconst 0) 1 120 := ⟨by decide +kernel, rfl⟩
theorem dk_106_120 : zz_d mm_106 120 (.iconst 0) 1 121 := ⟨by decide +kernel, rfl⟩
theorem dk_106_121 : zz_d mm_106 121 .bastore 1 122 := ⟨by decide +kernel, rfl⟩
theorem dk_106_122 : zz_d mm_106 122 (.iinc 6 1) 3 125 := ⟨by decide +kernel, rfl⟩
theorem dk_106_125 : zz_d mm_106 125 (.goto (-107)) 3 128 := ⟨by decide +kernel, rfl⟩
theorem dk_106_128 : zz_d mm_106 128 (.aload_n 0) 1 129 := ⟨by decide +kernel, rfl⟩
theorem dk_106_129 : zz_d mm_106 129 (.getfield 15) 3 132 := ⟨by decide +kernel, rfl⟩
theorem dk_106_132 : zz_d mm_106 132 (.iload 5) 2 134 := ⟨by decide +kernel, rfl⟩
theorem dk_106_134 : zz_d mm_106 134 .baload 1 135 := ⟨by decide +kernel, rfl⟩
theorem dk_106_135 : zz_d mm_106 135 .ireturn 1 136 := ⟨by decide +kernel, rfl⟩
theorem dk_107_0 : zz_d mm_107 0 (.iload_n 2) 1 1 := ⟨by decide +kernel, rfl⟩
theorem dk_107_1 : zz_d mm_107 1 (.bipush 8) 2 3 := ⟨by decide +kernel, rfl⟩
theorem dk_107_3 : zz_d mm_107 3 (.if_icmp .lt 10) 3 6 := ⟨by decide +kernel, rfl⟩
theorem dk_107_6 : zz_d mm_107 6 (.iload_n 2) 1 7 := ⟨by decide +kernel, rfl⟩
theorem dk_107_7 : zz_d mm_107 7 (.bipush 8) 2 9 := ⟨by decide +kernel, rfl⟩
theorem dk_107_9 : zz_d mm_107 9 .isub 1 10 := ⟨by decide +kernel, rfl⟩
theorem dk_107_10 : zz_d mm_107 10 (.goto 4) 3 13 := ⟨by decide +kernel, rfl⟩
theorem dk_107_13 : zz_d mm_107 13 (.iload_n 2) 1 14 := ⟨by decide +kernel, rfl⟩
theorem dk_107_14 : zz_d mm_107 14 (.istore 4) 2 16 := ⟨by decide +kernel, rfl⟩
theorem dk_107_16 : zz_d mm_107 16 (.aload_n 0) 1 17 := ⟨by decide +kernel, rfl⟩
theorem dk_107_17 : zz_d mm_107 17 (.iload 4) 2 19 := ⟨by decide +kernel, rfl⟩
theorem dk_107_19 : zz_d mm_107 19 (.invokevirtual 141) 3 22 := ⟨by decide +kernel, rfl⟩
theorem dk_107_22 : zz_d mm_107 22 (.ifCond .eq 28) 3 25 := ⟨by decide +kernel, rfl⟩
theorem dk_107_25 : zz_d mm_107 25 (.aload_n 0) 1 26 := ⟨by decide +kernel, rfl⟩
theorem dk_107_26 : zz_d mm_107 26 (.getfield 40) 3 29 := ⟨by decide +kernel, rfl⟩
theorem dk_107_29 : zz_d mm_107 29 (.aload_n 0) 1 30 := ⟨by decide +kernel, rfl⟩
theorem dk_107_30 : zz_d mm_107 30 (.getfield 51) 3 33 := ⟨by decide +kernel, rfl⟩
theorem dk_107_33 : zz_d mm_107 33 (.iload 4) 2 35 := ⟨by decide +kernel, rfl⟩
theorem dk_107_35 : zz_d mm_107 35 (.invokevirtual 129) 3 38 := ⟨by decide +kernel, rfl⟩
theorem dk_107_38 : zz_d mm_107 38 (.checkcast 104) 3 41 := ⟨by decide +kernel, rfl⟩
theorem dk_107_41 : zz_d mm_107 41 (.getfield 282) 3 44 := ⟨by decide +kernel, rfl⟩
theorem dk_107_44 : zz_d mm_107 44 (.invokevirtual 285) 3 47 := ⟨by decide +kernel, rfl⟩
theorem dk_107_47 : zz_d mm_107 47 (.goto 4) 3 50 := ⟨by decide +kernel, rfl⟩
theorem dk_107_50 : zz_d mm_107 50 (.iconst 0) 1 51 := ⟨by decide +kernel, rfl⟩
theorem dk_107_51 : zz_d mm_107 51 (.istore 5) 2 53 := ⟨by decide +kernel, rfl⟩
theorem dk_107_53 : zz_d mm_107 53 (.aload_n 0) 1 54 := ⟨by decide +kernel, rfl⟩
theorem dk_107_54 : zz_d mm_107 54 (.getfield 33) 3 57 := ⟨by decide +kernel, rfl⟩
theorem dk_107_57 : zz_d mm_107 57 (.iload_n 1) 1 58 := ⟨by decide +kernel, rfl⟩
theorem dk_107_58 : zz_d mm_107 58 (.iload_n 2) 1 59 := ⟨by decide +kernel, rfl⟩
theorem dk_107_59 : zz_d mm_107 59 (.iload 5) 2 61 := ⟨by decide +kernel, rfl⟩
theorem dk_107_61 : zz_d mm_107 61 (.iload_n 3) 1 62 := ⟨by decide +kernel, rfl⟩
theorem dk_107_62 : zz_d mm_107 62 (.invokevirtual 288) 3 65 := ⟨by decide +kernel, rfl⟩
theorem dk_107_65 : zz_d mm_107 65 .ireturn 1 66 := ⟨by decide +kernel, rfl⟩
theorem dk_108_0 : zz_d mm_108 0 (.iconst 0) 1 1 := ⟨by decide +kernel, rfl⟩
theorem dk_108_1 : zz_d mm_108 1 (.istore_n 2) 1 2 := ⟨by decide +kernel, rfl⟩
theorem dk_108_2 : zz_d mm_108 2 (.iconst 0) 1 3 := ⟨by decide +kernel, rfl⟩
theorem dk_108_3 : zz_d mm_108 3 (.istore_n 3) 1 4 := ⟨by decide +kernel, rfl⟩
theorem dk_108_4 : zz_d mm_108 4 (.iload_n 3) 1 5 := ⟨by decide +kernel, rfl⟩
theorem dk_108_5 : zz_d mm_108 5 (.bipush 8) 2 7 := ⟨by decide +kernel, rfl⟩
theorem dk_108_7 : zz_d mm_108 7 (.if_icmp .ge 26) 3 10 := ⟨by decide +kernel, rfl⟩
theorem dk_108_10 : zz_d mm_108 10 (.iload_n 1) 1 11 := ⟨by decide +kernel, rfl⟩
theorem dk_108_11 : zz_d mm_108 11 (.iload_n 3) 1 12 := ⟨by decide +kernel, rfl⟩
theorem dk_108_12 : zz_d mm_108 12 (.invokestatic 19) 3 15 := ⟨by decide +kernel, rfl⟩
theorem dk_108_15 : zz_d mm_108 15 (.ifCond .eq 12) 3 18 := ⟨by decide +kernel, rfl⟩
theorem dk_108_18 : zz_d mm_108 18 (.iload_n 2) 1 19 := ⟨by decide +kernel, rfl⟩
theorem dk_108_19 : zz_d mm_108 19 (.aload_n 0) 1 20 := ⟨by decide +kernel, rfl⟩
theorem dk_108_20 : zz_d mm_108 20 (.getfield 9) 3 23 := ⟨by decide +kernel, rfl⟩
theorem dk_108_23 : zz_d mm_108 23 (.iload_n 3) 1 24 := ⟨by decide +kernel, rfl⟩
theorem dk_108_24 : zz_d mm_108 24 .iaload 1 25 := ⟨by decide +kernel, rfl⟩
theorem dk_108_25 : zz_d mm_108 25 .ior 1 26 := ⟨by decide +kernel, rfl⟩
theorem dk_108_26 : zz_d mm_108 26 (.istore_n 2) 1 27 := ⟨by decide +kernel, rfl⟩
theorem dk_108_27 : zz_d mm_108 27 (.iinc 3 1) 3 30 := ⟨by decide +kernel, rfl⟩
theorem dk_108_30 : zz_d mm_108 30 (.goto (-26)) 3 33 := ⟨by decide +kernel, rfl⟩
theorem dk_108_33 : zz_d mm_108 33 (.iload_n 2) 1 34 := ⟨by decide +kernel, rfl⟩
theorem dk_108_34 : zz_d mm_108 34 .ireturn 1 35 := ⟨by decide +kernel, rfl⟩
theorem dk_109_0 : zz_d mm_109 0 (.aload_n 0) 1 1 := ⟨by decide +kernel, rfl⟩
theorem dk_109_1 : zz_d mm_109 1 (.iload_n 1) 1 2 := ⟨by decide +kernel, rfl⟩
theorem dk_109_2 : zz_d mm_109 2 (.invokevirtual 38) 3 5 := ⟨by decide +kernel, rfl⟩
theorem dk_109_5 : zz_d mm_109 5 (.ifCond .ne 5) 3 8 := ⟨by decide +kernel, rfl⟩
theorem dk_109_8 : zz_d mm_109 8 (.iconst 0) 1 9 := ⟨by decide +kernel, rfl⟩
theorem dk_109_9 : zz_d mm_109 9 .ireturn 1 10 := ⟨by decide +kernel, rfl⟩
theorem dk_109_10 : zz_d mm_109 10 (.iconst 0) 1 11 := ⟨by decide +kernel, rfl⟩
theorem dk_109_11 : zz_d mm_109 11 (.istore 5) 2 13 := ⟨by decide +kernel, rfl⟩
theorem dk_109_13 : zz_d mm_109 13 (.iload 5) 2 15 := ⟨by decide +kernel, rfl⟩
theorem dk_109_15 : zz_d mm_109 15 (.iload_n 1) 1 16 := ⟨by decide +kernel, rfl⟩
theorem dk_109_16 : zz_d mm_109 16 (.if_icmp .gt 81) 3 19 := ⟨by decide +kernel, rfl⟩
theorem dk_109_19 : zz_d mm_109 19 (.aload_n 0) 1 20 := ⟨by decide +kernel, rfl⟩
theorem dk_109_20 : zz_d mm_109 20 (.getfield 9) 3 23 := ⟨by decide +kernel, rfl⟩
theorem dk_109_23 : zz_d mm_109 23 (.iload 5) 2 25 := ⟨by decide +kernel, rfl⟩
theorem dk_109_25 : zz_d mm_109 25 .iaload 1 26 := ⟨by decide +kernel, rfl⟩
theorem dk_109_26 : zz_d mm_109 26 (.iconst 4) 1 27 := ⟨by decide +kernel, rfl⟩
theorem dk_109_27 : zz_d mm_109 27 (.if_icmp .eq 26) 3 30 := ⟨by decide +kernel, rfl⟩
theorem dk_109_30 : zz_d mm_109 30 (.aload_n 0) 1 31 := ⟨by decide +kernel, rfl⟩
theorem dk_109_31 : zz_d mm_109 31 (.getfield 9) 3 34 := ⟨by decide +kernel, rfl⟩
theorem dk_109_34 : zz_d mm_109 34 (.iload 5) 2 36 := ⟨by decide +kernel, rfl⟩
theorem dk_109_36 : zz_d mm_109 36 .iaload 1 37 := ⟨by decide +kernel, rfl⟩
theorem dk_109_37 : zz_d mm_109 37 (.iconst 5) 1 38 := ⟨by decide +kernel, rfl⟩
theorem dk_109_38 : zz_d mm_109 38 (.if_icmp .eq 15) 3 41 := ⟨by decide +kernel, rfl⟩
theorem dk_109_41 : zz_d mm_109 41 (.aload_n 0) 1 42 := ⟨by decide +kernel, rfl⟩
theorem dk_109_42 : zz_d mm_109 42 (.getfield 9) 3 45 := ⟨by decide +kernel, rfl⟩
theorem dk_109_45 : zz_d mm_109 45 (.iload 5) 2 47 := ⟨by decide +kernel, rfl⟩
theorem dk_109_47 : zz_d mm_109 47 .iaload 1 48 := ⟨by decide +kernel, rfl⟩
theorem dk_109_48 : zz_d mm_109 48 (.bipush 6) 2 50 := ⟨by decide +kernel, rfl⟩
theorem dk_109_50 : zz_d mm_109 50 (.if_icmp .ne 7) 3 53 := ⟨by decide +kernel, rfl⟩
theorem dk_109_53 : zz_d mm_109 53 (.iconst 1) 1 54 := ⟨by decide +kernel, rfl⟩
theorem dk_109_54 : zz_d mm_109 54 (.goto 4) 3 57 := ⟨by decide +kernel, rfl⟩
theorem dk_109_57 : zz_d mm_109 57 (.iconst 0) 1 58 := ⟨by decide +kernel, rfl⟩
theorem dk_109_58 : zz_d mm_109 58 (.istore 6) 2 60 := ⟨by decide +kernel, rfl⟩
theorem dk_109_60 : zz_d mm_109 60 (.aload_n 0) 1 61 := ⟨by decide +kernel, rfl⟩
theorem dk_109_61 : zz_d mm_109 61 (.getfield 21) 3 64 := ⟨by decide +kernel, rfl⟩
theorem dk_109_64 : zz_d mm_109 64 (.iload 5) 2 66 := ⟨by decide +kernel, rfl⟩
theorem dk_109_66 : zz_d mm_109 66 (.iload 6) 2 68 := ⟨by decide +kernel, rfl⟩
theorem dk_109_68 : zz_d mm_109 68 (.ifCond .eq 12) 3 71 := ⟨by decide +kernel, rfl⟩
theorem dk_109_71 : zz_d mm_109 71 (.aload_n 0) 1 72 := ⟨by decide +kernel, rfl⟩
theorem dk_109_72 : zz_d mm_109 72 (.iload 5) 2 74 := ⟨by decide +kernel, rfl⟩
theorem dk_109_74 : zz_d mm_109 74 (.invokevirtual 41) 3 77 := ⟨by decide +kernel, rfl⟩
theorem dk_109_77 : zz_d mm_109 77 (.goto 13) 3 80 := ⟨by decide +kernel, rfl⟩
theorem dk_109_80 : zz_d mm_109 80 (.aload_n 0) 1 81 := ⟨by decide +kernel, rfl⟩
theorem dk_109_81 : zz_d mm_109 81 (.iload 5) 2 83 := ⟨by decide +kernel, rfl⟩
theorem dk_109_83 : zz_d mm_109 83 (.iload_n 2) 1 84 := ⟨by decide +kernel, rfl⟩
theorem dk_109_84 : zz_d mm_109 84 (.iload_n 3) 1 85 := ⟨by decide +kernel, rfl⟩
theorem dk_109_85 : zz_d mm_109 85 (.iload 4) 2 87 := ⟨by decide +kernel, rfl⟩
theorem dk_109_87 : zz_d mm_109 87 (.invokevirtual 45) 3 90 := ⟨by decide +kernel, rfl⟩
theorem dk_109_90 : zz_d mm_109 90 .iastore 1 91 := ⟨by decide +kernel, rfl⟩
theorem dk_109_91 : zz_d mm_109 91 (.iinc 5 1) 3 94 := ⟨by decide +kernel, rfl⟩
theorem dk_109_94 : zz_d mm_109 94 (.goto (-81)) 3 97 := ⟨by decide +kernel, rfl⟩
theorem dk_109_97 : zz_d mm_109 97 (.aload_n 0) 1 98 := ⟨by decide +kernel, rfl⟩
theorem dk_109_98 : zz_d mm_109 98 (.getfield 21) 3 101 := ⟨by decide +kernel, rfl⟩
theorem dk_109_101 : zz_d mm_109 101 (.iload_n 1) 1 102 := ⟨by decide +kernel, rfl⟩
theorem dk_109_102 : zz_d mm_109 102 .iaload 1 103 := ⟨by decide +kernel, rfl⟩
theorem dk_109_103 : zz_d mm_109 103 (.iconst 1) 1 104 := ⟨by decide +kernel, rfl⟩
theorem dk_109_104 : zz_d mm_109 104 (.if_icmp .ne 7) 3 107 := ⟨by decide +kernel, rfl⟩
theorem dk_109_107 : zz_d mm_109 107 (.iconst 1) 1 108 := ⟨by decide +kernel, rfl⟩
theorem dk_109_108 : zz_d mm_109 108 (.goto 4) 3 111 := ⟨by decide +kernel, rfl⟩
theorem dk_109_111 : zz_d mm_109 111 (.iconst 0) 1 112 := ⟨by decide +kernel, rfl⟩
theorem dk_109_112 : zz_d mm_109 112 .ireturn 1 113 := ⟨by decide +kernel, rfl⟩
theorem dk_110_0 : zz_d mm_110 0 (.aload_n 0) 1 1 := ⟨by decide +kernel, rfl⟩
theorem dk_110_1 : zz_d mm_110 1 (.getfield 21) 3 4 := ⟨by decide +kernel, rfl⟩
theorem dk_110_4 : zz_d mm_110 4 (.aload_n 0) 1 5 := ⟨by decide +kernel, rfl⟩
theorem dk_110_5 : zz_d mm_110 5 (.getfield 15) 3 8 := ⟨by decide +kernel, rfl⟩
theorem dk_110_8 : zz_d mm_110 8 (.iload_n 1) 1 9 := ⟨by decide +kernel, rfl⟩
theorem dk_110_9 : zz_d mm_110 9 .iaload 1 10 := ⟨by decide +kernel, rfl⟩
theorem dk_110_10 : zz_d mm_110 10 .iaload 1 11 := ⟨by decide +kernel, rfl⟩
theorem dk_110_11 : zz_d mm_110 11 (.istore_n 2) 1 12 := ⟨by decide +kernel, rfl⟩
theorem dk_110_12 : zz_d mm_110 12 (.iload_n 2) 1 13 := ⟨by decide +kernel, rfl⟩
theorem dk_110_13 : zz_d mm_110 13 (.iconst 2) 1 14 := ⟨by decide +kernel, rfl⟩
theorem dk_110_14 : zz_d mm_110 14 (.if_icmp .ne 5) 3 17 := ⟨by decide +kernel, rfl⟩
theorem dk_110_17 : zz_d mm_110 17 (.iconst 2) 1 18 := ⟨by decide +kernel, rfl⟩
theorem dk_110_18 : zz_d mm_110 18 .ireturn 1 19 := ⟨by decide +kernel, rfl⟩
theorem dk_110_19 : zz_d mm_110 19 (.aload_n 0) 1 20 := ⟨by decide +kernel, rfl⟩
theorem dk_110_20 : zz_d mm_110 20 (.getfield 9) 3 23 := ⟨by decide +kernel, rfl⟩
theorem dk_110_23 : zz_d mm_110 23 (.iload_n 1) 1 24 := ⟨by decide +kernel, rfl⟩
theorem dk_110_24 : zz_d mm_110 24 .iaload 1 25 := ⟨by decide +kernel, rfl⟩
theorem dk_110_25 : zz_d mm_110 25 (.iconst 4) 1 26 := ⟨by decide +kernel, rfl⟩
theorem dk_110_26 : zz_d mm_110 26 (.if_icmp .ne 16) 3 29 := ⟨by decide +kernel, rfl⟩
theorem dk_110_29 : zz_d mm_110 29 (.iload_n 2) 1 30 := ⟨by decide +kernel, rfl⟩
theorem dk_110_30 : zz_d mm_110 30 (.ifCond .ne 7) 3 33 := ⟨by decide +kernel, rfl⟩
theorem dk_110_33 : zz_d mm_110 33 (.iconst 1) 1 34 := ⟨by decide +kernel, rfl⟩
theorem dk_110_34 : zz_d mm_110 34 (.goto 4) 3 37 := ⟨by decide +kernel, rfl⟩
theorem dk_110_37 : zz_d mm_110 37 (.iconst 0) 1 38 := ⟨by decide +kernel, rfl⟩
theorem dk_110_38 : zz_d mm_110 38 (.invokestatic 49) 3 41 := ⟨by decide +kernel, rfl⟩
theorem dk_110_41 : zz_d mm_110 41 .ireturn 1 42 := ⟨by decide +kernel, rfl⟩
theorem dk_110_42 : zz_d mm_110 42 (.aload_n 0) 1 43 := ⟨by decide +kernel, rfl⟩
theorem dk_110_43 : zz_d mm_110 43 (.getfield 9) 3 46 := ⟨by decide +kernel, rfl⟩
theorem dk_110_46 : zz_d mm_110 46 (.iload_n 1) 1 47 := ⟨by decide +kernel, rfl⟩
theorem dk_110_47 : zz_d mm_110 47 .iaload 1 48 := ⟨by decide +kernel, rfl⟩
theorem dk_110_48 : zz_d mm_110 48 (.iconst 5) 1 49 := ⟨by decide +kernel, rfl⟩
theorem dk_110_49 : zz_d mm_110 49 (.if_icmp .ne 7) 3 52 := ⟨by decide +kernel, rfl⟩
theorem dk_110_52 : zz_d mm_110 52 (.iconst 0) 1 53 := ⟨by decide +kernel, rfl⟩
theorem dk_110_53 : zz_d mm_110 53 (.goto 4) 3 56 := ⟨by decide +kernel, rfl⟩
theorem dk_110_56 : zz_d mm_110 56 (.iconst 1) 1 57 := ⟨by decide +kernel, rfl⟩
theorem dk_110_57 : zz_d mm_110 57 (.istore_n 3) 1 58 := ⟨by decide +kernel, rfl⟩
theorem dk_110_58 : zz_d mm_110 58 (.iload_n 2) 1 59 := ⟨by decide +kernel, rfl⟩
theorem dk_110_59 : zz_d mm_110 59 (.iload_n 3) 1 60 := ⟨by decide +kernel, rfl⟩
theorem dk_110_60 : zz_d mm_110 60 (.if_icmp .ne 7) 3 63 := ⟨by decide +kernel, rfl⟩
theorem dk_110_63 : zz_d mm_110 63 (.iload_n 2) 1 64 := ⟨by decide +kernel, rfl⟩
theorem dk_110_64 : zz_d mm_110 64 (.goto 14) 3 67 := ⟨by decide +kernel, rfl⟩
theorem dk_110_67 : zz_d mm_110 67 (.aload_n 0) 1 68 := ⟨by decide +kernel, rfl⟩
theorem dk_110_68 : zz_d mm_110 68 (.getfield 21) 3 71 := ⟨by decide +kernel, rfl⟩
theorem dk_110_71 : zz_d mm_110 71 (.aload_n 0) 1 72 := ⟨by decide +kernel, rfl⟩
theorem dk_110_72 : zz_d mm_110 72 (.getfield 18) 3 75 := ⟨by decide +kernel, rfl⟩
theorem dk_110_75 : zz_d mm_110 75 (.iload_n 1) 1 76 := ⟨by decide +kernel, rfl⟩
theorem dk_110_76 : zz_d mm_110 76 .iaload 1 77 := ⟨by decide +kernel, rfl⟩
theorem dk_110_77 : zz_d mm_110 77 .iaload 1 78 := ⟨by decide +kernel, rfl⟩
theorem dk_110_78 : zz_d mm_110 78 .ireturn 1 79 := ⟨by decide +kernel, rfl⟩
theorem dk_111_0 : zz_d mm_111 0 (.iload_n 0) 1 1 := ⟨by decide +kernel, rfl⟩
theorem dk_111_1 : zz_d mm_111 1 (.ifCond .eq 7) 3 4 := ⟨by decide +kernel, rfl⟩
theorem dk_111_4 : zz_d mm_111 4 (.iconst 1) 1 5 := ⟨by decide +kernel, rfl⟩
theorem dk_111_5 : zz_d mm_111 5 (.goto 4) 3 8 := ⟨by decide +kernel, rfl⟩
theorem dk_111_8 : zz_d mm_111 8 (.iconst 0) 1 9 := ⟨by decide +kernel, rfl⟩
theorem dk_111_9 : zz_d mm_111 9 .ireturn 1 10 := ⟨by decide +kernel, rfl⟩
theorem dk_112_0 : zz_d mm_112 0 (.iload_n 2) 1 1 := ⟨by decide +kernel, rfl⟩
theorem dk_112_1 : zz_d mm_112 1 (.iconst (-1)) 1 2 := ⟨by decide +kernel, rfl⟩
theorem dk_112_2 : zz_d mm_112 2 (.if_icmp .eq 7) 3 5 := ⟨by decide +kernel, rfl⟩
theorem dk_112_5 : zz_d mm_112 5 (.iconst 1) 1 6 := ⟨by decide +kernel, rfl⟩
theorem dk_112_6 : zz_d mm_112 6 (.goto 4) 3 9 := ⟨by decide +kernel, rfl⟩
theorem dk_112_9 : zz_d mm_112 9 (.iconst 0) 1 10 := ⟨by decide +kernel, rfl⟩
theorem dk_112_10 : zz_d mm_112 10 (.istore 5) 2 12 := ⟨by decide +kernel, rfl⟩
theorem dk_112_12 : zz_d mm_112 12 (.iload_n 2) 1 13 := ⟨by decide +kernel, rfl⟩
theorem dk_112_13 : zz_d mm_112 13 (.bipush 8) 2 15 := ⟨by decide +kernel, rfl⟩
theorem dk_112_15 : zz_d mm_112 15 (.if_icmp .lt 7) 3 18 := ⟨by decide +kernel, rfl⟩
theorem dk_112_18 : zz_d mm_112 18 (.iconst 1) 1 19 := ⟨by decide +kernel, rfl⟩
theorem dk_112_19 : zz_d mm_112 19 (.goto 4) 3 22 := ⟨by decide +kernel, rfl⟩
theorem dk_112_22 : zz_d mm_112 22 (.iconst 0) 1 23 := ⟨by decide +kernel, rfl⟩
theorem dk_112_23 : zz_d mm_112 23 (.istore 6) 2 25 := ⟨by decide +kernel, rfl⟩
theorem dk_112_25 : zz_d mm_112 25 (.aload_n 0) 1 26 := ⟨by decide +kernel, rfl⟩
theorem dk_112_26 : zz_d mm_112 26 (.getfield 9) 3 29 := ⟨by decide +kernel, rfl⟩
theorem dk_112_29 : zz_d mm_112 29 (.iload_n 1) 1 30 := ⟨by decide +kernel, rfl⟩
theorem dk_112_30 : zz_d mm_112 30 .iaload 1 31 := ⟨by decide +kernel, rfl⟩
theorem dk_112_31 : zz_d mm_112 31 (.tableswitch 189 1 9 #[49, 55, 74, 189, 189, 189, 101, 133, 153]) 49 80 := ⟨by decide +kernel, rfl⟩
theorem dk_112_80 : zz_d mm_112 80 (.iload 5) 2 82 := ⟨by decide +kernel, rfl⟩
theorem dk_112_82 : zz_d mm_112 82 (.invokestatic 49) 3 85 := ⟨by decide +kernel, rfl⟩
theorem dk_112_85 : zz_d mm_112 85 .ireturn 1 86 := ⟨by decide +kernel, rfl⟩
theorem dk_112_86 : zz_d mm_112 86 (.iload 5) 2 88 := ⟨by decide +kernel, rfl⟩
theorem dk_112_88 : zz_d mm_112 88 (.ifCond .eq 12) 3 91 := ⟨by decide +kernel, rfl⟩
theorem dk_112_91 : zz_d mm_112 91 (.iload 6) 2 93 := ⟨by decide +kernel, rfl⟩
theorem dk_112_93 : zz_d mm_112 93 (.ifCond .ne 7) 3 96 := ⟨by decide +kernel, rfl⟩
theorem dk_112_96 : zz_d mm_112 96 (.iconst 1) 1 97 := ⟨by decide +kernel, rfl⟩
theorem dk_112_97 : zz_d mm_112 97 (.goto 4) 3 100 := ⟨by decide +kernel, rfl⟩
theorem dk_112_100 : zz_d mm_112 100 (.iconst 0) 1 101 := ⟨by decide +kernel, rfl⟩
theorem dk_112_101 : zz_d mm_112 101 (.invokestatic 49) 3 104 := ⟨by decide +kernel, rfl⟩
theorem dk_112_104 : zz_d mm_112 104 .ireturn 1 105 := ⟨by decide +kernel, rfl⟩
theorem dk_112_105 : zz_d mm_112 105 (.iload 5) 2 107 := ⟨by decide +kernel, rfl⟩
theorem dk_112_107 : zz_d mm_112 107 (.ifCond .eq 20) 3 110 := ⟨by decide +kernel, rfl⟩
theorem dk_112_110 : zz_d mm_112 110 (.iload_n 3) 1 111 := ⟨by decide +kernel, rfl⟩
theorem dk_112_111 : zz_d mm_112 111 (.aload_n 0) 1 112 := ⟨by decide +kernel, rfl⟩
theorem dk_112_112 : zz_d mm_112 112 (.getfield 15) 3 115 := ⟨by decide +kernel, rfl⟩
theorem dk_112_115 : zz_d mm_112 115 (.iload_n 1) 1 116 := ⟨by decide +kernel, rfl⟩
theorem dk_112_116 : zz_d mm_112 116 .iaload 1 117 := ⟨by decide +kernel, rfl⟩
theorem dk_112_117 : zz_d mm_112 117 (.invokestatic 53) 3 120 := ⟨by decide +kernel, rfl⟩
theorem dk_112_120 : zz_d mm_112 120 (.ifCond .eq 7) 3 123 := ⟨by decide +kernel, rfl⟩
theorem dk_112_123 : zz_d mm_112 123 (.iconst 1) 1 124 := ⟨by decide +kernel, rfl⟩
theorem dk_112_124 : zz_d mm_112 124 (.goto 4) 3 127 := ⟨by decide +kernel, rfl⟩
theorem dk_112_127 : zz_d mm_112 127 (.iconst 0) 1 128 := ⟨by decide +kernel, rfl⟩
theorem dk_112_128 : zz_d mm_112 128 (.invokestatic 49) 3 131 := ⟨by decide +kernel, rfl⟩
theorem dk_112_131 : zz_d mm_112 131 .ireturn 1 132 := ⟨by decide +kernel, rfl⟩
theorem dk_112_132 : zz_d mm_112 132 (.iload 5) 2 134 := ⟨by decide +kernel, rfl⟩
theorem dk_112_134 : zz_d mm_112 134 (.ifCond .eq 25) 3 137 := ⟨by decide +kernel, rfl⟩
theorem dk_112_137 : zz_d mm_112 137 (.iload 4) 2 139 := ⟨by decide +kernel, rfl⟩
theorem dk_112_139 : zz_d mm_112 139 (.iload 6) 2 141 := ⟨by decide +kernel, rfl⟩
theorem dk_112_141 : zz_d mm_112 141 (.ifCond .eq 10) 3 144 := ⟨by decide +kernel, rfl⟩
theorem dk_112_144 : zz_d mm_112 144 (.iload_n 2) 1 145 := ⟨by decide +kernel, rfl⟩
theorem dk_112_145 : zz_d mm_112 145 (.bipush 8) 2 147 := ⟨by decide +kernel, rfl⟩
theorem dk_112_147 : zz_d mm_112 147 .isub 1 148 := ⟨by decide +kernel, rfl⟩
theorem dk_112_148 : zz_d mm_112 148 (.goto 4) 3 151 := ⟨by decide +kernel, rfl⟩
theorem dk_112_151 : zz_d mm_112 151 (.iload_n 2) 1 152 := ⟨by decide +kernel, rfl⟩
theorem dk_112_152 : zz_d mm_112 152 (.if_icmp .ne 7) 3 155 := ⟨by decide +kernel, rfl⟩
theorem dk_112_155 : zz_d mm_112 155 (.iconst 1) 1 156 := ⟨by decide +kernel, rfl⟩
theorem dk_112_156 : zz_d mm_112 156 (.goto 4) 3 159 := ⟨by decide +kernel, rfl⟩
theorem dk_112_159 : zz_d mm_112 159 (.iconst 0) 1 160 := ⟨by decide +kernel, rfl⟩
theorem dk_112_160 : zz_d mm_112 160 (.invokestatic 49) 3 163 := ⟨by decide +kernel, rfl⟩
theorem dk_112_163 : zz_d mm_112 163 .ireturn 1 164 := ⟨by decide +kernel, rfl⟩
theorem dk_112_164 : zz_d mm_112 164 (.iload 4) 2 166 := ⟨by decide +kernel, rfl⟩
theorem dk_112_166 : zz_d mm_112 166 (.aload_n 0) 1 167 := ⟨by decide +kernel, rfl⟩
theorem dk_112_167 : zz_d mm_112 167 (.getfield 15) 3 170 := ⟨by decide +kernel, rfl⟩
theorem dk_112_170 : zz_d mm_112 170 (.iload_n 1) 1 171 := ⟨by decide +kernel, rfl⟩
theorem dk_112_171 : zz_d mm_112 171 .iaload 1 172 := ⟨by decide +kernel, rfl⟩
theorem dk_112_172 : zz_d mm_112 172 (.if_icmp .ge 7) 3 175 := ⟨by decide +kernel, rfl⟩
theorem dk_112_175 : zz_d mm_112 175 (.iconst 1) 1 176 := ⟨by decide +kernel, rfl⟩
theorem dk_112_176 : zz_d mm_112 176 (.goto 4) 3 179 := ⟨by decide +kernel, rfl⟩
theorem dk_112_179 : zz_d mm_112 179 (.iconst 0) 1 180 := ⟨by decide +kernel, rfl⟩
theorem dk_112_180 : zz_d mm_112 180 (.invokestatic 49) 3 183 := ⟨by decide +kernel, rfl⟩
theorem dk_112_183 : zz_d mm_112 183 .ireturn 1 184 := ⟨by decide +kernel, rfl⟩
theorem dk_112_184 : zz_d mm_112 184 (.iload 4) 2 186 := ⟨by decide +kernel, rfl⟩
theorem dk_112_186 : zz_d mm_112 186 (.ifCond .ne 7) 3 189 := ⟨by decide +kernel, rfl⟩
theorem dk_112_189 : zz_d mm_112 189 (.iconst 2) 1 190 := ⟨by decide +kernel, rfl⟩
theorem dk_112_190 : zz_d mm_112 190 (.goto 29) 3 193 := ⟨by decide +kernel, rfl⟩
theorem dk_112_193 : zz_d mm_112 193 (.aload_n 0) 1 194 := ⟨by decide +kernel, rfl⟩
theorem dk_112_194 : zz_d mm_112 194 (.getfield 18) 3 197 := ⟨by decide +kernel, rfl⟩
theorem dk_112_197 : zz_d mm_112 197 (.iload_n 1) 1 198 := ⟨by decide +kernel, rfl⟩
theorem dk_112_198 : zz_d mm_112 198 .iaload 1 199 := ⟨by decide +kernel, rfl⟩
theorem dk_112_199 : zz_d mm_112 199 (.iload 4) 2 201 := ⟨by decide +kernel, rfl⟩
theorem dk_112_201 : zz_d mm_112 201 .idiv 1 202 := ⟨by decide +kernel, rfl⟩
theorem dk_112_202 : zz_d mm_112 202 (.aload_n 0) 1 203 := ⟨by decide +kernel, rfl⟩
theorem dk_112_203 : zz_d mm_112 203 (.getfield 15) 3 206 := ⟨by decide +kernel, rfl⟩
theorem dk_112_206 : zz_d mm_112 206 (.iload_n 1) 1 207 := ⟨by decide +kernel, rfl⟩
theorem dk_112_207 : zz_d mm_112 207 .iaload 1 208 := ⟨by decide +kernel, rfl⟩
theorem dk_112_208 : zz_d mm_112 208 (.if_icmp .lt 7) 3 211 := ⟨by decide +kernel, rfl⟩
theorem dk_112_211 : zz_d mm_112 211 (.iconst 1) 1 212 := ⟨by decide +kernel, rfl⟩
theorem dk_112_212 : zz_d mm_112 212 (.goto 4) 3 215 := ⟨by decide +kernel, rfl⟩
theorem dk_112_215 : zz_d mm_112 215 (.iconst 0) 1 216 := ⟨by decide +kernel, rfl⟩
theorem dk_112_216 : zz_d mm_112 216 (.invokestatic 49) 3 219 := ⟨by decide +kernel, rfl⟩
theorem dk_112_219 : zz_d mm_112 219 .ireturn 1 220 := ⟨by decide +kernel, rfl⟩
theorem dk_112_220 : zz_d mm_112 220 (.iconst 1) 1 221 := ⟨by decide +kernel, rfl⟩
theorem dk_112_221 : zz_d mm_112 221 .ireturn 1 222 := ⟨by decide +kernel, rfl⟩
theorem dk_113_0 : zz_d mm_113 0 (.iload_n 2) 1 1 := ⟨by decide +kernel, rfl⟩
theorem dk_113_1 : zz_d mm_113 1 (.invokestatic 126) 3 4 := ⟨by decide +kernel, rfl⟩
theorem dk_113_4 : zz_d mm_113 4 (.ifCond .ne 5) 3 7 := ⟨by decide +kernel, rfl⟩
theorem dk_113_7 : zz_d mm_113 7 (.iconst (-1)) 1 8 := ⟨by decide +kernel, rfl⟩
theorem dk_113_8 : zz_d mm_113 8 .ireturn 1 9 := ⟨by decide +kernel, rfl⟩
theorem dk_113_9 : zz_d mm_113 9 (.aload_n 0) 1 10 := ⟨by decide +kernel, rfl⟩
theorem dk_113_10 : zz_d mm_113 10 (.iload_n 1) 1 11 := ⟨by decide +kernel, rfl⟩
theorem dk_113_11 : zz_d mm_113 11 (.iload_n 2) 1 12 := ⟨by decide +kernel, rfl⟩
theorem dk_113_12 : zz_d mm_113 12 (.invokevirtual 207) 3 15 := ⟨by decide +kernel, rfl⟩
theorem dk_113_15 : zz_d mm_113 15 (.istore 4) 2 17 := ⟨by decide +kernel, rfl⟩
theorem dk_113_17 : zz_d mm_113 17 (.iload 4) 2 19 := ⟨by decide +kernel, rfl⟩
theorem dk_113_19 : zz_d mm_113 19 (.iconst (-1)) 1 20 := ⟨by decide +kernel, rfl⟩
theorem dk_113_20 : zz_d mm_113 20 (.if_icmp .ne 5) 3 23 := ⟨by decide +kernel, rfl⟩
theorem dk_113_23 : zz_d mm_113 23 (.iconst (-1)) 1 24 := ⟨by decide +kernel, rfl⟩
theorem dk_113_24 : zz_d mm_113 24 .ireturn 1 25 := ⟨by decide +kernel, rfl⟩
theorem dk_113_25 : zz_d mm_113 25 (.aload_n 0) 1 26 := ⟨by decide +kernel, rfl⟩
theorem dk_113_26 : zz_d mm_113 26 (.iload 4) 2 28 := ⟨by decide +kernel, rfl⟩
theorem dk_113_28 : zz_d mm_113 28 (.iload_n 2) 1 29 := ⟨by decide +kernel, rfl⟩
theorem dk_113_29 : zz_d mm_113 29 (.invokevirtual 210) 3 32 := ⟨by decide +kernel, rfl⟩
theorem dk_113_32 : zz_d mm_113 32 (.istore 5) 2 34 := ⟨by decide +kernel, rfl⟩
theorem dk_113_34 : zz_d mm_113 34 (.iload 5) 2 36 := ⟨by decide +kernel, rfl⟩
theorem dk_113_36 : zz_d mm_113 36 (.iconst (-1)) 1 37 := ⟨by decide +kernel, rfl⟩
theorem dk_113_37 : zz_d mm_113 37 (.if_icmp .ne 11) 3 40 := ⟨by decide +kernel, rfl⟩
theorem dk_113_40 : zz_d mm_113 40 (.aload_n 0) 1 41 := ⟨by decide +kernel, rfl⟩
theorem dk_113_41 : zz_d mm_113 41 (.iload_n 1) 1 42 := ⟨by decide +kernel, rfl⟩
theorem dk_113_42 : zz_d mm_113 42 (.iload_n 2) 1 43 := ⟨by decide +kernel, rfl⟩
theorem dk_113_43 : zz_d mm_113 43 (.invokevirtual 213) 3 46 := ⟨by decide +kernel, rfl⟩
theorem dk_113_46 : zz_d mm_113 46 (.istore 5) 2 48 := ⟨by decide +kernel, rfl⟩
theorem dk_113_48 : zz_d mm_113 48 (.iload 5) 2 50 := ⟨by decide +kernel, rfl⟩
theorem dk_113_50 : zz_d mm_113 50 (.iconst (-1)) 1 51 := ⟨by decide +kernel, rfl⟩
theorem dk_113_51 : zz_d mm_113 51 (.if_icmp .eq 17) 3 54 := ⟨by decide +kernel, rfl⟩
theorem dk_113_54 : zz_d mm_113 54 (.aload_n 0) 1 55 := ⟨by decide +kernel, rfl⟩
theorem dk_113_55 : zz_d mm_113 55 (.iload 5) 2 57 := ⟨by decide +kernel, rfl⟩
theorem dk_113_57 : zz_d mm_113 57 (.aload_n 0) 1 58 := ⟨by decide +kernel, rfl⟩
theorem dk_113_58 : zz_d mm_113 58 (.getfield 67) 3 61 := ⟨by decide +kernel, rfl⟩
theorem dk_113_61 : zz_d mm_113 61 (.iload_n 3) 1 62 := ⟨by decide +kernel, rfl⟩
theorem dk_113_62 : zz_d mm_113 62 (.invokevirtual 216) 3 65 := ⟨by decide +kernel, rfl⟩
theorem dk_113_65 : zz_d mm_113 65 (.ifCond .eq 15) 3 68 := ⟨by decide +kernel, rfl⟩
theorem dk_113_68 : zz_d mm_113 68 (.aload_n 0) 1 69 := ⟨by decide +kernel, rfl⟩
theorem dk_113_69 : zz_d mm_113 69 .dup 1 70 := ⟨by decide +kernel, rfl⟩
theorem dk_113_70 : zz_d mm_113 70 (.getfield 220) 3 73 := ⟨by decide +kernel, rfl⟩
theorem dk_113_73 : zz_d mm_113 73 (.iconst 1) 1 74 := ⟨by decide +kernel, rfl⟩
theorem dk_113_74 : zz_d mm_113 74 .iadd 1 75 := ⟨by decide +kernel, rfl⟩
theorem dk_113_75 : zz_d mm_113 75 (.putfield 220) 3 78 := ⟨by decide +kernel, rfl⟩
theorem dk_113_78 : zz_d mm_113 78 (.iconst 1) 1 79 := ⟨by decide +kernel, rfl⟩
theorem dk_113_79 : zz_d mm_113 79 .ireturn 1 80 := ⟨by decide +kernel, rfl⟩
theorem dk_113_80 : zz_d mm_113 80 (.aload_n 0) 1 81 := ⟨by decide +kernel, rfl⟩
theorem dk_113_81 : zz_d mm_113 81 .dup 1 82 := ⟨by decide +kernel, rfl⟩
theorem dk_113_82 : zz_d mm_113 82 (.getfield 223) 3 85 := ⟨by decide +kernel, rfl⟩
theorem dk_113_85 : zz_d mm_113 85 (.iconst 1) 1 86 := ⟨by decide +kernel, rfl⟩
theorem dk_113_86 : zz_d mm_113 86 .iadd 1 87 := ⟨by decide +kernel, rfl⟩
theorem dk_113_87 : zz_d mm_113 87 (.putfield 223) 3 90 := ⟨by decide +kernel, rfl⟩
theorem dk_113_90 : zz_d mm_113 90 (.iconst 0) 1 91 := ⟨by decide +kernel, rfl⟩
theorem dk_113_91 : zz_d mm_113 91 .ireturn 1 92 := ⟨by decide +kernel, rfl⟩
theorem dk_114_0 : zz_d mm_114 0 (.iload_n 1) 1 1 := ⟨by decide +kernel, rfl⟩
theorem dk_114_1 : zz_d mm_114 1 (.istore_n 3) 1 2 := ⟨by decide +kernel, rfl⟩
theorem dk_114_2 : zz_d mm_114 2 (.iconst 0) 1 3 := ⟨by decide +kernel, rfl⟩
theorem dk_114_3 : zz_d mm_114 3 (.istore 4) 2 5 := ⟨by decide +kernel, rfl⟩
theorem dk_114_5 : zz_d mm_114 5 (.iload 4) 2 7 := ⟨by decide +kernel, rfl⟩
theorem dk_114_7 : zz_d mm_114 7 (.bipush 6) 2 9 := ⟨by decide +kernel, rfl⟩
theorem dk_114_9 : zz_d mm_114 9 (.if_icmp .ge 47) 3 12 := ⟨by decide +kernel, rfl⟩
theorem dk_114_12 : zz_d mm_114 12 (.aload_n 0) 1 13 := ⟨by decide +kernel, rfl⟩
theorem dk_114_13 : zz_d mm_114 13 (.iload_n 3) 1 14 := ⟨by decide +kernel, rfl⟩
theorem dk_114_14 : zz_d mm_114 14 (.invokevirtual 123) 3 17 := ⟨by decide +kernel, rfl⟩
theorem dk_114_17 : zz_d mm_114 17 (.ifCond .eq 39) 3 20 := ⟨by decide +kernel, rfl⟩
theorem dk_114_20 : zz_d mm_114 20 (.aload_n 0) 1 21 := ⟨by decide +kernel, rfl⟩
theorem dk_114_21 : zz_d mm_114 21 (.getfield 54) 3 24 := ⟨by decide +kernel, rfl⟩
theorem dk_114_24 : zz_d mm_114 24 (.iload_n 3) 1 25 := ⟨by decide +kernel, rfl⟩
theorem dk_114_25 : zz_d mm_114 25 (.invokevirtual 129) 3 28 := ⟨by decide +kernel, rfl⟩
theorem dk_114_28 : zz_d mm_114 28 (.checkcast 118) 3 31 := ⟨by decide +kernel, rfl⟩
theorem dk_114_31 : zz_d mm_114 31 (.astore 5) 2 33 := ⟨by decide +kernel, rfl⟩
theorem dk_114_33 : zz_d mm_114 33 (.aload 5) 2 35 := ⟨by decide +kernel, rfl⟩
theorem dk_114_35 : zz_d mm_114 35 (.iload_n 2) 1 36 := ⟨by decide +kernel, rfl⟩
theorem dk_114_36 : zz_d mm_114 36 (.invokevirtual 292) 3 39 := ⟨by decide +kernel, rfl⟩
theorem dk_114_39 : zz_d mm_114 39 (.ifCond .eq 5) 3 42 := ⟨by decide +kernel, rfl⟩
theorem dk_114_42 : zz_d mm_114 42 (.iload_n 3) 1 43 := ⟨by decide +kernel, rfl⟩
theorem dk_114_43 : zz_d mm_114 43 .ireturn 1 44 := ⟨by decide +kernel, rfl⟩
theorem dk_114_44 : zz_d mm_114 44 (.aload 5) 2 46 := ⟨by decide +kernel, rfl⟩
theorem dk_114_46 : zz_d mm_114 46 (.getfield 295) 3 49 := ⟨by decide +kernel, rfl⟩
theorem dk_114_49 : zz_d mm_114 49 (.istore_n 3) 1 50 := ⟨by decide +kernel, rfl⟩
theorem dk_114_50 : zz_d mm_114 50 (.iinc 4 1) 3 53 := ⟨by decide +kernel, rfl⟩
theorem dk_114_53 : zz_d mm_114 53 (.goto (-48)) 3 56 := ⟨by decide +kernel, rfl⟩
theorem dk_114_56 : zz_d mm_114 56 (.iconst (-1)) 1 57 := ⟨by decide +kernel, rfl⟩
theorem dk_114_57 : zz_d mm_114 57 .ireturn 1 58 := ⟨by decide +kernel, rfl⟩
theorem dk_115_0 : zz_d mm_115 0 (.iload_n 1) 1 1 := ⟨by decide +kernel, rfl⟩
theorem dk_115_1 : zz_d mm_115 1 (.invokestatic 29) 3 4 := ⟨by decide +kernel, rfl⟩
theorem dk_115_4 : zz_d mm_115 4 (.ifCond .eq 16) 3 7 := ⟨by decide +kernel, rfl⟩
theorem dk_115_7 : zz_d mm_115 7 (.aload_n 0) 1 8 := ⟨by decide +kernel, rfl⟩
theorem dk_115_8 : zz_d mm_115 8 (.getfield 9) 3 11 := ⟨by decide +kernel, rfl⟩
theorem dk_115_11 : zz_d mm_115 11 (.iload_n 1) 1 12 := ⟨by decide +kernel, rfl⟩
theorem dk_115_12 : zz_d mm_115 12 .baload 1 13 := ⟨by decide +kernel, rfl⟩
theorem dk_115_13 : zz_d mm_115 13 (.ifCond .eq 7) 3 16 := ⟨by decide +kernel, rfl⟩
theorem dk_115_16 : zz_d mm_115 16 (.iconst 1) 1 17 := ⟨by decide +kernel, rfl⟩
theorem dk_115_17 : zz_d mm_115 17 (.goto 4) 3 20 := ⟨by decide +kernel, rfl⟩
theorem dk_115_20 : zz_d mm_115 20 (.iconst 0) 1 21 := ⟨by decide +kernel, rfl⟩
theorem dk_115_21 : zz_d mm_115 21 .ireturn 1 22 := ⟨by decide +kernel, rfl⟩
theorem dk_116_0 : zz_d mm_116 0 (.aload_n 0) 1 1 := ⟨by decide +kernel, rfl⟩
theorem dk_116_1 : zz_d mm_116 1 (.iload_n 1) 1 2 := ⟨by decide +kernel, rfl⟩
theorem dk_116_2 : zz_d mm_116 2 (.invokevirtual 123) 3 5 := ⟨by decide +kernel, rfl⟩
theorem dk_116_5 : zz_d mm_116 5 (.ifCond .eq 21) 3 8 := ⟨by decide +kernel, rfl⟩
theorem dk_116_8 : zz_d mm_116 8 (.aload_n 0) 1 9 := ⟨by decide +kernel, rfl⟩
theorem dk_116_9 : zz_d mm_116 9 (.getfield 54) 3 12 := ⟨by decide +kernel, rfl⟩
theorem dk_116_12 : zz_d mm_116 12 (.iload_n 1) 1 13 := ⟨by decide +kernel, rfl⟩
theorem dk_116_13 : zz_d mm_116 13 (.invokevirtual 129) 3 16 := ⟨by decide +kernel, rfl⟩
theorem dk_116_16 : zz_d mm_116 16 (.checkcast 118) 3 19 := ⟨by decide +kernel, rfl⟩
theorem dk_116_19 : zz_d mm_116 19 (.iload_n 2) 1 20 := ⟨by decide +kernel, rfl⟩
theorem dk_116_20 : zz_d mm_116 20 (.invokevirtual 301) 3 23 := ⟨by decide +kernel, rfl⟩
theorem dk_116_23 : zz_d mm_116 23 (.goto 4) 3 26 := ⟨by decide +kernel, rfl⟩
theorem dk_116_26 : zz_d mm_116 26 (.iconst (-1)) 1 27 := ⟨by decide +kernel, rfl⟩
theorem dk_116_27 : zz_d mm_116 27 .ireturn 1 28 := ⟨by decide +kernel, rfl⟩
theorem dk_117_0 : zz_d mm_117 0 (.aload_n 0) 1 1 := ⟨by decide +kernel, rfl⟩
theorem dk_117_1 : zz_d mm_117 1 (.iload_n 1) 1 2 := ⟨by decide +kernel, rfl⟩
theorem dk_117_2 : zz_d mm_117 2 (.invokevirtual 33) 3 5 := ⟨by decide +kernel, rfl⟩
theorem dk_117_5 : zz_d mm_117 5 (.ifCond .ne 5) 3 8 := ⟨by decide +kernel, rfl⟩
theorem dk_117_8 : zz_d mm_117 8 (.iconst (-1)) 1 9 := ⟨by decide +kernel, rfl⟩
theorem dk_117_9 : zz_d mm_117 9 .ireturn 1 10 := ⟨by decide +kernel, rfl⟩
theorem dk_117_10 : zz_d mm_117 10 (.aload_n 0) 1 11 := ⟨by decide +kernel, rfl⟩
theorem dk_117_11 : zz_d mm_117 11 (.getfield 15) 3 14 := ⟨by decide +kernel, rfl⟩
theorem dk_117_14 : zz_d mm_117 14 (.iload_n 1) 1 15 := ⟨by decide +kernel, rfl⟩
theorem dk_117_15 : zz_d mm_117 15 .iaload 1 16 := ⟨by decide +kernel, rfl⟩
theorem dk_117_16 : zz_d mm_117 16 (.iconst (-1)) 1 17 := ⟨by decide +kernel, rfl⟩
theorem dk_117_17 : zz_d mm_117 17 (.if_icmp .eq 12) 3 20 := ⟨by decide +kernel, rfl⟩
theorem dk_117_20 : zz_d mm_117 20 (.aload_n 0) 1 21 := ⟨by decide +kernel, rfl⟩
theorem dk_117_21 : zz_d mm_117 21 (.getfield 15) 3 24 := ⟨by decide +kernel, rfl⟩
theorem dk_117_24 : zz_d mm_117 24 (.iload_n 1) 1 25 := ⟨by decide +kernel, rfl⟩
theorem dk_117_25 : zz_d mm_117 25 .iaload 1 26 := ⟨by decide +kernel, rfl⟩
theorem dk_117_26 : zz_d mm_117 26 (.goto 7) 3 29 := ⟨by decide +kernel, rfl⟩
theorem dk_117_29 : zz_d mm_117 29 (.aload_n 0) 1 30 := ⟨by decide +kernel, rfl⟩
theorem dk_117_30 : zz_d mm_117 30 (.getfield 26) 3 33 := ⟨by decide +kernel, rfl⟩
theorem dk_117_33 : zz_d mm_117 33 .ireturn 1 34 := ⟨by decide +kernel, rfl⟩
theorem dk_118_0 : zz_d mm_118 0 (.iload_n 1) 1 1 := ⟨by decide +kernel, rfl⟩
theorem dk_118_1 : zz_d mm_118 1 (.istore_n 3) 1 2 := ⟨by decide +kernel, rfl⟩
theorem dk_118_2 : zz_d mm_118 2 (.iconst 0) 1 3 := ⟨by decide +kernel, rfl⟩
theorem dk_118_3 : zz_d mm_118 3 (.istore 4) 2 5 := ⟨by decide +kernel, rfl⟩
theorem dk_118_5 : zz_d mm_118 5 (.iload 4) 2 7 := ⟨by decide +kernel, rfl⟩
theorem dk_118_7 : zz_d mm_118 7 (.bipush 6) 2 9 := ⟨by decide +kernel, rfl⟩
theorem dk_118_9 : zz_d mm_118 9 (.if_icmp .ge 57) 3 12 := ⟨by decide +kernel, rfl⟩
theorem dk_118_12 : zz_d mm_118 12 (.aload_n 0) 1 13 := ⟨by decide +kernel, rfl⟩
theorem dk_118_13 : zz_d mm_118 13 (.iload_n 3) 1 14 := ⟨by decide +kernel, rfl⟩
theorem dk_118_14 : zz_d mm_118 14 (.invokevirtual 123) 3 17 := ⟨by decide +kernel, rfl⟩
theorem dk_118_17 : zz_d mm_118 17 (.ifCond .eq 49) 3 20 := ⟨by decide +kernel, rfl⟩
theorem dk_118_20 : zz_d mm_118 20 (.aload_n 0) 1 21 := ⟨by decide +kernel, rfl⟩
theorem dk_118_21 : zz_d mm_118 21 (.getfield 54) 3 24 := ⟨by decide +kernel, rfl⟩
theorem dk_118_24 : zz_d mm_118 24 (.iload_n 3) 1 25 := ⟨by decide +kernel, rfl⟩
theorem dk_118_25 : zz_d mm_118 25 (.invokevirtual 129) 3 28 := ⟨by decide +kernel, rfl⟩
theorem dk_118_28 : zz_d mm_118 28 (.checkcast 118) 3 31 := ⟨by decide +kernel, rfl⟩
theorem dk_118_31 : zz_d mm_118 31 (.astore 5) 2 33 := ⟨by decide +kernel, rfl⟩
theorem dk_118_33 : zz_d mm_118 33 (.aload_n 0) 1 34 := ⟨by decide +kernel, rfl⟩
theorem dk_118_34 : zz_d mm_118 34 (.aload 5) 2 36 := ⟨by decide +kernel, rfl⟩
theorem dk_118_36 : zz_d mm_118 36 (.getfield 298) 3 39 := ⟨by decide +kernel, rfl⟩
theorem dk_118_39 : zz_d mm_118 39 (.iload_n 2) 1 40 := ⟨by decide +kernel, rfl⟩
theorem dk_118_40 : zz_d mm_118 40 (.invokevirtual 210) 3 43 := ⟨by decide +kernel, rfl⟩
theorem dk_118_43 : zz_d mm_118 43 (.istore 6) 2 45 := ⟨by decide +kernel, rfl⟩
theorem dk_118_45 : zz_d mm_118 45 (.iload 6) 2 47 := ⟨by decide +kernel, rfl⟩
theorem dk_118_47 : zz_d mm_118 47 (.iconst (-1)) 1 48 := ⟨by decide +kernel, rfl⟩
theorem dk_118_48 : zz_d mm_118 48 (.if_icmp .eq 6) 3 51 := ⟨by decide +kernel, rfl⟩
theorem dk_118_51 : zz_d mm_118 51 (.iload 6) 2 53 := ⟨by decide +kernel, rfl⟩
theorem dk_118_53 : zz_d mm_118 53 .ireturn 1 54 := ⟨by decide +kernel, rfl⟩
theorem dk_118_54 : zz_d mm_118 54 (.aload 5) 2 56 := ⟨by decide +kernel, rfl⟩
theorem dk_118_56 : zz_d mm_118 56 (.getfield 295) 3 59 := ⟨by decide +kernel, rfl⟩
theorem dk_118_59 : zz_d mm_118 59 (.istore_n 3) 1 60 := ⟨by decide +kernel, rfl⟩
theorem dk_118_60 : zz_d mm_118 60 (.iinc 4 1) 3 63 := ⟨by decide +kernel, rfl⟩
theorem dk_118_63 : zz_d mm_118 63 (.goto (-58)) 3 66 := ⟨by decide +kernel, rfl⟩
theorem dk_118_66 : zz_d mm_118 66 (.iconst (-1)) 1 67 := ⟨by decide +kernel, rfl⟩
theorem dk_118_67 : zz_d mm_118 67 .ireturn 1 68 := ⟨by decide +kernel, rfl⟩
theorem dk_119_0 : zz_d mm_119 0 (.aload_n 0) 1 1 := ⟨by decide +kernel, rfl⟩
theorem dk_119_1 : zz_d mm_119 1 (.getfield 186) 3 4 := ⟨by decide +kernel, rfl⟩
theorem dk_119_4 : zz_d mm_119 4 (.ifCond .ne 5) 3 7 := ⟨by decide +kernel, rfl⟩
theorem dk_119_7 : zz_d mm_119 7 (.iconst 0) 1 8 := ⟨by decide +kernel, rfl⟩
theorem dk_119_8 : zz_d mm_119 8 .ireturn 1 9 := ⟨by decide +kernel, rfl⟩
theorem dk_119_9 : zz_d mm_119 9 (.aload_n 0) 1 10 := ⟨by decide +kernel, rfl⟩
theorem dk_119_10 : zz_d mm_119 10 (.iconst 0) 1 11 := ⟨by decide +kernel, rfl⟩
theorem dk_119_11 : zz_d mm_119 11 (.putfield 186) 3 14 := ⟨by decide +kernel, rfl⟩
theorem dk_119_14 : zz_d mm_119 14 (.aload_n 0) 1 15 := ⟨by decide +kernel, rfl⟩
theorem dk_119_15 : zz_d mm_119 15 (.iconst (-1)) 1 16 := ⟨by decide +kernel, rfl⟩
theorem dk_119_16 : zz_d mm_119 16 (.putfield 67) 3 19 := ⟨by decide +kernel, rfl⟩
theorem dk_119_19 : zz_d mm_119 19 (.iconst 1) 1 20 := ⟨by decide +kernel, rfl⟩
theorem dk_119_20 : zz_d mm_119 20 .ireturn 1 21 := ⟨by decide +kernel, rfl⟩
theorem dk_120_0 : zz_d mm_120 0 (.aload_n 0) 1 1 := ⟨by decide +kernel, rfl⟩
theorem dk_120_1 : zz_d mm_120 1 (.getfield 67) 3 4 := ⟨by decide +kernel, rfl⟩
theorem dk_120_4 : zz_d mm_120 4 .ireturn 1 5 := ⟨by decide +kernel, rfl⟩
theorem dk_121_0 : zz_d mm_121 0 (.iload_n 1) 1 1 := ⟨by decide +kernel, rfl⟩
theorem dk_121_1 : zz_d mm_121 1 (.ifCond .lt 14) 3 4 := ⟨by decide +kernel, rfl⟩
theorem dk_121_4 : zz_d mm_121 4 (.iload_n 1) 1 5 := ⟨by decide +kernel, rfl⟩
theorem dk_121_5 : zz_d mm_121 5 (.aload_n 0) 1 6 := ⟨by decide +kernel, rfl⟩
theorem dk_121_6 : zz_d mm_121 6 (.getfield 47) 3 9 := ⟨by decide +kernel, rfl⟩
theorem dk_121_9 : zz_d mm_121 9 (.invokevirtual 82) 3 12 := ⟨by decide +kernel, rfl⟩
theorem dk_121_12 : zz_d mm_121 12 (.if_icmp .lt 5) 3 15 := ⟨by decide +kernel, rfl⟩
theorem dk_121_15 : zz_d mm_121 15 (.iconst (-1)) 1 16 := ⟨by decide +kernel, rfl⟩
theorem dk_121_16 : zz_d mm_121 16 .ireturn 1 17 := ⟨by decide +kernel, rfl⟩
theorem dk_121_17 : zz_d mm_121 17 (.aload_n 0) 1 18 := ⟨by decide +kernel, rfl⟩
theorem dk_121_18 : zz_d mm_121 18 (.getfield 19) 3 21 := ⟨by decide +kernel, rfl⟩
theorem dk_121_21 : zz_d mm_121 21 (.aload_n 0) 1 22 := ⟨by decide +kernel, rfl⟩
theorem dk_121_22 : zz_d mm_121 22 (.getfield 12) 3 25 := ⟨by decide +kernel, rfl⟩
theorem dk_121_25 : zz_d mm_121 25 (.invokevirtual 190) 3 28 := ⟨by decide +kernel, rfl⟩
theorem dk_121_28 : zz_d mm_121 28 (.ifCond .ne 6) 3 31 := ⟨by decide +kernel, rfl⟩
theorem dk_121_31 : zz_d mm_121 31 (.bipush (-2)) 2 33 := ⟨by decide +kernel, rfl⟩
theorem dk_121_33 : zz_d mm_121 33 .ireturn 1 34 := ⟨by decide +kernel, rfl⟩
theorem dk_121_34 : zz_d mm_121 34 (.aload_n 0) 1 35 := ⟨by decide +kernel, rfl⟩
theorem dk_121_35 : zz_d mm_121 35 (.getfield 26) 3 38 := ⟨by decide +kernel, rfl⟩
theorem dk_121_38 : zz_d mm_121 38 (.aload_n 0) 1 39 := ⟨by decide +kernel, rfl⟩
theorem dk_121_39 : zz_d mm_121 39 (.getfield 47) 3 42 := ⟨by decide +kernel, rfl⟩
theorem dk_121_42 : zz_d mm_121 42 (.iload_n 1) 1 43 := ⟨by decide +kernel, rfl⟩
theorem dk_121_43 : zz_d mm_121 43 (.invokevirtual 129) 3 46 := ⟨by decide +kernel, rfl⟩
theorem dk_121_46 : zz_d mm_121 46 (.checkcast 90) 3 49 := ⟨by decide +kernel, rfl⟩
theorem dk_121_49 : zz_d mm_121 49 (.getfield 226) 3 52 := ⟨by decide +kernel, rfl⟩
theorem dk_121_52 : zz_d mm_121 52 (.aload_n 0) 1 53 := ⟨by decide +kernel, rfl⟩
theorem dk_121_53 : zz_d mm_121 53 (.getfield 19) 3 56 := ⟨by decide +kernel, rfl⟩
theorem dk_121_56 : zz_d mm_121 56 (.getfield 230) 3 59 := ⟨by decide +kernel, rfl⟩
theorem dk_121_59 : zz_d mm_121 59 (.invokevirtual 233) 3 62 := ⟨by decide +kernel, rfl⟩
theorem dk_121_62 : zz_d mm_121 62 (.ifCond .eq 7) 3 65 := ⟨by decide +kernel, rfl⟩
theorem dk_121_65 : zz_d mm_121 65 (.iconst 1) 1 66 := ⟨by decide +kernel, rfl⟩
theorem dk_121_66 : zz_d mm_121 66 (.goto 4) 3 69 := ⟨by decide +kernel, rfl⟩
theorem dk_121_69 : zz_d mm_121 69 (.iconst 0) 1 70 := ⟨by decide +kernel, rfl⟩
theorem dk_121_70 : zz_d mm_121 70 .ireturn 1 71 := ⟨by decide +kernel, rfl⟩
theorem dk_122_0 : zz_d mm_122 0 (.aload_n 0) 1 1 := ⟨by decide +kernel, rfl⟩
theorem dk_122_1 : zz_d mm_122 1 (.getfield 60) 3 4 := ⟨by decide +kernel, rfl⟩
theorem dk_122_4 : zz_d mm_122 4 (.iload_n 1) 1 5 := ⟨by decide +kernel, rfl⟩
theorem dk_122_5 : zz_d mm_122 5 (.iload_n 2) 1 6 := ⟨by decide +kernel, rfl⟩
theorem dk_122_6 : zz_d mm_122 6 (.invokevirtual 237) 3 9 := ⟨by decide +kernel, rfl⟩
theorem dk_122_9 : zz_d mm_122 9 (.astore 4) 2 11 := ⟨by decide +kernel, rfl⟩
theorem dk_122_11 : zz_d mm_122 11 (.aload 4) 2 13 := ⟨by decide +kernel, rfl⟩
theorem dk_122_13 : zz_d mm_122 13 (.ifnonnull 5) 3 16 := ⟨by decide +kernel, rfl⟩
theorem dk_122_16 : zz_d mm_122 16 (.iconst (-1)) 1 17 := ⟨by decide +kernel, rfl⟩
theorem dk_122_17 : zz_d mm_122 17 .ireturn 1 18 := ⟨by decide +kernel, rfl⟩
theorem dk_122_18 : zz_d mm_122 18 (.iload_n 3) 1 19 := ⟨by decide +kernel, rfl⟩
theorem dk_122_19 : zz_d mm_122 19 (.tableswitch 51 0 2 #[25, 31, 37]) 25 44 := ⟨by decide +kernel, rfl⟩
theorem dk_122_44 : zz_d mm_122 44 (.aload 4) 2 46 := ⟨by decide +kernel, rfl⟩
theorem dk_122_46 : zz_d mm_122 46 (.getfield 241) 3 49 := ⟨by decide +kernel, rfl⟩
theorem dk_122_49 : zz_d mm_122 49 .ireturn 1 50 := ⟨by decide +kernel, rfl⟩
theorem dk_122_50 : zz_d mm_122 50 (.aload 4) 2 52 := ⟨by decide +kernel, rfl⟩
theorem dk_122_52 : zz_d mm_122 52 (.getfield 201) 3 55 := ⟨by decide +kernel, rfl⟩
theorem dk_122_55 : zz_d mm_122 55 .ireturn 1 56 := ⟨by decide +kernel, rfl⟩
theorem dk_122_56 : zz_d mm_122 56 (.aload 4) 2 58 := ⟨by decide +kernel, rfl⟩
theorem dk_122_58 : zz_d mm_122 58 (.getfield 244) 3 61 := ⟨by decide +kernel, rfl⟩
theorem dk_122_61 : zz_d mm_122 61 (.ifCond .eq 7) 3 64 := ⟨by decide +kernel, rfl⟩
theorem dk_122_64 : zz_d mm_122 64 (.iconst 1) 1 65 := ⟨by decide +kernel, rfl⟩
theorem dk_122_65 : zz_d mm_122 65 (.goto 4) 3 68 := ⟨by decide +kernel, rfl⟩
theorem dk_122_68 : zz_d mm_122 68 (.iconst 0) 1 69 := ⟨by decide +kernel, rfl⟩
theorem dk_122_69 : zz_d mm_122 69 .ireturn 1 70 := ⟨by decide +kernel, rfl⟩
theorem dk_122_70 : zz_d mm_122 70 (.iconst (-1)) 1 71 := ⟨by decide +kernel, rfl⟩
theorem dk_122_71 : zz_d mm_122 71 .ireturn 1 72 := ⟨by decide +kernel, rfl⟩
theorem dk_123_0 : zz_d mm_123 0 (.aload_n 0) 1 1 := ⟨by decide +kernel, rfl⟩
theorem dk_123_1 : zz_d mm_123 1 (.getfield 64) 3 4 := ⟨by decide +kernel, rfl⟩
theorem dk_123_4 : zz_d mm_123 4 (.iload_n 1) 1 5 := ⟨by decide +kernel, rfl⟩
theorem dk_123_5 : zz_d mm_123 5 (.iload_n 2) 1 6 := ⟨by decide +kernel, rfl⟩
theorem dk_123_6 : zz_d mm_123 6 (.invokevirtual 237) 3 9 := ⟨by decide +kernel, rfl⟩
theorem dk_123_9 : zz_d mm_123 9 (.astore 4) 2 11 := ⟨by decide +kernel, rfl⟩
theorem dk_123_11 : zz_d mm_123 11 (.aload 4) 2 13 := ⟨by decide +kernel, rfl⟩
theorem dk_123_13 : zz_d mm_123 13 (.ifnonnull 5) 3 16 := ⟨by decide +kernel, rfl⟩
theorem dk_123_16 : zz_d mm_123 16 (.iconst (-1)) 1 17 := ⟨by decide +kernel, rfl⟩
theorem dk_123_17 : zz_d mm_123 17 .ireturn 1 18 := ⟨by decide +kernel, rfl⟩
theorem dk_123_18 : zz_d mm_123 18 (.iload_n 3) 1 19 := ⟨by decide +kernel, rfl⟩
theorem dk_123_19 : zz_d mm_123 19 (.lookupswitch 37 #[(0, 25), (1, 31)]) 25 44 := ⟨by decide +kernel, rfl⟩
theorem dk_123_44 : zz_d mm_123 44 (.aload 4) 2 46 := ⟨by decide +kernel, rfl⟩
theorem dk_123_46 : zz_d mm_123 46 (.getfield 241) 3 49 := ⟨by decide +kernel, rfl⟩
theorem dk_123_49 : zz_d mm_123 49 .ireturn 1 50 := ⟨by decide +kernel, rfl⟩
theorem dk_123_50 : zz_d mm_123 50 (.aload 4) 2 52 := ⟨by decide +kernel, rfl⟩
theorem dk_123_52 : zz_d mm_123 52 (.getfield 201) 3 55 := ⟨by decide +kernel, rfl⟩
theorem dk_123_55 : zz_d mm_123 55 .ireturn 1 56 := ⟨by decide +kernel, rfl⟩
theorem dk_123_56 : zz_d mm_123 56 (.iconst (-1)) 1 57 := ⟨by decide +kernel, rfl⟩
theorem dk_123_57 : zz_d mm_123 57 .ireturn 1 58 := ⟨by decide +kernel, rfl⟩
theorem dk_124_0 : zz_d mm_124 0 (.aload_n 0) 1 1 := ⟨by decide +kernel, rfl⟩
theorem dk_124_1 : zz_d mm_124 1 (.iload_n 1) 1 2 := ⟨by decide +kernel, rfl⟩
theorem dk_124_2 : zz_d mm_124 2 (.invokevirtual 141) 3 5 := ⟨by decide +kernel, rfl⟩
theorem dk_124_5 : zz_d mm_124 5 (.ifCond .eq 20) 3 8 := ⟨by decide +kernel, rfl⟩
theorem dk_124_8 : zz_d mm_124 8 (.aload_n 0) 1 9 := ⟨by decide +kernel, rfl⟩
theorem dk_124_9 : zz_d mm_124 9 (.getfield 51) 3 12 := ⟨by decide +kernel, rfl⟩
theorem dk_124_12 : zz_d mm_124 12 (.iload_n 1) 1 13 := ⟨by decide +kernel, rfl⟩
end
section
theorem dk_124_13 : zz_d mm_124 13 (.invokevirtual 129) 3 16 := ⟨by decide +kernel, rfl⟩
theorem dk_124_16 : zz_d mm_124 16 (.checkcast 104) 3 19 := ⟨by decide +kernel, rfl⟩
theorem dk_124_19 : zz_d mm_124 19 (.getfield 247) 3 22 := ⟨by decide +kernel, rfl⟩
theorem dk_124_22 : zz_d mm_124 22 (.goto 4) 3 25 := ⟨by decide +kernel, rfl⟩
theorem dk_124_25 : zz_d mm_124 25 (.iconst 0) 1 26 := ⟨by decide +kernel, rfl⟩
theorem dk_124_26 : zz_d mm_124 26 .ireturn 1 27 := ⟨by decide +kernel, rfl⟩
theorem dk_125_0 : zz_d mm_125 0 (.iload_n 1) 1 1 := ⟨by decide +kernel, rfl⟩
theorem dk_125_1 : zz_d mm_125 1 (.tableswitch 78 0 6 #[43, 48, 53, 58, 63, 68, 73]) 43 44 := ⟨by decide +kernel, rfl⟩
theorem dk_125_44 : zz_d mm_125 44 (.aload_n 0) 1 45 := ⟨by decide +kernel, rfl⟩
theorem dk_125_45 : zz_d mm_125 45 (.getfield 250) 3 48 := ⟨by decide +kernel, rfl⟩
theorem dk_125_48 : zz_d mm_125 48 .ireturn 1 49 := ⟨by decide +kernel, rfl⟩
theorem dk_125_49 : zz_d mm_125 49 (.aload_n 0) 1 50 := ⟨by decide +kernel, rfl⟩
theorem dk_125_50 : zz_d mm_125 50 (.getfield 220) 3 53 := ⟨by decide +kernel, rfl⟩
theorem dk_125_53 : zz_d mm_125 53 .ireturn 1 54 := ⟨by decide +kernel, rfl⟩
theorem dk_125_54 : zz_d mm_125 54 (.aload_n 0) 1 55 := ⟨by decide +kernel, rfl⟩
theorem dk_125_55 : zz_d mm_125 55 (.getfield 223) 3 58 := ⟨by decide +kernel, rfl⟩
theorem dk_125_58 : zz_d mm_125 58 .ireturn 1 59 := ⟨by decide +kernel, rfl⟩
theorem dk_125_59 : zz_d mm_125 59 (.aload_n 0) 1 60 := ⟨by decide +kernel, rfl⟩
theorem dk_125_60 : zz_d mm_125 60 (.getfield 253) 3 63 := ⟨by decide +kernel, rfl⟩
theorem dk_125_63 : zz_d mm_125 63 .ireturn 1 64 := ⟨by decide +kernel, rfl⟩
theorem dk_125_64 : zz_d mm_125 64 (.aload_n 0) 1 65 := ⟨by decide +kernel, rfl⟩
theorem dk_125_65 : zz_d mm_125 65 (.getfield 153) 3 68 := ⟨by decide +kernel, rfl⟩
theorem dk_125_68 : zz_d mm_125 68 .ireturn 1 69 := ⟨by decide +kernel, rfl⟩
theorem dk_125_69 : zz_d mm_125 69 (.aload_n 0) 1 70 := ⟨by decide +kernel, rfl⟩
theorem dk_125_70 : zz_d mm_125 70 (.getfield 256) 3 73 := ⟨by decide +kernel, rfl⟩
theorem dk_125_73 : zz_d mm_125 73 .ireturn 1 74 := ⟨by decide +kernel, rfl⟩
theorem dk_125_74 : zz_d mm_125 74 (.aload_n 0) 1 75 := ⟨by decide +kernel, rfl⟩
theorem dk_125_75 : zz_d mm_125 75 (.getfield 134) 3 78 := ⟨by decide +kernel, rfl⟩
theorem dk_125_78 : zz_d mm_125 78 .ireturn 1 79 := ⟨by decide +kernel, rfl⟩
theorem dk_125_79 : zz_d mm_125 79 (.iconst (-1)) 1 80 := ⟨by decide +kernel, rfl⟩
theorem dk_125_80 : zz_d mm_125 80 .ireturn 1 81 := ⟨by decide +kernel, rfl⟩
theorem dk_126_0 : zz_d mm_126 0 (.aload_n 0) 1 1 := ⟨by decide +kernel, rfl⟩
theorem dk_126_1 : zz_d mm_126 1 (.invokespecial 1) 3 4 := ⟨by decide +kernel, rfl⟩
theorem dk_126_4 : zz_d mm_126 4 (.aload_n 0) 1 5 := ⟨by decide +kernel, rfl⟩
theorem dk_126_5 : zz_d mm_126 5 (.bipush 8) 2 7 := ⟨by decide +kernel, rfl⟩
theorem dk_126_7 : zz_d mm_126 7 (.newarray .int) 2 9 := ⟨by decide +kernel, rfl⟩
theorem dk_126_9 : zz_d mm_126 9 (.putfield 7) 3 12 := ⟨by decide +kernel, rfl⟩
theorem dk_126_12 : zz_d mm_126 12 (.aload_n 0) 1 13 := ⟨by decide +kernel, rfl⟩
theorem dk_126_13 : zz_d mm_126 13 (.bipush 6) 2 15 := ⟨by decide +kernel, rfl⟩
theorem dk_126_15 : zz_d mm_126 15 (.newarray .int) 2 17 := ⟨by decide +kernel, rfl⟩
theorem dk_126_17 : zz_d mm_126 17 (.putfield 13) 3 20 := ⟨by decide +kernel, rfl⟩
theorem dk_126_20 : zz_d mm_126 20 (.aload_n 0) 1 21 := ⟨by decide +kernel, rfl⟩
theorem dk_126_21 : zz_d mm_126 21 (.bipush 6) 2 23 := ⟨by decide +kernel, rfl⟩
theorem dk_126_23 : zz_d mm_126 23 (.newarray .int) 2 25 := ⟨by decide +kernel, rfl⟩
theorem dk_126_25 : zz_d mm_126 25 (.putfield 16) 3 28 := ⟨by decide +kernel, rfl⟩
theorem dk_126_28 : zz_d mm_126 28 (.aload_n 0) 1 29 := ⟨by decide +kernel, rfl⟩
theorem dk_126_29 : zz_d mm_126 29 (.bipush 6) 2 31 := ⟨by decide +kernel, rfl⟩
theorem dk_126_31 : zz_d mm_126 31 (.newarray .int) 2 33 := ⟨by decide +kernel, rfl⟩
theorem dk_126_33 : zz_d mm_126 33 (.putfield 19) 3 36 := ⟨by decide +kernel, rfl⟩
theorem dk_126_36 : zz_d mm_126 36 (.aload_n 0) 1 37 := ⟨by decide +kernel, rfl⟩
theorem dk_126_37 : zz_d mm_126 37 (.bipush 6) 2 39 := ⟨by decide +kernel, rfl⟩
theorem dk_126_39 : zz_d mm_126 39 (.newarray .int) 2 41 := ⟨by decide +kernel, rfl⟩
theorem dk_126_41 : zz_d mm_126 41 (.putfield 22) 3 44 := ⟨by decide +kernel, rfl⟩
theorem dk_126_44 : zz_d mm_126 44 (.aload_n 0) 1 45 := ⟨by decide +kernel, rfl⟩
theorem dk_126_45 : zz_d mm_126 45 (.bipush 6) 2 47 := ⟨by decide +kernel, rfl⟩
theorem dk_126_47 : zz_d mm_126 47 (.newarray .int) 2 49 := ⟨by decide +kernel, rfl⟩
theorem dk_126_49 : zz_d mm_126 49 (.putfield 25) 3 52 := ⟨by decide +kernel, rfl⟩
theorem dk_126_52 : zz_d mm_126 52 (.aload_n 0) 1 53 := ⟨by decide +kernel, rfl⟩
theorem dk_126_53 : zz_d mm_126 53 (.bipush 6) 2 55 := ⟨by decide +kernel, rfl⟩
theorem dk_126_55 : zz_d mm_126 55 (.newarray .int) 2 57 := ⟨by decide +kernel, rfl⟩
theorem dk_126_57 : zz_d mm_126 57 (.putfield 28) 3 60 := ⟨by decide +kernel, rfl⟩
theorem dk_126_60 : zz_d mm_126 60 (.aload_n 0) 1 61 := ⟨by decide +kernel, rfl⟩
theorem dk_126_61 : zz_d mm_126 61 (.bipush 12) 2 63 := ⟨by decide +kernel, rfl⟩
theorem dk_126_63 : zz_d mm_126 63 (.newarray .boolean) 2 65 := ⟨by decide +kernel, rfl⟩
theorem dk_126_65 : zz_d mm_126 65 (.putfield 31) 3 68 := ⟨by decide +kernel, rfl⟩
theorem dk_126_68 : zz_d mm_126 68 (.aload_n 0) 1 69 := ⟨by decide +kernel, rfl⟩
theorem dk_126_69 : zz_d mm_126 69 (.bipush 12) 2 71 := ⟨by decide +kernel, rfl⟩
theorem dk_126_71 : zz_d mm_126 71 (.newarray .int) 2 73 := ⟨by decide +kernel, rfl⟩
theorem dk_126_73 : zz_d mm_126 73 (.putfield 35) 3 76 := ⟨by decide +kernel, rfl⟩
theorem dk_126_76 : zz_d mm_126 76 (.aload_n 0) 1 77 := ⟨by decide +kernel, rfl⟩
theorem dk_126_77 : zz_d mm_126 77 (.bipush 12) 2 79 := ⟨by decide +kernel, rfl⟩
theorem dk_126_79 : zz_d mm_126 79 (.newarray .int) 2 81 := ⟨by decide +kernel, rfl⟩
theorem dk_126_81 : zz_d mm_126 81 (.putfield 38) 3 84 := ⟨by decide +kernel, rfl⟩
theorem dk_126_84 : zz_d mm_126 84 (.aload_n 0) 1 85 := ⟨by decide +kernel, rfl⟩
theorem dk_126_85 : zz_d mm_126 85 (.bipush 12) 2 87 := ⟨by decide +kernel, rfl⟩
theorem dk_126_87 : zz_d mm_126 87 (.newarray .boolean) 2 89 := ⟨by decide +kernel, rfl⟩
theorem dk_126_89 : zz_d mm_126 89 (.putfield 41) 3 92 := ⟨by decide +kernel, rfl⟩
theorem dk_126_92 : zz_d mm_126 92 (.aload_n 0) 1 93 := ⟨by decide +kernel, rfl⟩
theorem dk_126_93 : zz_d mm_126 93 (.bipush 12) 2 95 := ⟨by decide +kernel, rfl⟩
theorem dk_126_95 : zz_d mm_126 95 (.newarray .int) 2 97 := ⟨by decide +kernel, rfl⟩
theorem dk_126_97 : zz_d mm_126 97 (.putfield 44) 3 100 := ⟨by decide +kernel, rfl⟩
theorem dk_126_100 : zz_d mm_126 100 (.aload_n 0) 1 101 := ⟨by decide +kernel, rfl⟩
theorem dk_126_101 : zz_d mm_126 101 (.bipush 12) 2 103 := ⟨by decide +kernel, rfl⟩
theorem dk_126_103 : zz_d mm_126 103 (.newarray .int) 2 105 := ⟨by decide +kernel, rfl⟩
theorem dk_126_105 : zz_d mm_126 105 (.putfield 47) 3 108 := ⟨by decide +kernel, rfl⟩
theorem dk_126_108 : zz_d mm_126 108 (.aload_n 0) 1 109 := ⟨by decide +kernel, rfl⟩
theorem dk_126_109 : zz_d mm_126 109 (.bipush 12) 2 111 := ⟨by decide +kernel, rfl⟩
theorem dk_126_111 : zz_d mm_126 111 (.newarray .boolean) 2 113 := ⟨by decide +kernel, rfl⟩
theorem dk_126_113 : zz_d mm_126 113 (.putfield 50) 3 116 := ⟨by decide +kernel, rfl⟩
theorem dk_126_116 : zz_d mm_126 116 (.aload_n 0) 1 117 := ⟨by decide +kernel, rfl⟩
theorem dk_126_117 : zz_d mm_126 117 (.bipush 12) 2 119 := ⟨by decide +kernel, rfl⟩
theorem dk_126_119 : zz_d mm_126 119 (.newarray .int) 2 121 := ⟨by decide +kernel, rfl⟩
theorem dk_126_121 : zz_d mm_126 121 (.putfield 53) 3 124 := ⟨by decide +kernel, rfl⟩
theorem dk_126_124 : zz_d mm_126 124 (.aload_n 0) 1 125 := ⟨by decide +kernel, rfl⟩
theorem dk_126_125 : zz_d mm_126 125 (.bipush 12) 2 127 := ⟨by decide +kernel, rfl⟩
theorem dk_126_127 : zz_d mm_126 127 (.newarray .int) 2 129 := ⟨by decide +kernel, rfl⟩
theorem dk_126_129 : zz_d mm_126 129 (.putfield 56) 3 132 := ⟨by decide +kernel, rfl⟩
theorem dk_126_132 : zz_d mm_126 132 (.aload_n 0) 1 133 := ⟨by decide +kernel, rfl⟩
theorem dk_126_133 : zz_d mm_126 133 (.bipush 16) 2 135 := ⟨by decide +kernel, rfl⟩
theorem dk_126_135 : zz_d mm_126 135 (.newarray .int) 2 137 := ⟨by decide +kernel, rfl⟩
theorem dk_126_137 : zz_d mm_126 137 (.putfield 59) 3 140 := ⟨by decide +kernel, rfl⟩
theorem dk_126_140 : zz_d mm_126 140 (.aload_n 0) 1 141 := ⟨by decide +kernel, rfl⟩
theorem dk_126_141 : zz_d mm_126 141 (.bipush 16) 2 143 := ⟨by decide +kernel, rfl⟩
theorem dk_126_143 : zz_d mm_126 143 (.newarray .int) 2 145 := ⟨by decide +kernel, rfl⟩
theorem dk_126_145 : zz_d mm_126 145 (.putfield 62) 3 148 := ⟨by decide +kernel, rfl⟩
theorem dk_126_148 : zz_d mm_126 148 (.aload_n 0) 1 149 := ⟨by decide +kernel, rfl⟩
theorem dk_126_149 : zz_d mm_126 149 (.bipush 16) 2 151 := ⟨by decide +kernel, rfl⟩
theorem dk_126_151 : zz_d mm_126 151 (.newarray .int) 2 153 := ⟨by decide +kernel, rfl⟩
theorem dk_126_153 : zz_d mm_126 153 (.putfield 65) 3 156 := ⟨by decide +kernel, rfl⟩
theorem dk_126_156 : zz_d mm_126 156 (.aload_n 0) 1 157 := ⟨by decide +kernel, rfl⟩
theorem dk_126_157 : zz_d mm_126 157 (.bipush 16) 2 159 := ⟨by decide +kernel, rfl⟩
theorem dk_126_159 : zz_d mm_126 159 (.newarray .int) 2 161 := ⟨by decide +kernel, rfl⟩
theorem dk_126_161 : zz_d mm_126 161 (.putfield 68) 3 164 := ⟨by decide +kernel, rfl⟩
theorem dk_126_164 : zz_d mm_126 164 (.aload_n 0) 1 165 := ⟨by decide +kernel, rfl⟩
theorem dk_126_165 : zz_d mm_126 165 (.bipush 40) 2 167 := ⟨by decide +kernel, rfl⟩
theorem dk_126_167 : zz_d mm_126 167 (.newarray .int) 2 169 := ⟨by decide +kernel, rfl⟩
theorem dk_126_169 : zz_d mm_126 169 (.putfield 71) 3 172 := ⟨by decide +kernel, rfl⟩
theorem dk_126_172 : zz_d mm_126 172 (.aload_n 0) 1 173 := ⟨by decide +kernel, rfl⟩
theorem dk_126_173 : zz_d mm_126 173 (.bipush 40) 2 175 := ⟨by decide +kernel, rfl⟩
theorem dk_126_175 : zz_d mm_126 175 (.newarray .int) 2 177 := ⟨by decide +kernel, rfl⟩
theorem dk_126_177 : zz_d mm_126 177 (.putfield 74) 3 180 := ⟨by decide +kernel, rfl⟩
theorem dk_126_180 : zz_d mm_126 180 (.aload_n 0) 1 181 := ⟨by decide +kernel, rfl⟩
theorem dk_126_181 : zz_d mm_126 181 (.bipush 41) 2 183 := ⟨by decide +kernel, rfl⟩
theorem dk_126_183 : zz_d mm_126 183 (.newarray .int) 2 185 := ⟨by decide +kernel, rfl⟩
theorem dk_126_185 : zz_d mm_126 185 (.putfield 77) 3 188 := ⟨by decide +kernel, rfl⟩
theorem dk_126_188 : zz_d mm_126 188 (.aload_n 0) 1 189 := ⟨by decide +kernel, rfl⟩
theorem dk_126_189 : zz_d mm_126 189 (.bipush 41) 2 191 := ⟨by decide +kernel, rfl⟩
theorem dk_126_191 : zz_d mm_126 191 (.newarray .int) 2 193 := ⟨by decide +kernel, rfl⟩
theorem dk_126_193 : zz_d mm_126 193 (.putfield 80) 3 196 := ⟨by decide +kernel, rfl⟩
theorem dk_126_196 : zz_d mm_126 196 (.aload_n 0) 1 197 := ⟨by decide +kernel, rfl⟩
theorem dk_126_197 : zz_d mm_126 197 (.bipush 41) 2 199 := ⟨by decide +kernel, rfl⟩
theorem dk_126_199 : zz_d mm_126 199 (.newarray .int) 2 201 := ⟨by decide +kernel, rfl⟩
theorem dk_126_201 : zz_d mm_126 201 (.putfield 83) 3 204 := ⟨by decide +kernel, rfl⟩
theorem dk_126_204 : zz_d mm_126 204 (.aload_n 0) 1 205 := ⟨by decide +kernel, rfl⟩
theorem dk_126_205 : zz_d mm_126 205 (.bipush 42) 2 207 := ⟨by decide +kernel, rfl⟩
theorem dk_126_207 : zz_d mm_126 207 (.newarray .boolean) 2 209 := ⟨by decide +kernel, rfl⟩
theorem dk_126_209 : zz_d mm_126 209 (.putfield 86) 3 212 := ⟨by decide +kernel, rfl⟩
theorem dk_126_212 : zz_d mm_126 212 (.aload_n 0) 1 213 := ⟨by decide +kernel, rfl⟩
theorem dk_126_213 : zz_d mm_126 213 (.bipush 42) 2 215 := ⟨by decide +kernel, rfl⟩
theorem dk_126_215 : zz_d mm_126 215 (.newarray .boolean) 2 217 := ⟨by decide +kernel, rfl⟩
theorem dk_126_217 : zz_d mm_126 217 (.putfield 89) 3 220 := ⟨by decide +kernel, rfl⟩
theorem dk_126_220 : zz_d mm_126 220 (.aload_n 0) 1 221 := ⟨by decide +kernel, rfl⟩
theorem dk_126_221 : zz_d mm_126 221 (.bipush 42) 2 223 := ⟨by decide +kernel, rfl⟩
theorem dk_126_223 : zz_d mm_126 223 (.newarray .boolean) 2 225 := ⟨by decide +kernel, rfl⟩
theorem dk_126_225 : zz_d mm_126 225 (.putfield 92) 3 228 := ⟨by decide +kernel, rfl⟩
theorem dk_126_228 : zz_d mm_126 228 (.aload_n 0) 1 229 := ⟨by decide +kernel, rfl⟩
theorem dk_126_229 : zz_d mm_126 229 (.bipush 42) 2 231 := ⟨by decide +kernel, rfl⟩
theorem dk_126_231 : zz_d mm_126 231 (.newarray .boolean) 2 233 := ⟨by decide +kernel, rfl⟩
theorem dk_126_233 : zz_d mm_126 233 (.putfield 95) 3 236 := ⟨by decide +kernel, rfl⟩
theorem dk_126_236 : zz_d mm_126 236 (.aload_n 0) 1 237 := ⟨by decide +kernel, rfl⟩
theorem dk_126_237 : zz_d mm_126 237 (.sipush 320) 3 240 := ⟨by decide +kernel, rfl⟩
theorem dk_126_240 : zz_d mm_126 240 (.newarray .int) 2 242 := ⟨by decide +kernel, rfl⟩
theorem dk_126_242 : zz_d mm_126 242 (.putfield 98) 3 245 := ⟨by decide +kernel, rfl⟩
theorem dk_126_245 : zz_d mm_126 245 (.aload_n 0) 1 246 := ⟨by decide +kernel, rfl⟩
theorem dk_126_246 : zz_d mm_126 246 (.bipush 8) 2 248 := ⟨by decide +kernel, rfl⟩
theorem dk_126_248 : zz_d mm_126 248 (.newarray .int) 2 250 := ⟨by decide +kernel, rfl⟩
theorem dk_126_250 : zz_d mm_126 250 (.putfield 101) 3 253 := ⟨by decide +kernel, rfl⟩
theorem dk_126_253 : zz_d mm_126 253 (.aload_n 0) 1 254 := ⟨by decide +kernel, rfl⟩
theorem dk_126_254 : zz_d mm_126 254 (.bipush 8) 2 256 := ⟨by decide +kernel, rfl⟩
theorem dk_126_256 : zz_d mm_126 256 (.newarray .int) 2 258 := ⟨by decide +kernel, rfl⟩
theorem dk_126_258 : zz_d mm_126 258 (.putfield 104) 3 261 := ⟨by decide +kernel, rfl⟩
theorem dk_126_261 : zz_d mm_126 261 (.aload_n 0) 1 262 := ⟨by decide +kernel, rfl⟩
theorem dk_126_262 : zz_d mm_126 262 (.bipush 8) 2 264 := ⟨by decide +kernel, rfl⟩
theorem dk_126_264 : zz_d mm_126 264 (.newarray .int) 2 266 := ⟨by decide +kernel, rfl⟩
theorem dk_126_266 : zz_d mm_126 266 (.putfield 107) 3 269 := ⟨by decide +kernel, rfl⟩
theorem dk_126_269 : zz_d mm_126 269 (.aload_n 0) 1 270 := ⟨by decide +kernel, rfl⟩
theorem dk_126_270 : zz_d mm_126 270 (.bipush 6) 2 272 := ⟨by decide +kernel, rfl⟩
theorem dk_126_272 : zz_d mm_126 272 (.newarray .int) 2 274 := ⟨by decide +kernel, rfl⟩
theorem dk_126_274 : zz_d mm_126 274 (.putfield 110) 3 277 := ⟨by decide +kernel, rfl⟩
theorem dk_126_277 : zz_d mm_126 277 (.aload_n 0) 1 278 := ⟨by decide +kernel, rfl⟩
theorem dk_126_278 : zz_d mm_126 278 (.bipush 6) 2 280 := ⟨by decide +kernel, rfl⟩
theorem dk_126_280 : zz_d mm_126 280 (.newarray .int) 2 282 := ⟨by decide +kernel, rfl⟩
theorem dk_126_282 : zz_d mm_126 282 (.putfield 113) 3 285 := ⟨by decide +kernel, rfl⟩
theorem dk_126_285 : zz_d mm_126 285 (.aload_n 0) 1 286 := ⟨by decide +kernel, rfl⟩
theorem dk_126_286 : zz_d mm_126 286 (.bipush 6) 2 288 := ⟨by decide +kernel, rfl⟩
theorem dk_126_288 : zz_d mm_126 288 (.newarray .int) 2 290 := ⟨by decide +kernel, rfl⟩
theorem dk_126_290 : zz_d mm_126 290 (.putfield 116) 3 293 := ⟨by decide +kernel, rfl⟩
theorem dk_126_293 : zz_d mm_126 293 (.aload_n 0) 1 294 := ⟨by decide +kernel, rfl⟩
theorem dk_126_294 : zz_d mm_126 294 (.bipush 24) 2 296 := ⟨by decide +kernel, rfl⟩
theorem dk_126_296 : zz_d mm_126 296 (.newarray .boolean) 2 298 := ⟨by decide +kernel, rfl⟩
theorem dk_126_298 : zz_d mm_126 298 (.putfield 119) 3 301 := ⟨by decide +kernel, rfl⟩
theorem dk_126_301 : zz_d mm_126 301 (.aload_n 0) 1 302 := ⟨by decide +kernel, rfl⟩
theorem dk_126_302 : zz_d mm_126 302 (.bipush 24) 2 304 := ⟨by decide +kernel, rfl⟩
theorem dk_126_304 : zz_d mm_126 304 (.newarray .int) 2 306 := ⟨by decide +kernel, rfl⟩
theorem dk_126_306 : zz_d mm_126 306 (.putfield 122) 3 309 := ⟨by decide +kernel, rfl⟩
theorem dk_126_309 : zz_d mm_126 309 (.aload_n 0) 1 310 := ⟨by decide +kernel, rfl⟩
theorem dk_126_310 : zz_d mm_126 310 (.iconst (-1)) 1 311 := ⟨by decide +kernel, rfl⟩
theorem dk_126_311 : zz_d mm_126 311 (.putfield 125) 3 314 := ⟨by decide +kernel, rfl⟩
theorem dk_126_314 : zz_d mm_126 314 .return_ 1 315 := ⟨by decide +kernel, rfl⟩
theorem dk_127_0 : zz_d mm_127 0 (.iload_n 1) 1 1 := ⟨by decide +kernel, rfl⟩
theorem dk_127_1 : zz_d mm_127 1 (.bipush 33) 2 3 := ⟨by decide +kernel, rfl⟩
theorem dk_127_3 : zz_d mm_127 3 (.if_icmp .lt 18) 3 6 := ⟨by decide +kernel, rfl⟩
theorem dk_127_6 : zz_d mm_127 6 (.iload_n 1) 1 7 := ⟨by decide +kernel, rfl⟩
theorem dk_127_7 : zz_d mm_127 7 (.bipush 126) 2 9 := ⟨by decide +kernel, rfl⟩
theorem dk_127_9 : zz_d mm_127 9 (.if_icmp .gt 12) 3 12 := ⟨by decide +kernel, rfl⟩
theorem dk_127_12 : zz_d mm_127 12 (.aload_n 0) 1 13 := ⟨by decide +kernel, rfl⟩
theorem dk_127_13 : zz_d mm_127 13 (.getfield 129) 3 16 := ⟨by decide +kernel, rfl⟩
theorem dk_127_16 : zz_d mm_127 16 (.bipush 40) 2 18 := ⟨by decide +kernel, rfl⟩
theorem dk_127_18 : zz_d mm_127 18 (.if_icmp .lt 5) 3 21 := ⟨by decide +kernel, rfl⟩
theorem dk_127_21 : zz_d mm_127 21 (.iconst 0) 1 22 := ⟨by decide +kernel, rfl⟩
theorem dk_127_22 : zz_d mm_127 22 .ireturn 1 23 := ⟨by decide +kernel, rfl⟩
theorem dk_127_23 : zz_d mm_127 23 (.aload_n 0) 1 24 := ⟨by decide +kernel, rfl⟩
theorem dk_127_24 : zz_d mm_127 24 (.getfield 71) 3 27 := ⟨by decide +kernel, rfl⟩
theorem dk_127_27 : zz_d mm_127 27 (.aload_n 0) 1 28 := ⟨by decide +kernel, rfl⟩
theorem dk_127_28 : zz_d mm_127 28 (.getfield 129) 3 31 := ⟨by decide +kernel, rfl⟩
theorem dk_127_31 : zz_d mm_127 31 (.iload_n 1) 1 32 := ⟨by decide +kernel, rfl⟩
theorem dk_127_32 : zz_d mm_127 32 .iastore 1 33 := ⟨by decide +kernel, rfl⟩
theorem dk_127_33 : zz_d mm_127 33 (.aload_n 0) 1 34 := ⟨by decide +kernel, rfl⟩
theorem dk_127_34 : zz_d mm_127 34 .dup 1 35 := ⟨by decide +kernel, rfl⟩
theorem dk_127_35 : zz_d mm_127 35 (.getfield 129) 3 38 := ⟨by decide +kernel, rfl⟩
theorem dk_127_38 : zz_d mm_127 38 (.iconst 1) 1 39 := ⟨by decide +kernel, rfl⟩
theorem dk_127_39 : zz_d mm_127 39 .iadd 1 40 := ⟨by decide +kernel, rfl⟩
theorem dk_127_40 : zz_d mm_127 40 (.putfield 129) 3 43 := ⟨by decide +kernel, rfl⟩
theorem dk_127_43 : zz_d mm_127 43 (.iconst 1) 1 44 := ⟨by decide +kernel, rfl⟩
theorem dk_127_44 : zz_d mm_127 44 .ireturn 1 45 := ⟨by decide +kernel, rfl⟩
theorem dk_128_0 : zz_d mm_128 0 (.aload_n 0) 1 1 := ⟨by decide +kernel, rfl⟩
theorem dk_128_1 : zz_d mm_128 1 (.iconst 0) 1 2 := ⟨by decide +kernel, rfl⟩
theorem dk_128_2 : zz_d mm_128 2 (.putfield 129) 3 5 := ⟨by decide +kernel, rfl⟩
theorem dk_128_5 : zz_d mm_128 5 .return_ 1 6 := ⟨by decide +kernel, rfl⟩
theorem dk_129_0 : zz_d mm_129 0 (.aload_n 0) 1 1 := ⟨by decide +kernel, rfl⟩
theorem dk_129_1 : zz_d mm_129 1 (.getfield 154) 3 4 := ⟨by decide +kernel, rfl⟩
theorem dk_129_4 : zz_d mm_129 4 (.bipush 16) 2 6 := ⟨by decide +kernel, rfl⟩
theorem dk_129_6 : zz_d mm_129 6 (.if_icmp .eq 13) 3 9 := ⟨by decide +kernel, rfl⟩
theorem dk_129_9 : zz_d mm_129 9 (.iload_n 1) 1 10 := ⟨by decide +kernel, rfl⟩
theorem dk_129_10 : zz_d mm_129 10 (.ifCond .lt 9) 3 13 := ⟨by decide +kernel, rfl⟩
theorem dk_129_13 : zz_d mm_129 13 (.iload_n 1) 1 14 := ⟨by decide +kernel, rfl⟩
theorem dk_129_14 : zz_d mm_129 14 (.bipush 9) 2 16 := ⟨by decide +kernel, rfl⟩
theorem dk_129_16 : zz_d mm_129 16 (.if_icmp .le 5) 3 19 := ⟨by decide +kernel, rfl⟩
theorem dk_129_19 : zz_d mm_129 19 (.iconst (-1)) 1 20 := ⟨by decide +kernel, rfl⟩
theorem dk_129_20 : zz_d mm_129 20 .ireturn 1 21 := ⟨by decide +kernel, rfl⟩
theorem dk_129_21 : zz_d mm_129 21 (.iload_n 1) 1 22 := ⟨by decide +kernel, rfl⟩
theorem dk_129_22 : zz_d mm_129 22 (.iconst 3) 1 23 := ⟨by decide +kernel, rfl⟩
theorem dk_129_23 : zz_d mm_129 23 (.if_icmp .ne 13) 3 26 := ⟨by decide +kernel, rfl⟩
theorem dk_129_26 : zz_d mm_129 26 (.iload_n 2) 1 27 := ⟨by decide +kernel, rfl⟩
theorem dk_129_27 : zz_d mm_129 27 (.ifCond .lt 47) 3 30 := ⟨by decide +kernel, rfl⟩
theorem dk_129_30 : zz_d mm_129 30 (.iload_n 2) 1 31 := ⟨by decide +kernel, rfl⟩
theorem dk_129_31 : zz_d mm_129 31 (.bipush 7) 2 33 := ⟨by decide +kernel, rfl⟩
theorem dk_129_33 : zz_d mm_129 33 (.if_icmp .gt 41) 3 36 := ⟨by decide +kernel, rfl⟩
theorem dk_129_36 : zz_d mm_129 36 (.iload_n 1) 1 37 := ⟨by decide +kernel, rfl⟩
theorem dk_129_37 : zz_d mm_129 37 (.iconst 4) 1 38 := ⟨by decide +kernel, rfl⟩
theorem dk_129_38 : zz_d mm_129 38 (.if_icmp .lt 17) 3 41 := ⟨by decide +kernel, rfl⟩
theorem dk_129_41 : zz_d mm_129 41 (.iload_n 1) 1 42 := ⟨by decide +kernel, rfl⟩
theorem dk_129_42 : zz_d mm_129 42 (.bipush 6) 2 44 := ⟨by decide +kernel, rfl⟩
theorem dk_129_44 : zz_d mm_129 44 (.if_icmp .gt 11) 3 47 := ⟨by decide +kernel, rfl⟩
theorem dk_129_47 : zz_d mm_129 47 (.aload_n 0) 1 48 := ⟨by decide +kernel, rfl⟩
theorem dk_129_48 : zz_d mm_129 48 (.iload_n 2) 1 49 := ⟨by decide +kernel, rfl⟩
theorem dk_129_49 : zz_d mm_129 49 (.invokevirtual 157) 3 52 := ⟨by decide +kernel, rfl⟩
theorem dk_129_52 : zz_d mm_129 52 (.ifCond .eq 22) 3 55 := ⟨by decide +kernel, rfl⟩
theorem dk_129_55 : zz_d mm_129 55 (.iload_n 1) 1 56 := ⟨by decide +kernel, rfl⟩
theorem dk_129_56 : zz_d mm_129 56 (.iconst 5) 1 57 := ⟨by decide +kernel, rfl⟩
theorem dk_129_57 : zz_d mm_129 57 (.if_icmp .eq 9) 3 60 := ⟨by decide +kernel, rfl⟩
theorem dk_129_60 : zz_d mm_129 60 (.iload_n 1) 1 61 := ⟨by decide +kernel, rfl⟩
theorem dk_129_61 : zz_d mm_129 61 (.bipush 6) 2 63 := ⟨by decide +kernel, rfl⟩
theorem dk_129_63 : zz_d mm_129 63 (.if_icmp .ne 13) 3 66 := ⟨by decide +kernel, rfl⟩
theorem dk_129_66 : zz_d mm_129 66 (.aload_n 0) 1 67 := ⟨by decide +kernel, rfl⟩
theorem dk_129_67 : zz_d mm_129 67 (.iload_n 3) 1 68 := ⟨by decide +kernel, rfl⟩
theorem dk_129_68 : zz_d mm_129 68 (.invokevirtual 157) 3 71 := ⟨by decide +kernel, rfl⟩
theorem dk_129_71 : zz_d mm_129 71 (.ifCond .ne 5) 3 74 := ⟨by decide +kernel, rfl⟩
theorem dk_129_74 : zz_d mm_129 74 (.iconst (-1)) 1 75 := ⟨by decide +kernel, rfl⟩
theorem dk_129_75 : zz_d mm_129 75 .ireturn 1 76 := ⟨by decide +kernel, rfl⟩
theorem dk_129_76 : zz_d mm_129 76 (.aload_n 0) 1 77 := ⟨by decide +kernel, rfl⟩
theorem dk_129_77 : zz_d mm_129 77 (.getfield 59) 3 80 := ⟨by decide +kernel, rfl⟩
theorem dk_129_80 : zz_d mm_129 80 (.aload_n 0) 1 81 := ⟨by decide +kernel, rfl⟩
theorem dk_129_81 : zz_d mm_129 81 (.getfield 154) 3 84 := ⟨by decide +kernel, rfl⟩
theorem dk_129_84 : zz_d mm_129 84 (.iload_n 1) 1 85 := ⟨by decide +kernel, rfl⟩
theorem dk_129_85 : zz_d mm_129 85 .iastore 1 86 := ⟨by decide +kernel, rfl⟩
theorem dk_129_86 : zz_d mm_129 86 (.aload_n 0) 1 87 := ⟨by decide +kernel, rfl⟩
theorem dk_129_87 : zz_d mm_129 87 (.getfield 62) 3 90 := ⟨by decide +kernel, rfl⟩
theorem dk_129_90 : zz_d mm_129 90 (.aload_n 0) 1 91 := ⟨by decide +kernel, rfl⟩
theorem dk_129_91 : zz_d mm_129 91 (.getfield 154) 3 94 := ⟨by decide +kernel, rfl⟩
theorem dk_129_94 : zz_d mm_129 94 (.iload_n 2) 1 95 := ⟨by decide +kernel, rfl⟩
theorem dk_129_95 : zz_d mm_129 95 .iastore 1 96 := ⟨by decide +kernel, rfl⟩
theorem dk_129_96 : zz_d mm_129 96 (.aload_n 0) 1 97 := ⟨by decide +kernel, rfl⟩
theorem dk_129_97 : zz_d mm_129 97 (.getfield 65) 3 100 := ⟨by decide +kernel, rfl⟩
theorem dk_129_100 : zz_d mm_129 100 (.aload_n 0) 1 101 := ⟨by decide +kernel, rfl⟩
theorem dk_129_101 : zz_d mm_129 101 (.getfield 154) 3 104 := ⟨by decide +kernel, rfl⟩
theorem dk_129_104 : zz_d mm_129 104 (.iload_n 3) 1 105 := ⟨by decide +kernel, rfl⟩
theorem dk_129_105 : zz_d mm_129 105 .iastore 1 106 := ⟨by decide +kernel, rfl⟩
theorem dk_129_106 : zz_d mm_129 106 (.aload_n 0) 1 107 := ⟨by decide +kernel, rfl⟩
theorem dk_129_107 : zz_d mm_129 107 .dup 1 108 := ⟨by decide +kernel, rfl⟩
theorem dk_129_108 : zz_d mm_129 108 (.getfield 154) 3 111 := ⟨by decide +kernel, rfl⟩
theorem dk_129_111 : zz_d mm_129 111 (.iconst 1) 1 112 := ⟨by decide +kernel, rfl⟩
theorem dk_129_112 : zz_d mm_129 112 .iadd 1 113 := ⟨by decide +kernel, rfl⟩
theorem dk_129_113 : zz_d mm_129 113 (.putfield 154) 3 116 := ⟨by decide +kernel, rfl⟩
theorem dk_129_116 : zz_d mm_129 116 (.aload_n 0) 1 117 := ⟨by decide +kernel, rfl⟩
theorem dk_129_117 : zz_d mm_129 117 (.getfield 154) 3 120 := ⟨by decide +kernel, rfl⟩
theorem dk_129_120 : zz_d mm_129 120 (.iconst 1) 1 121 := ⟨by decide +kernel, rfl⟩
theorem dk_129_121 : zz_d mm_129 121 .isub 1 122 := ⟨by decide +kernel, rfl⟩
theorem dk_129_122 : zz_d mm_129 122 .ireturn 1 123 := ⟨by decide +kernel, rfl⟩
theorem dk_130_0 : zz_d mm_130 0 (.iload_n 1) 1 1 := ⟨by decide +kernel, rfl⟩
theorem dk_130_1 : zz_d mm_130 1 (.ifCond .lt 15) 3 4 := ⟨by decide +kernel, rfl⟩
theorem dk_130_4 : zz_d mm_130 4 (.iload_n 1) 1 5 := ⟨by decide +kernel, rfl⟩
theorem dk_130_5 : zz_d mm_130 5 (.aload_n 0) 1 6 := ⟨by decide +kernel, rfl⟩
theorem dk_130_6 : zz_d mm_130 6 (.getfield 154) 3 9 := ⟨by decide +kernel, rfl⟩
theorem dk_130_9 : zz_d mm_130 9 (.if_icmp .ge 7) 3 12 := ⟨by decide +kernel, rfl⟩
theorem dk_130_12 : zz_d mm_130 12 (.iconst 1) 1 13 := ⟨by decide +kernel, rfl⟩
theorem dk_130_13 : zz_d mm_130 13 (.goto 4) 3 16 := ⟨by decide +kernel, rfl⟩
theorem dk_130_16 : zz_d mm_130 16 (.iconst 0) 1 17 := ⟨by decide +kernel, rfl⟩
theorem dk_130_17 : zz_d mm_130 17 .ireturn 1 18 := ⟨by decide +kernel, rfl⟩
theorem dk_131_0 : zz_d mm_131 0 (.iload_n 1) 1 1 := ⟨by decide +kernel, rfl⟩
theorem dk_131_1 : zz_d mm_131 1 (.ifCond .lt 34) 3 4 := ⟨by decide +kernel, rfl⟩
theorem dk_131_4 : zz_d mm_131 4 (.iload_n 1) 1 5 := ⟨by decide +kernel, rfl⟩
theorem dk_131_5 : zz_d mm_131 5 (.bipush 7) 2 7 := ⟨by decide +kernel, rfl⟩
theorem dk_131_7 : zz_d mm_131 7 (.if_icmp .gt 28) 3 10 := ⟨by decide +kernel, rfl⟩
theorem dk_131_10 : zz_d mm_131 10 (.iload_n 2) 1 11 := ⟨by decide +kernel, rfl⟩
theorem dk_131_11 : zz_d mm_131 11 (.ifCond .lt 24) 3 14 := ⟨by decide +kernel, rfl⟩
theorem dk_131_14 : zz_d mm_131 14 (.iload_n 2) 1 15 := ⟨by decide +kernel, rfl⟩
theorem dk_131_15 : zz_d mm_131 15 (.bipush 7) 2 17 := ⟨by decide +kernel, rfl⟩
theorem dk_131_17 : zz_d mm_131 17 (.if_icmp .gt 18) 3 20 := ⟨by decide +kernel, rfl⟩
theorem dk_131_20 : zz_d mm_131 20 (.aload_n 0) 1 21 := ⟨by decide +kernel, rfl⟩
theorem dk_131_21 : zz_d mm_131 21 (.iconst 1) 1 22 := ⟨by decide +kernel, rfl⟩
theorem dk_131_22 : zz_d mm_131 22 (.iload_n 1) 1 23 := ⟨by decide +kernel, rfl⟩
theorem dk_131_23 : zz_d mm_131 23 .ishl 1 24 := ⟨by decide +kernel, rfl⟩
theorem dk_131_24 : zz_d mm_131 24 (.invokevirtual 160) 3 27 := ⟨by decide +kernel, rfl⟩
theorem dk_131_27 : zz_d mm_131 27 (.iload_n 2) 1 28 := ⟨by decide +kernel, rfl⟩
theorem dk_131_28 : zz_d mm_131 28 .ishr 1 29 := ⟨by decide +kernel, rfl⟩
theorem dk_131_29 : zz_d mm_131 29 (.iconst 1) 1 30 := ⟨by decide +kernel, rfl⟩
theorem dk_131_30 : zz_d mm_131 30 .iand 1 31 := ⟨by decide +kernel, rfl⟩
theorem dk_131_31 : zz_d mm_131 31 (.iconst 1) 1 32 := ⟨by decide +kernel, rfl⟩
theorem dk_131_32 : zz_d mm_131 32 (.if_icmp .ne 5) 3 35 := ⟨by decide +kernel, rfl⟩
theorem dk_131_35 : zz_d mm_131 35 (.iconst 0) 1 36 := ⟨by decide +kernel, rfl⟩
theorem dk_131_36 : zz_d mm_131 36 .ireturn 1 37 := ⟨by decide +kernel, rfl⟩
theorem dk_131_37 : zz_d mm_131 37 (.aload_n 0) 1 38 := ⟨by decide +kernel, rfl⟩
theorem dk_131_38 : zz_d mm_131 38 (.getfield 7) 3 41 := ⟨by decide +kernel, rfl⟩
theorem dk_131_41 : zz_d mm_131 41 (.iload_n 1) 1 42 := ⟨by decide +kernel, rfl⟩
theorem dk_131_42 : zz_d mm_131 42 .dup2 1 43 := ⟨by decide +kernel, rfl⟩
theorem dk_131_43 : zz_d mm_131 43 .iaload 1 44 := ⟨by decide +kernel, rfl⟩
theorem dk_131_44 : zz_d mm_131 44 (.iconst 1) 1 45 := ⟨by decide +kernel, rfl⟩
theorem dk_131_45 : zz_d mm_131 45 (.iload_n 2) 1 46 := ⟨by decide +kernel, rfl⟩
theorem dk_131_46 : zz_d mm_131 46 .ishl 1 47 := ⟨by decide +kernel, rfl⟩
theorem dk_131_47 : zz_d mm_131 47 .ior 1 48 := ⟨by decide +kernel, rfl⟩
theorem dk_131_48 : zz_d mm_131 48 .iastore 1 49 := ⟨by decide +kernel, rfl⟩
theorem dk_131_49 : zz_d mm_131 49 (.iconst 1) 1 50 := ⟨by decide +kernel, rfl⟩
theorem dk_131_50 : zz_d mm_131 50 .ireturn 1 51 := ⟨by decide +kernel, rfl⟩
theorem dk_132_0 : zz_d mm_132 0 (.iload_n 1) 1 1 := ⟨by decide +kernel, rfl⟩
theorem dk_132_1 : zz_d mm_132 1 (.istore_n 2) 1 2 := ⟨by decide +kernel, rfl⟩
theorem dk_132_2 : zz_d mm_132 2 (.iconst 0) 1 3 := ⟨by decide +kernel, rfl⟩
theorem dk_132_3 : zz_d mm_132 3 (.istore_n 3) 1 4 := ⟨by decide +kernel, rfl⟩
theorem dk_132_4 : zz_d mm_132 4 (.iload_n 3) 1 5 := ⟨by decide +kernel, rfl⟩
theorem dk_132_5 : zz_d mm_132 5 (.bipush 8) 2 7 := ⟨by decide +kernel, rfl⟩
theorem dk_132_7 : zz_d mm_132 7 (.if_icmp .ge 49) 3 10 := ⟨by decide +kernel, rfl⟩
theorem dk_132_10 : zz_d mm_132 10 (.iconst 0) 1 11 := ⟨by decide +kernel, rfl⟩
theorem dk_132_11 : zz_d mm_132 11 (.istore 4) 2 13 := ⟨by decide +kernel, rfl⟩
theorem dk_132_13 : zz_d mm_132 13 (.iload 4) 2 15 := ⟨by decide +kernel, rfl⟩
theorem dk_132_15 : zz_d mm_132 15 (.bipush 8) 2 17 := ⟨by decide +kernel, rfl⟩
theorem dk_132_17 : zz_d mm_132 17 (.if_icmp .ge 33) 3 20 := ⟨by decide +kernel, rfl⟩
theorem dk_132_20 : zz_d mm_132 20 (.iload_n 2) 1 21 := ⟨by decide +kernel, rfl⟩
theorem dk_132_21 : zz_d mm_132 21 (.iload 4) 2 23 := ⟨by decide +kernel, rfl⟩
theorem dk_132_23 : zz_d mm_132 23 .ishr 1 24 := ⟨by decide +kernel, rfl⟩
theorem dk_132_24 : zz_d mm_132 24 (.iconst 1) 1 25 := ⟨by decide +kernel, rfl⟩
theorem dk_132_25 : zz_d mm_132 25 .iand 1 26 := ⟨by decide +kernel, rfl⟩
theorem dk_132_26 : zz_d mm_132 26 (.iconst 1) 1 27 := ⟨by decide +kernel, rfl⟩
theorem dk_132_27 : zz_d mm_132 27 (.if_icmp .ne 15) 3 30 := ⟨by decide +kernel, rfl⟩
theorem dk_132_30 : zz_d mm_132 30 (.iload_n 2) 1 31 := ⟨by decide +kernel, rfl⟩
theorem dk_132_31 : zz_d mm_132 31 (.aload_n 0) 1 32 := ⟨by decide +kernel, rfl⟩
theorem dk_132_32 : zz_d mm_132 32 (.getfield 7) 3 35 := ⟨by decide +kernel, rfl⟩
theorem dk_132_35 : zz_d mm_132 35 (.iload 4) 2 37 := ⟨by decide +kernel, rfl⟩
theorem dk_132_37 : zz_d mm_132 37 .iaload 1 38 := ⟨by decide +kernel, rfl⟩
theorem dk_132_38 : zz_d mm_132 38 .ior 1 39 := ⟨by decide +kernel, rfl⟩
theorem dk_132_39 : zz_d mm_132 39 (.goto 4) 3 42 := ⟨by decide +kernel, rfl⟩
theorem dk_132_42 : zz_d mm_132 42 (.iload_n 2) 1 43 := ⟨by decide +kernel, rfl⟩
theorem dk_132_43 : zz_d mm_132 43 (.istore_n 2) 1 44 := ⟨by decide +kernel, rfl⟩
theorem dk_132_44 : zz_d mm_132 44 (.iinc 4 1) 3 47 := ⟨by decide +kernel, rfl⟩
theorem dk_132_47 : zz_d mm_132 47 (.goto (-34)) 3 50 := ⟨by decide +kernel, rfl⟩
theorem dk_132_50 : zz_d mm_132 50 (.iinc 3 1) 3 53 := ⟨by decide +kernel, rfl⟩
theorem dk_132_53 : zz_d mm_132 53 (.goto (-49)) 3 56 := ⟨by decide +kernel, rfl⟩
theorem dk_132_56 : zz_d mm_132 56 (.iload_n 2) 1 57 := ⟨by decide +kernel, rfl⟩
theorem dk_132_57 : zz_d mm_132 57 .ireturn 1 58 := ⟨by decide +kernel, rfl⟩
theorem dk_133_0 : zz_d mm_133 0 (.aload_n 0) 1 1 := ⟨by decide +kernel, rfl⟩
theorem dk_133_1 : zz_d mm_133 1 (.getfield 171) 3 4 := ⟨by decide +kernel, rfl⟩
theorem dk_133_4 : zz_d mm_133 4 (.bipush 8) 2 6 := ⟨by decide +kernel, rfl⟩
theorem dk_133_6 : zz_d mm_133 6 (.if_icmp .eq 29) 3 9 := ⟨by decide +kernel, rfl⟩
theorem dk_133_9 : zz_d mm_133 9 (.aload_n 0) 1 10 := ⟨by decide +kernel, rfl⟩
theorem dk_133_10 : zz_d mm_133 10 (.iload_n 1) 1 11 := ⟨by decide +kernel, rfl⟩
theorem dk_133_11 : zz_d mm_133 11 (.invokevirtual 157) 3 14 := ⟨by decide +kernel, rfl⟩
theorem dk_133_14 : zz_d mm_133 14 (.ifCond .eq 21) 3 17 := ⟨by decide +kernel, rfl⟩
theorem dk_133_17 : zz_d mm_133 17 (.iload_n 2) 1 18 := ⟨by decide +kernel, rfl⟩
theorem dk_133_18 : zz_d mm_133 18 (.iconst 1) 1 19 := ⟨by decide +kernel, rfl⟩
theorem dk_133_19 : zz_d mm_133 19 (.if_icmp .lt 16) 3 22 := ⟨by decide +kernel, rfl⟩
theorem dk_133_22 : zz_d mm_133 22 (.iload_n 2) 1 23 := ⟨by decide +kernel, rfl⟩
theorem dk_133_23 : zz_d mm_133 23 (.bipush 15) 2 25 := ⟨by decide +kernel, rfl⟩
theorem dk_133_25 : zz_d mm_133 25 (.if_icmp .gt 10) 3 28 := ⟨by decide +kernel, rfl⟩
theorem dk_133_28 : zz_d mm_133 28 (.aload_n 0) 1 29 := ⟨by decide +kernel, rfl⟩
theorem dk_133_29 : zz_d mm_133 29 (.invokevirtual 174) 3 32 := ⟨by decide +kernel, rfl⟩
theorem dk_133_32 : zz_d mm_133 32 (.ifCond .ne 5) 3 35 := ⟨by decide +kernel, rfl⟩
theorem dk_133_35 : zz_d mm_133 35 (.iconst (-1)) 1 36 := ⟨by decide +kernel, rfl⟩
theorem dk_133_36 : zz_d mm_133 36 .ireturn 1 37 := ⟨by decide +kernel, rfl⟩
theorem dk_133_37 : zz_d mm_133 37 (.iconst 0) 1 38 := ⟨by decide +kernel, rfl⟩
theorem dk_133_38 : zz_d mm_133 38 (.istore_n 3) 1 39 := ⟨by decide +kernel, rfl⟩
theorem dk_133_39 : zz_d mm_133 39 (.iload_n 3) 1 40 := ⟨by decide +kernel, rfl⟩
theorem dk_133_40 : zz_d mm_133 40 (.aload_n 0) 1 41 := ⟨by decide +kernel, rfl⟩
theorem dk_133_41 : zz_d mm_133 41 (.getfield 129) 3 44 := ⟨by decide +kernel, rfl⟩
theorem dk_133_44 : zz_d mm_133 44 (.if_icmp .ge 29) 3 47 := ⟨by decide +kernel, rfl⟩
theorem dk_133_47 : zz_d mm_133 47 (.aload_n 0) 1 48 := ⟨by decide +kernel, rfl⟩
theorem dk_133_48 : zz_d mm_133 48 (.getfield 98) 3 51 := ⟨by decide +kernel, rfl⟩
theorem dk_133_51 : zz_d mm_133 51 (.bipush 40) 2 53 := ⟨by decide +kernel, rfl⟩
theorem dk_133_53 : zz_d mm_133 53 (.aload_n 0) 1 54 := ⟨by decide +kernel, rfl⟩
theorem dk_133_54 : zz_d mm_133 54 (.getfield 171) 3 57 := ⟨by decide +kernel, rfl⟩
theorem dk_133_57 : zz_d mm_133 57 .imul 1 58 := ⟨by decide +kernel, rfl⟩
theorem dk_133_58 : zz_d mm_133 58 (.iload_n 3) 1 59 := ⟨by decide +kernel, rfl⟩
theorem dk_133_59 : zz_d mm_133 59 .iadd 1 60 := ⟨by decide +kernel, rfl⟩
theorem dk_133_60 : zz_d mm_133 60 (.aload_n 0) 1 61 := ⟨by decide +kernel, rfl⟩
theorem dk_133_61 : zz_d mm_133 61 (.getfield 71) 3 64 := ⟨by decide +kernel, rfl⟩
theorem dk_133_64 : zz_d mm_133 64 (.iload_n 3) 1 65 := ⟨by decide +kernel, rfl⟩
theorem dk_133_65 : zz_d mm_133 65 .iaload 1 66 := ⟨by decide +kernel, rfl⟩
theorem dk_133_66 : zz_d mm_133 66 .iastore 1 67 := ⟨by decide +kernel, rfl⟩
theorem dk_133_67 : zz_d mm_133 67 (.iinc 3 1) 3 70 := ⟨by decide +kernel, rfl⟩
theorem dk_133_70 : zz_d mm_133 70 (.goto (-31)) 3 73 := ⟨by decide +kernel, rfl⟩
theorem dk_133_73 : zz_d mm_133 73 (.aload_n 0) 1 74 := ⟨by decide +kernel, rfl⟩
theorem dk_133_74 : zz_d mm_133 74 (.getfield 101) 3 77 := ⟨by decide +kernel, rfl⟩
theorem dk_133_77 : zz_d mm_133 77 (.aload_n 0) 1 78 := ⟨by decide +kernel, rfl⟩
theorem dk_133_78 : zz_d mm_133 78 (.getfield 171) 3 81 := ⟨by decide +kernel, rfl⟩
theorem dk_133_81 : zz_d mm_133 81 (.aload_n 0) 1 82 := ⟨by decide +kernel, rfl⟩
theorem dk_133_82 : zz_d mm_133 82 (.getfield 129) 3 85 := ⟨by decide +kernel, rfl⟩
theorem dk_133_85 : zz_d mm_133 85 .iastore 1 86 := ⟨by decide +kernel, rfl⟩
theorem dk_133_86 : zz_d mm_133 86 (.aload_n 0) 1 87 := ⟨by decide +kernel, rfl⟩
theorem dk_133_87 : zz_d mm_133 87 (.getfield 104) 3 90 := ⟨by decide +kernel, rfl⟩
theorem dk_133_90 : zz_d mm_133 90 (.aload_n 0) 1 91 := ⟨by decide +kernel, rfl⟩
theorem dk_133_91 : zz_d mm_133 91 (.getfield 171) 3 94 := ⟨by decide +kernel, rfl⟩
theorem dk_133_94 : zz_d mm_133 94 (.iload_n 1) 1 95 := ⟨by decide +kernel, rfl⟩
theorem dk_133_95 : zz_d mm_133 95 .iastore 1 96 := ⟨by decide +kernel, rfl⟩
theorem dk_133_96 : zz_d mm_133 96 (.aload_n 0) 1 97 := ⟨by decide +kernel, rfl⟩
theorem dk_133_97 : zz_d mm_133 97 (.getfield 107) 3 100 := ⟨by decide +kernel, rfl⟩
theorem dk_133_100 : zz_d mm_133 100 (.aload_n 0) 1 101 := ⟨by decide +kernel, rfl⟩
theorem dk_133_101 : zz_d mm_133 101 (.getfield 171) 3 104 := ⟨by decide +kernel, rfl⟩
theorem dk_133_104 : zz_d mm_133 104 (.iload_n 2) 1 105 := ⟨by decide +kernel, rfl⟩
theorem dk_133_105 : zz_d mm_133 105 .iastore 1 106 := ⟨by decide +kernel, rfl⟩
theorem dk_133_106 : zz_d mm_133 106 (.aload_n 0) 1 107 := ⟨by decide +kernel, rfl⟩
theorem dk_133_107 : zz_d mm_133 107 (.iconst 0) 1 108 := ⟨by decide +kernel, rfl⟩
theorem dk_133_108 : zz_d mm_133 108 (.putfield 129) 3 111 := ⟨by decide +kernel, rfl⟩
theorem dk_133_111 : zz_d mm_133 111 (.aload_n 0) 1 112 := ⟨by decide +kernel, rfl⟩
theorem dk_133_112 : zz_d mm_133 112 .dup 1 113 := ⟨by decide +kernel, rfl⟩
theorem dk_133_113 : zz_d mm_133 113 (.getfield 171) 3 116 := ⟨by decide +kernel, rfl⟩
theorem dk_133_116 : zz_d mm_133 116 (.iconst 1) 1 117 := ⟨by decide +kernel, rfl⟩
theorem dk_133_117 : zz_d mm_133 117 .iadd 1 118 := ⟨by decide +kernel, rfl⟩
theorem dk_133_118 : zz_d mm_133 118 (.putfield 171) 3 121 := ⟨by decide +kernel, rfl⟩
theorem dk_133_121 : zz_d mm_133 121 (.aload_n 0) 1 122 := ⟨by decide +kernel, rfl⟩
theorem dk_133_122 : zz_d mm_133 122 (.getfield 171) 3 125 := ⟨by decide +kernel, rfl⟩
theorem dk_133_125 : zz_d mm_133 125 (.iconst 1) 1 126 := ⟨by decide +kernel, rfl⟩
theorem dk_133_126 : zz_d mm_133 126 .isub 1 127 := ⟨by decide +kernel, rfl⟩
theorem dk_133_127 : zz_d mm_133 127 .ireturn 1 128 := ⟨by decide +kernel, rfl⟩
theorem dk_134_0 : zz_d mm_134 0 (.aload_n 0) 1 1 := ⟨by decide +kernel, rfl⟩
theorem dk_134_1 : zz_d mm_134 1 (.getfield 129) 3 4 := ⟨by decide +kernel, rfl⟩
theorem dk_134_4 : zz_d mm_134 4 (.ifCond .eq 14) 3 7 := ⟨by decide +kernel, rfl⟩
theorem dk_134_7 : zz_d mm_134 7 (.aload_n 0) 1 8 := ⟨by decide +kernel, rfl⟩
theorem dk_134_8 : zz_d mm_134 8 (.getfield 71) 3 11 := ⟨by decide +kernel, rfl⟩
theorem dk_134_11 : zz_d mm_134 11 (.iconst 0) 1 12 := ⟨by decide +kernel, rfl⟩
theorem dk_134_12 : zz_d mm_134 12 .iaload 1 13 := ⟨by decide +kernel, rfl⟩
theorem dk_134_13 : zz_d mm_134 13 (.bipush 47) 2 15 := ⟨by decide +kernel, rfl⟩
theorem dk_134_15 : zz_d mm_134 15 (.if_icmp .eq 5) 3 18 := ⟨by decide +kernel, rfl⟩
theorem dk_134_18 : zz_d mm_134 18 (.iconst 0) 1 19 := ⟨by decide +kernel, rfl⟩
theorem dk_134_19 : zz_d mm_134 19 .ireturn 1 20 := ⟨by decide +kernel, rfl⟩
theorem dk_134_20 : zz_d mm_134 20 (.iconst 1) 1 21 := ⟨by decide +kernel, rfl⟩
theorem dk_134_21 : zz_d mm_134 21 (.istore_n 1) 1 22 := ⟨by decide +kernel, rfl⟩
theorem dk_134_22 : zz_d mm_134 22 (.iload_n 1) 1 23 := ⟨by decide +kernel, rfl⟩
theorem dk_134_23 : zz_d mm_134 23 (.aload_n 0) 1 24 := ⟨by decide +kernel, rfl⟩
theorem dk_134_24 : zz_d mm_134 24 (.getfield 129) 3 27 := ⟨by decide +kernel, rfl⟩
theorem dk_134_27 : zz_d mm_134 27 (.if_icmp .gt 118) 3 30 := ⟨by decide +kernel, rfl⟩
theorem dk_134_30 : zz_d mm_134 30 (.aload_n 0) 1 31 := ⟨by decide +kernel, rfl⟩
theorem dk_134_31 : zz_d mm_134 31 (.getfield 129) 3 34 := ⟨by decide +kernel, rfl⟩
theorem dk_134_34 : zz_d mm_134 34 (.iconst 1) 1 35 := ⟨by decide +kernel, rfl⟩
theorem dk_134_35 : zz_d mm_134 35 (.if_icmp .le 110) 3 38 := ⟨by decide +kernel, rfl⟩
theorem dk_134_38 : zz_d mm_134 38 (.iload_n 1) 1 39 := ⟨by decide +kernel, rfl⟩
theorem dk_134_39 : zz_d mm_134 39 (.istore_n 2) 1 40 := ⟨by decide +kernel, rfl⟩
theorem dk_134_40 : zz_d mm_134 40 (.iconst 0) 1 41 := ⟨by decide +kernel, rfl⟩
theorem dk_134_41 : zz_d mm_134 41 (.istore_n 3) 1 42 := ⟨by decide +kernel, rfl⟩
theorem dk_134_42 : zz_d mm_134 42 (.iload_n 2) 1 43 := ⟨by decide +kernel, rfl⟩
theorem dk_134_43 : zz_d mm_134 43 (.aload_n 0) 1 44 := ⟨by decide +kernel, rfl⟩
theorem dk_134_44 : zz_d mm_134 44 (.getfield 129) 3 47 := ⟨by decide +kernel, rfl⟩
theorem dk_134_47 : zz_d mm_134 47 (.if_icmp .ge 73) 3 50 := ⟨by decide +kernel, rfl⟩
theorem dk_134_50 : zz_d mm_134 50 (.aload_n 0) 1 51 := ⟨by decide +kernel, rfl⟩
theorem dk_134_51 : zz_d mm_134 51 (.getfield 71) 3 54 := ⟨by decide +kernel, rfl⟩
theorem dk_134_54 : zz_d mm_134 54 (.iload_n 2) 1 55 := ⟨by decide +kernel, rfl⟩
theorem dk_134_55 : zz_d mm_134 55 .iaload 1 56 := ⟨by decide +kernel, rfl⟩
theorem dk_134_56 : zz_d mm_134 56 (.bipush 47) 2 58 := ⟨by decide +kernel, rfl⟩
theorem dk_134_58 : zz_d mm_134 58 (.if_icmp .eq 62) 3 61 := ⟨by decide +kernel, rfl⟩
theorem dk_134_61 : zz_d mm_134 61 (.aload_n 0) 1 62 := ⟨by decide +kernel, rfl⟩
theorem dk_134_62 : zz_d mm_134 62 (.getfield 71) 3 65 := ⟨by decide +kernel, rfl⟩
theorem dk_134_65 : zz_d mm_134 65 (.iload_n 2) 1 66 := ⟨by decide +kernel, rfl⟩
theorem dk_134_66 : zz_d mm_134 66 .iaload 1 67 := ⟨by decide +kernel, rfl⟩
theorem dk_134_67 : zz_d mm_134 67 (.invokestatic 136) 3 70 := ⟨by decide +kernel, rfl⟩
theorem dk_134_70 : zz_d mm_134 70 (.ifCond .eq 5) 3 73 := ⟨by decide +kernel, rfl⟩
theorem dk_134_73 : zz_d mm_134 73 (.iconst 0) 1 74 := ⟨by decide +kernel, rfl⟩
theorem dk_134_74 : zz_d mm_134 74 .ireturn 1 75 := ⟨by decide +kernel, rfl⟩
theorem dk_134_75 : zz_d mm_134 75 (.iload_n 3) 1 76 := ⟨by decide +kernel, rfl⟩
theorem dk_134_76 : zz_d mm_134 76 (.ifCond .ne 32) 3 79 := ⟨by decide +kernel, rfl⟩
theorem dk_134_79 : zz_d mm_134 79 (.iload_n 2) 1 80 := ⟨by decide +kernel, rfl⟩
theorem dk_134_80 : zz_d mm_134 80 (.iload_n 1) 1 81 := ⟨by decide +kernel, rfl⟩
theorem dk_134_81 : zz_d mm_134 81 (.if_icmp .le 31) 3 84 := ⟨by decide +kernel, rfl⟩
theorem dk_134_84 : zz_d mm_134 84 (.aload_n 0) 1 85 := ⟨by decide +kernel, rfl⟩
theorem dk_134_85 : zz_d mm_134 85 (.getfield 71) 3 88 := ⟨by decide +kernel, rfl⟩
theorem dk_134_88 : zz_d mm_134 88 (.iload_n 2) 1 89 := ⟨by decide +kernel, rfl⟩
theorem dk_134_89 : zz_d mm_134 89 .iaload 1 90 := ⟨by decide +kernel, rfl⟩
theorem dk_134_90 : zz_d mm_134 90 (.bipush 42) 2 92 := ⟨by decide +kernel, rfl⟩
theorem dk_134_92 : zz_d mm_134 92 (.if_icmp .ne 20) 3 95 := ⟨by decide +kernel, rfl⟩
theorem dk_134_95 : zz_d mm_134 95 (.aload_n 0) 1 96 := ⟨by decide +kernel, rfl⟩
theorem dk_134_96 : zz_d mm_134 96 (.getfield 71) 3 99 := ⟨by decide +kernel, rfl⟩
theorem dk_134_99 : zz_d mm_134 99 (.iload_n 2) 1 100 := ⟨by decide +kernel, rfl⟩
theorem dk_134_100 : zz_d mm_134 100 (.iconst 1) 1 101 := ⟨by decide +kernel, rfl⟩
theorem dk_134_101 : zz_d mm_134 101 .isub 1 102 := ⟨by decide +kernel, rfl⟩
theorem dk_134_102 : zz_d mm_134 102 .iaload 1 103 := ⟨by decide +kernel, rfl⟩
theorem dk_134_103 : zz_d mm_134 103 (.bipush 42) 2 105 := ⟨by decide +kernel, rfl⟩
theorem dk_134_105 : zz_d mm_134 105 (.if_icmp .ne 7) 3 108 := ⟨by decide +kernel, rfl⟩
theorem dk_134_108 : zz_d mm_134 108 (.iconst 1) 1 109 := ⟨by decide +kernel, rfl⟩
theorem dk_134_109 : zz_d mm_134 109 (.goto 4) 3 112 := ⟨by decide +kernel, rfl⟩
theorem dk_134_112 : zz_d mm_134 112 (.iconst 0) 1 113 := ⟨by decide +kernel, rfl⟩
theorem dk_134_113 : zz_d mm_134 113 (.istore_n 3) 1 114 := ⟨by decide +kernel, rfl⟩
theorem dk_134_114 : zz_d mm_134 114 (.iinc 2 1) 3 117 := ⟨by decide +kernel, rfl⟩
theorem dk_134_117 : zz_d mm_134 117 (.goto (-75)) 3 120 := ⟨by decide +kernel, rfl⟩
theorem dk_134_120 : zz_d mm_134 120 (.iload_n 2) 1 121 := ⟨by decide +kernel, rfl⟩
theorem dk_134_121 : zz_d mm_134 121 (.iload_n 1) 1 122 := ⟨by decide +kernel, rfl⟩
theorem dk_134_122 : zz_d mm_134 122 (.if_icmp .eq 14) 3 125 := ⟨by decide +kernel, rfl⟩
theorem dk_134_125 : zz_d mm_134 125 (.iload_n 3) 1 126 := ⟨by decide +kernel, rfl⟩
theorem dk_134_126 : zz_d mm_134 126 (.ifCond .eq 12) 3 129 := ⟨by decide +kernel, rfl⟩
theorem dk_134_129 : zz_d mm_134 129 (.iload_n 2) 1 130 := ⟨by decide +kernel, rfl⟩
theorem dk_134_130 : zz_d mm_134 130 (.iload_n 1) 1 131 := ⟨by decide +kernel, rfl⟩
theorem dk_134_131 : zz_d mm_134 131 .isub 1 132 := ⟨by decide +kernel, rfl⟩
theorem dk_134_132 : zz_d mm_134 132 (.iconst 2) 1 133 := ⟨by decide +kernel, rfl⟩
theorem dk_134_133 : zz_d mm_134 133 (.if_icmp .eq 5) 3 136 := ⟨by decide +kernel, rfl⟩
theorem dk_134_136 : zz_d mm_134 136 (.iconst 0) 1 137 := ⟨by decide +kernel, rfl⟩
theorem dk_134_137 : zz_d mm_134 137 .ireturn 1 138 := ⟨by decide +kernel, rfl⟩
theorem dk_134_138 : zz_d mm_134 138 (.iload_n 2) 1 139 := ⟨by decide +kernel, rfl⟩
theorem dk_134_139 : zz_d mm_134 139 (.iconst 1) 1 140 := ⟨by decide +kernel, rfl⟩
theorem dk_134_140 : zz_d mm_134 140 .iadd 1 141 := ⟨by decide +kernel, rfl⟩
theorem dk_134_141 : zz_d mm_134 141 (.istore_n 1) 1 142 := ⟨by decide +kernel, rfl⟩
theorem dk_134_142 : zz_d mm_134 142 (.goto (-120)) 3 145 := ⟨by decide +kernel, rfl⟩
theorem dk_134_145 : zz_d mm_134 145 (.iconst 1) 1 146 := ⟨by decide +kernel, rfl⟩
theorem dk_134_146 : zz_d mm_134 146 .ireturn 1 147 := ⟨by decide +kernel, rfl⟩
theorem dk_135_0 : zz_d mm_135 0 (.iload_n 0) 1 1 := ⟨by decide +kernel, rfl⟩
theorem dk_135_1 : zz_d mm_135 1 (.bipush 47) 2 3 := ⟨by decide +kernel, rfl⟩
theorem dk_135_3 : zz_d mm_135 3 (.if_icmp .eq 21) 3 6 := ⟨by decide +kernel, rfl⟩
theorem dk_135_6 : zz_d mm_135 6 (.iload_n 0) 1 7 := ⟨by decide +kernel, rfl⟩
theorem dk_135_7 : zz_d mm_135 7 (.bipush 92) 2 9 := ⟨by decide +kernel, rfl⟩
theorem dk_135_9 : zz_d mm_135 9 (.if_icmp .eq 15) 3 12 := ⟨by decide +kernel, rfl⟩
theorem dk_135_12 : zz_d mm_135 12 (.iload_n 0) 1 13 := ⟨by decide +kernel, rfl⟩
theorem dk_135_13 : zz_d mm_135 13 (.bipush 37) 2 15 := ⟨by decide +kernel, rfl⟩
theorem dk_135_15 : zz_d mm_135 15 (.if_icmp .eq 9) 3 18 := ⟨by decide +kernel, rfl⟩
theorem dk_135_18 : zz_d mm_135 18 (.iload_n 0) 1 19 := ⟨by decide +kernel, rfl⟩
theorem dk_135_19 : zz_d mm_135 19 (.bipush 59) 2 21 := ⟨by decide +kernel, rfl⟩
theorem dk_135_21 : zz_d mm_135 21 (.if_icmp .ne 7) 3 24 := ⟨by decide +kernel, rfl⟩
theorem dk_135_24 : zz_d mm_135 24 (.iconst 1) 1 25 := ⟨by decide +kernel, rfl⟩
theorem dk_135_25 : zz_d mm_135 25 (.goto 4) 3 28 := ⟨by decide +kernel, rfl⟩
theorem dk_135_28 : zz_d mm_135 28 (.iconst 0) 1 29 := ⟨by decide +kernel, rfl⟩
theorem dk_135_29 : zz_d mm_135 29 .ireturn 1 30 := ⟨by decide +kernel, rfl⟩
theorem dk_136_0 : zz_d mm_136 0 (.aload_n 0) 1 1 := ⟨by decide +kernel, rfl⟩
theorem dk_136_1 : zz_d mm_136 1 (.getfield 181) 3 4 := ⟨by decide +kernel, rfl⟩
theorem dk_136_4 : zz_d mm_136 4 (.bipush 6) 2 6 := ⟨by decide +kernel, rfl⟩
theorem dk_136_6 : zz_d mm_136 6 (.if_icmp .eq 23) 3 9 := ⟨by decide +kernel, rfl⟩
theorem dk_136_9 : zz_d mm_136 9 (.iload_n 2) 1 10 := ⟨by decide +kernel, rfl⟩
theorem dk_136_10 : zz_d mm_136 10 (.ifCond .lt 19) 3 13 := ⟨by decide +kernel, rfl⟩
theorem dk_136_13 : zz_d mm_136 13 (.iload_n 2) 1 14 := ⟨by decide +kernel, rfl⟩
theorem dk_136_14 : zz_d mm_136 14 (.sipush 255) 3 17 := ⟨by decide +kernel, rfl⟩
theorem dk_136_17 : zz_d mm_136 17 (.if_icmp .gt 12) 3 20 := ⟨by decide +kernel, rfl⟩
theorem dk_136_20 : zz_d mm_136 20 (.iload_n 3) 1 21 := ⟨by decide +kernel, rfl⟩
theorem dk_136_21 : zz_d mm_136 21 (.ifCond .lt 8) 3 24 := ⟨by decide +kernel, rfl⟩
theorem dk_136_24 : zz_d mm_136 24 (.iload_n 3) 1 25 := ⟨by decide +kernel, rfl⟩
theorem dk_136_25 : zz_d mm_136 25 (.iconst 1) 1 26 := ⟨by decide +kernel, rfl⟩
theorem dk_136_26 : zz_d mm_136 26 (.if_icmp .le 5) 3 29 := ⟨by decide +kernel, rfl⟩
theorem dk_136_29 : zz_d mm_136 29 (.iconst (-1)) 1 30 := ⟨by decide +kernel, rfl⟩
theorem dk_136_30 : zz_d mm_136 30 .ireturn 1 31 := ⟨by decide +kernel, rfl⟩
theorem dk_136_31 : zz_d mm_136 31 (.aload_n 0) 1 32 := ⟨by decide +kernel, rfl⟩
theorem dk_136_32 : zz_d mm_136 32 (.getfield 13) 3 35 := ⟨by decide +kernel, rfl⟩
theorem dk_136_35 : zz_d mm_136 35 (.aload_n 0) 1 36 := ⟨by decide +kernel, rfl⟩
theorem dk_136_36 : zz_d mm_136 36 (.getfield 181) 3 39 := ⟨by decide +kernel, rfl⟩
theorem dk_136_39 : zz_d mm_136 39 (.iload_n 2) 1 40 := ⟨by decide +kernel, rfl⟩
theorem dk_136_40 : zz_d mm_136 40 .iastore 1 41 := ⟨by decide +kernel, rfl⟩
theorem dk_136_41 : zz_d mm_136 41 (.aload_n 0) 1 42 := ⟨by decide +kernel, rfl⟩
theorem dk_136_42 : zz_d mm_136 42 (.getfield 16) 3 45 := ⟨by decide +kernel, rfl⟩
theorem dk_136_45 : zz_d mm_136 45 (.aload_n 0) 1 46 := ⟨by decide +kernel, rfl⟩
theorem dk_136_46 : zz_d mm_136 46 (.getfield 181) 3 49 := ⟨by decide +kernel, rfl⟩
theorem dk_136_49 : zz_d mm_136 49 (.iload_n 3) 1 50 := ⟨by decide +kernel, rfl⟩
theorem dk_136_50 : zz_d mm_136 50 .iastore 1 51 := ⟨by decide +kernel, rfl⟩
theorem dk_136_51 : zz_d mm_136 51 (.aload_n 0) 1 52 := ⟨by decide +kernel, rfl⟩
theorem dk_136_52 : zz_d mm_136 52 (.getfield 19) 3 55 := ⟨by decide +kernel, rfl⟩
theorem dk_136_55 : zz_d mm_136 55 (.aload_n 0) 1 56 := ⟨by decide +kernel, rfl⟩
theorem dk_136_56 : zz_d mm_136 56 (.getfield 181) 3 59 := ⟨by decide +kernel, rfl⟩
theorem dk_136_59 : zz_d mm_136 59 (.aload_n 0) 1 60 := ⟨by decide +kernel, rfl⟩
theorem dk_136_60 : zz_d mm_136 60 (.invokevirtual 184) 3 63 := ⟨by decide +kernel, rfl⟩
theorem dk_136_63 : zz_d mm_136 63 .iastore 1 64 := ⟨by decide +kernel, rfl⟩
theorem dk_136_64 : zz_d mm_136 64 (.aload_n 0) 1 65 := ⟨by decide +kernel, rfl⟩
theorem dk_136_65 : zz_d mm_136 65 (.getfield 22) 3 68 := ⟨by decide +kernel, rfl⟩
theorem dk_136_68 : zz_d mm_136 68 (.aload_n 0) 1 69 := ⟨by decide +kernel, rfl⟩
theorem dk_136_69 : zz_d mm_136 69 (.getfield 181) 3 72 := ⟨by decide +kernel, rfl⟩
theorem dk_136_72 : zz_d mm_136 72 (.iload_n 1) 1 73 := ⟨by decide +kernel, rfl⟩
theorem dk_136_73 : zz_d mm_136 73 (.iload_n 3) 1 74 := ⟨by decide +kernel, rfl⟩
theorem dk_136_74 : zz_d mm_136 74 (.aload_n 0) 1 75 := ⟨by decide +kernel, rfl⟩
theorem dk_136_75 : zz_d mm_136 75 (.getfield 19) 3 78 := ⟨by decide +kernel, rfl⟩
theorem dk_136_78 : zz_d mm_136 78 (.aload_n 0) 1 79 := ⟨by decide +kernel, rfl⟩
theorem dk_136_79 : zz_d mm_136 79 (.getfield 181) 3 82 := ⟨by decide +kernel, rfl⟩
theorem dk_136_82 : zz_d mm_136 82 .iaload 1 83 := ⟨by decide +kernel, rfl⟩
theorem dk_136_83 : zz_d mm_136 83 (.invokestatic 188) 3 86 := ⟨by decide +kernel, rfl⟩
theorem dk_136_86 : zz_d mm_136 86 .iastore 1 87 := ⟨by decide +kernel, rfl⟩
theorem dk_136_87 : zz_d mm_136 87 (.aload_n 0) 1 88 := ⟨by decide +kernel, rfl⟩
theorem dk_136_88 : zz_d mm_136 88 .dup 1 89 := ⟨by decide +kernel, rfl⟩
theorem dk_136_89 : zz_d mm_136 89 (.getfield 181) 3 92 := ⟨by decide +kernel, rfl⟩
theorem dk_136_92 : zz_d mm_136 92 (.iconst 1) 1 93 := ⟨by decide +kernel, rfl⟩
theorem dk_136_93 : zz_d mm_136 93 .iadd 1 94 := ⟨by decide +kernel, rfl⟩
theorem dk_136_94 : zz_d mm_136 94 (.putfield 181) 3 97 := ⟨by decide +kernel, rfl⟩
theorem dk_136_97 : zz_d mm_136 97 (.aload_n 0) 1 98 := ⟨by decide +kernel, rfl⟩
theorem dk_136_98 : zz_d mm_136 98 (.getfield 181) 3 101 := ⟨by decide +kernel, rfl⟩
theorem dk_136_101 : zz_d mm_136 101 (.iconst 1) 1 102 := ⟨by decide +kernel, rfl⟩
theorem dk_136_102 : zz_d mm_136 102 .isub 1 103 := ⟨by decide +kernel, rfl⟩
theorem dk_136_103 : zz_d mm_136 103 .ireturn 1 104 := ⟨by decide +kernel, rfl⟩
theorem dk_137_0 : zz_d mm_137 0 (.aload_n 0) 1 1 := ⟨by decide +kernel, rfl⟩
theorem dk_137_1 : zz_d mm_137 1 .dup 1 2 := ⟨by decide +kernel, rfl⟩
theorem dk_137_2 : zz_d mm_137 2 (.getfield 178) 3 5 := ⟨by decide +kernel, rfl⟩
theorem dk_137_5 : zz_d mm_137 5 (.iconst 1) 1 6 := ⟨by decide +kernel, rfl⟩
theorem dk_137_6 : zz_d mm_137 6 .iadd 1 7 := ⟨by decide +kernel, rfl⟩
theorem dk_137_7 : zz_d mm_137 7 (.putfield 178) 3 10 := ⟨by decide +kernel, rfl⟩
theorem dk_137_10 : zz_d mm_137 10 (.aload_n 0) 1 11 := ⟨by decide +kernel, rfl⟩
theorem dk_137_11 : zz_d mm_137 11 (.getfield 178) 3 14 := ⟨by decide +kernel, rfl⟩
theorem dk_137_14 : zz_d mm_137 14 .ireturn 1 15 := ⟨by decide +kernel, rfl⟩
theorem dk_138_0 : zz_d mm_138 0 (.iload_n 2) 1 1 := ⟨by decide +kernel, rfl⟩
theorem dk_138_1 : zz_d mm_138 1 (.istore_n 3) 1 2 := ⟨by decide +kernel, rfl⟩
theorem dk_138_2 : zz_d mm_138 2 (.iload_n 1) 1 3 := ⟨by decide +kernel, rfl⟩
theorem dk_138_3 : zz_d mm_138 3 (.ifCond .ne 7) 3 6 := ⟨by decide +kernel, rfl⟩
theorem dk_138_6 : zz_d mm_138 6 (.iconst 4) 1 7 := ⟨by decide +kernel, rfl⟩
theorem dk_138_7 : zz_d mm_138 7 (.goto 5) 3 10 := ⟨by decide +kernel, rfl⟩
theorem dk_138_10 : zz_d mm_138 10 (.bipush 9) 2 12 := ⟨by decide +kernel, rfl⟩
theorem dk_138_12 : zz_d mm_138 12 (.istore 4) 2 14 := ⟨by decide +kernel, rfl⟩
theorem dk_138_14 : zz_d mm_138 14 (.iconst 0) 1 15 := ⟨by decide +kernel, rfl⟩
theorem dk_138_15 : zz_d mm_138 15 (.istore 5) 2 17 := ⟨by decide +kernel, rfl⟩
theorem dk_138_17 : zz_d mm_138 17 (.iload 5) 2 19 := ⟨by decide +kernel, rfl⟩
theorem dk_138_19 : zz_d mm_138 19 (.iload 4) 2 21 := ⟨by decide +kernel, rfl⟩
theorem dk_138_21 : zz_d mm_138 21 (.if_icmp .ge 21) 3 24 := ⟨by decide +kernel, rfl⟩
theorem dk_138_24 : zz_d mm_138 24 (.bipush 31) 2 26 := ⟨by decide +kernel, rfl⟩
theorem dk_138_26 : zz_d mm_138 26 (.iload_n 3) 1 27 := ⟨by decide +kernel, rfl⟩
theorem dk_138_27 : zz_d mm_138 27 .imul 1 28 := ⟨by decide +kernel, rfl⟩
theorem dk_138_28 : zz_d mm_138 28 (.iload_n 0) 1 29 := ⟨by decide +kernel, rfl⟩
theorem dk_138_29 : zz_d mm_138 29 .iadd 1 30 := ⟨by decide +kernel, rfl⟩
theorem dk_138_30 : zz_d mm_138 30 (.iload_n 3) 1 31 := ⟨by decide +kernel, rfl⟩
theorem dk_138_31 : zz_d mm_138 31 (.bipush 9) 2 33 := ⟨by decide +kernel, rfl⟩
theorem dk_138_33 : zz_d mm_138 33 .iushr 1 34 := ⟨by decide +kernel, rfl⟩
theorem dk_138_34 : zz_d mm_138 34 .ixor 1 35 := ⟨by decide +kernel, rfl⟩
theorem dk_138_35 : zz_d mm_138 35 (.istore_n 3) 1 36 := ⟨by decide +kernel, rfl⟩
theorem dk_138_36 : zz_d mm_138 36 (.iinc 5 1) 3 39 := ⟨by decide +kernel, rfl⟩
theorem dk_138_39 : zz_d mm_138 39 (.goto (-22)) 3 42 := ⟨by decide +kernel, rfl⟩
theorem dk_138_42 : zz_d mm_138 42 (.iload_n 3) 1 43 := ⟨by decide +kernel, rfl⟩
theorem dk_138_43 : zz_d mm_138 43 .ireturn 1 44 := ⟨by decide +kernel, rfl⟩
theorem dk_139_0 : zz_d mm_139 0 (.aload_n 0) 1 1 := ⟨by decide +kernel, rfl⟩
theorem dk_139_1 : zz_d mm_139 1 (.iload_n 1) 1 2 := ⟨by decide +kernel, rfl⟩
theorem dk_139_2 : zz_d mm_139 2 (.invokevirtual 198) 3 5 := ⟨by decide +kernel, rfl⟩
theorem dk_139_5 : zz_d mm_139 5 (.ifCond .ne 5) 3 8 := ⟨by decide +kernel, rfl⟩
theorem dk_139_8 : zz_d mm_139 8 (.iconst (-1)) 1 9 := ⟨by decide +kernel, rfl⟩
theorem dk_139_9 : zz_d mm_139 9 .ireturn 1 10 := ⟨by decide +kernel, rfl⟩
theorem dk_139_10 : zz_d mm_139 10 (.aload_n 0) 1 11 := ⟨by decide +kernel, rfl⟩
theorem dk_139_11 : zz_d mm_139 11 (.getfield 192) 3 14 := ⟨by decide +kernel, rfl⟩
theorem dk_139_14 : zz_d mm_139 14 (.aload_n 0) 1 15 := ⟨by decide +kernel, rfl⟩
theorem dk_139_15 : zz_d mm_139 15 (.getfield 28) 3 18 := ⟨by decide +kernel, rfl⟩
theorem dk_139_18 : zz_d mm_139 18 (.iload_n 1) 1 19 := ⟨by decide +kernel, rfl⟩
theorem dk_139_19 : zz_d mm_139 19 .iaload 1 20 := ⟨by decide +kernel, rfl⟩
theorem dk_139_20 : zz_d mm_139 20 (.if_icmp .ge 6) 3 23 := ⟨by decide +kernel, rfl⟩
theorem dk_139_23 : zz_d mm_139 23 (.bipush (-2)) 2 25 := ⟨by decide +kernel, rfl⟩
theorem dk_139_25 : zz_d mm_139 25 .ireturn 1 26 := ⟨by decide +kernel, rfl⟩
theorem dk_139_26 : zz_d mm_139 26 (.iload_n 2) 1 27 := ⟨by decide +kernel, rfl⟩
theorem dk_139_27 : zz_d mm_139 27 (.aload_n 0) 1 28 := ⟨by decide +kernel, rfl⟩
theorem dk_139_28 : zz_d mm_139 28 (.getfield 16) 3 31 := ⟨by decide +kernel, rfl⟩
theorem dk_139_31 : zz_d mm_139 31 (.iload_n 1) 1 32 := ⟨by decide +kernel, rfl⟩
theorem dk_139_32 : zz_d mm_139 32 .iaload 1 33 := ⟨by decide +kernel, rfl⟩
theorem dk_139_33 : zz_d mm_139 33 (.aload_n 0) 1 34 := ⟨by decide +kernel, rfl⟩
theorem dk_139_34 : zz_d mm_139 34 (.getfield 19) 3 37 := ⟨by decide +kernel, rfl⟩
theorem dk_139_37 : zz_d mm_139 37 (.iload_n 1) 1 38 := ⟨by decide +kernel, rfl⟩
theorem dk_139_38 : zz_d mm_139 38 .iaload 1 39 := ⟨by decide +kernel, rfl⟩
theorem dk_139_39 : zz_d mm_139 39 (.invokestatic 188) 3 42 := ⟨by decide +kernel, rfl⟩
theorem dk_139_42 : zz_d mm_139 42 (.aload_n 0) 1 43 := ⟨by decide +kernel, rfl⟩
theorem dk_139_43 : zz_d mm_139 43 (.getfield 22) 3 46 := ⟨by decide +kernel, rfl⟩
theorem dk_139_46 : zz_d mm_139 46 (.iload_n 1) 1 47 := ⟨by decide +kernel, rfl⟩
theorem dk_139_47 : zz_d mm_139 47 .iaload 1 48 := ⟨by decide +kernel, rfl⟩
theorem dk_139_48 : zz_d mm_139 48 (.if_icmp .eq 56) 3 51 := ⟨by decide +kernel, rfl⟩
theorem dk_139_51 : zz_d mm_139 51 (.aload_n 0) 1 52 := ⟨by decide +kernel, rfl⟩
theorem dk_139_52 : zz_d mm_139 52 (.getfield 25) 3 55 := ⟨by decide +kernel, rfl⟩
theorem dk_139_55 : zz_d mm_139 55 (.iload_n 1) 1 56 := ⟨by decide +kernel, rfl⟩
theorem dk_139_56 : zz_d mm_139 56 .dup2 1 57 := ⟨by decide +kernel, rfl⟩
theorem dk_139_57 : zz_d mm_139 57 .iaload 1 58 := ⟨by decide +kernel, rfl⟩
theorem dk_139_58 : zz_d mm_139 58 (.iconst 1) 1 59 := ⟨by decide +kernel, rfl⟩
theorem dk_139_59 : zz_d mm_139 59 .iadd 1 60 := ⟨by decide +kernel, rfl⟩
theorem dk_139_60 : zz_d mm_139 60 .iastore 1 61 := ⟨by decide +kernel, rfl⟩
theorem dk_139_61 : zz_d mm_139 61 (.aload_n 0) 1 62 := ⟨by decide +kernel, rfl⟩
theorem dk_139_62 : zz_d mm_139 62 (.getfield 25) 3 65 := ⟨by decide +kernel, rfl⟩
theorem dk_139_65 : zz_d mm_139 65 (.iload_n 1) 1 66 := ⟨by decide +kernel, rfl⟩
theorem dk_139_66 : zz_d mm_139 66 .iaload 1 67 := ⟨by decide +kernel, rfl⟩
theorem dk_139_67 : zz_d mm_139 67 (.iconst 3) 1 68 := ⟨by decide +kernel, rfl⟩
theorem dk_139_68 : zz_d mm_139 68 (.if_icmp .ne 33) 3 71 := ⟨by decide +kernel, rfl⟩
theorem dk_139_71 : zz_d mm_139 71 (.aload_n 0) 1 72 := ⟨by decide +kernel, rfl⟩
theorem dk_139_72 : zz_d mm_139 72 (.getfield 25) 3 75 := ⟨by decide +kernel, rfl⟩
theorem dk_139_75 : zz_d mm_139 75 (.iload_n 1) 1 76 := ⟨by decide +kernel, rfl⟩
theorem dk_139_76 : zz_d mm_139 76 (.iconst 0) 1 77 := ⟨by decide +kernel, rfl⟩
theorem dk_139_77 : zz_d mm_139 77 .iastore 1 78 := ⟨by decide +kernel, rfl⟩
theorem dk_139_78 : zz_d mm_139 78 (.aload_n 0) 1 79 := ⟨by decide +kernel, rfl⟩
theorem dk_139_79 : zz_d mm_139 79 (.getfield 28) 3 82 := ⟨by decide +kernel, rfl⟩
theorem dk_139_82 : zz_d mm_139 82 (.iload_n 1) 1 83 := ⟨by decide +kernel, rfl⟩
theorem dk_139_83 : zz_d mm_139 83 (.aload_n 0) 1 84 := ⟨by decide +kernel, rfl⟩
theorem dk_139_84 : zz_d mm_139 84 (.getfield 192) 3 87 := ⟨by decide +kernel, rfl⟩
theorem dk_139_87 : zz_d mm_139 87 (.bipush 10) 2 89 := ⟨by decide +kernel, rfl⟩
theorem dk_139_89 : zz_d mm_139 89 .iadd 1 90 := ⟨by decide +kernel, rfl⟩
theorem dk_139_90 : zz_d mm_139 90 .iastore 1 91 := ⟨by decide +kernel, rfl⟩
theorem dk_139_91 : zz_d mm_139 91 (.aload_n 0) 1 92 := ⟨by decide +kernel, rfl⟩
theorem dk_139_92 : zz_d mm_139 92 .dup 1 93 := ⟨by decide +kernel, rfl⟩
theorem dk_139_93 : zz_d mm_139 93 (.getfield 201) 3 96 := ⟨by decide +kernel, rfl⟩
theorem dk_139_96 : zz_d mm_139 96 (.iconst 1) 1 97 := ⟨by decide +kernel, rfl⟩
end
section
theorem dk_139_97 : zz_d mm_139 97 .iadd 1 98 := ⟨by decide +kernel, rfl⟩
theorem dk_139_98 : zz_d mm_139 98 (.putfield 201) 3 101 := ⟨by decide +kernel, rfl⟩
theorem dk_139_101 : zz_d mm_139 101 (.bipush (-3)) 2 103 := ⟨by decide +kernel, rfl⟩
theorem dk_139_103 : zz_d mm_139 103 .ireturn 1 104 := ⟨by decide +kernel, rfl⟩
theorem dk_139_104 : zz_d mm_139 104 (.aload_n 0) 1 105 := ⟨by decide +kernel, rfl⟩
theorem dk_139_105 : zz_d mm_139 105 (.getfield 25) 3 108 := ⟨by decide +kernel, rfl⟩
theorem dk_139_108 : zz_d mm_139 108 (.iload_n 1) 1 109 := ⟨by decide +kernel, rfl⟩
theorem dk_139_109 : zz_d mm_139 109 (.iconst 0) 1 110 := ⟨by decide +kernel, rfl⟩
theorem dk_139_110 : zz_d mm_139 110 .iastore 1 111 := ⟨by decide +kernel, rfl⟩
theorem dk_139_111 : zz_d mm_139 111 (.aload_n 0) 1 112 := ⟨by decide +kernel, rfl⟩
theorem dk_139_112 : zz_d mm_139 112 (.getfield 16) 3 115 := ⟨by decide +kernel, rfl⟩
theorem dk_139_115 : zz_d mm_139 115 (.iload_n 1) 1 116 := ⟨by decide +kernel, rfl⟩
theorem dk_139_116 : zz_d mm_139 116 .iaload 1 117 := ⟨by decide +kernel, rfl⟩
theorem dk_139_117 : zz_d mm_139 117 (.ifCond .ne 37) 3 120 := ⟨by decide +kernel, rfl⟩
theorem dk_139_120 : zz_d mm_139 120 (.aload_n 0) 1 121 := ⟨by decide +kernel, rfl⟩
theorem dk_139_121 : zz_d mm_139 121 (.getfield 16) 3 124 := ⟨by decide +kernel, rfl⟩
theorem dk_139_124 : zz_d mm_139 124 (.iload_n 1) 1 125 := ⟨by decide +kernel, rfl⟩
theorem dk_139_125 : zz_d mm_139 125 (.iconst 1) 1 126 := ⟨by decide +kernel, rfl⟩
theorem dk_139_126 : zz_d mm_139 126 .iastore 1 127 := ⟨by decide +kernel, rfl⟩
theorem dk_139_127 : zz_d mm_139 127 (.aload_n 0) 1 128 := ⟨by decide +kernel, rfl⟩
theorem dk_139_128 : zz_d mm_139 128 (.getfield 19) 3 131 := ⟨by decide +kernel, rfl⟩
theorem dk_139_131 : zz_d mm_139 131 (.iload_n 1) 1 132 := ⟨by decide +kernel, rfl⟩
theorem dk_139_132 : zz_d mm_139 132 (.aload_n 0) 1 133 := ⟨by decide +kernel, rfl⟩
theorem dk_139_133 : zz_d mm_139 133 (.invokevirtual 184) 3 136 := ⟨by decide +kernel, rfl⟩
theorem dk_139_136 : zz_d mm_139 136 .iastore 1 137 := ⟨by decide +kernel, rfl⟩
theorem dk_139_137 : zz_d mm_139 137 (.aload_n 0) 1 138 := ⟨by decide +kernel, rfl⟩
theorem dk_139_138 : zz_d mm_139 138 (.getfield 22) 3 141 := ⟨by decide +kernel, rfl⟩
theorem dk_139_141 : zz_d mm_139 141 (.iload_n 1) 1 142 := ⟨by decide +kernel, rfl⟩
theorem dk_139_142 : zz_d mm_139 142 (.iload_n 2) 1 143 := ⟨by decide +kernel, rfl⟩
theorem dk_139_143 : zz_d mm_139 143 (.iconst 1) 1 144 := ⟨by decide +kernel, rfl⟩
theorem dk_139_144 : zz_d mm_139 144 (.aload_n 0) 1 145 := ⟨by decide +kernel, rfl⟩
theorem dk_139_145 : zz_d mm_139 145 (.getfield 19) 3 148 := ⟨by decide +kernel, rfl⟩
theorem dk_139_148 : zz_d mm_139 148 (.iload_n 1) 1 149 := ⟨by decide +kernel, rfl⟩
theorem dk_139_149 : zz_d mm_139 149 .iaload 1 150 := ⟨by decide +kernel, rfl⟩
theorem dk_139_150 : zz_d mm_139 150 (.invokestatic 188) 3 153 := ⟨by decide +kernel, rfl⟩
theorem dk_139_153 : zz_d mm_139 153 .iastore 1 154 := ⟨by decide +kernel, rfl⟩
theorem dk_139_154 : zz_d mm_139 154 (.aload_n 0) 1 155 := ⟨by decide +kernel, rfl⟩
theorem dk_139_155 : zz_d mm_139 155 (.iload_n 3) 1 156 := ⟨by decide +kernel, rfl⟩
theorem dk_139_156 : zz_d mm_139 156 (.invokevirtual 204) 3 159 := ⟨by decide +kernel, rfl⟩
theorem dk_139_159 : zz_d mm_139 159 (.istore 5) 2 161 := ⟨by decide +kernel, rfl⟩
theorem dk_139_161 : zz_d mm_139 161 (.iload 5) 2 163 := ⟨by decide +kernel, rfl⟩
theorem dk_139_163 : zz_d mm_139 163 (.ifCond .lt 11) 3 166 := ⟨by decide +kernel, rfl⟩
theorem dk_139_166 : zz_d mm_139 166 (.aload_n 0) 1 167 := ⟨by decide +kernel, rfl⟩
theorem dk_139_167 : zz_d mm_139 167 (.getfield 31) 3 170 := ⟨by decide +kernel, rfl⟩
theorem dk_139_170 : zz_d mm_139 170 (.iload 5) 2 172 := ⟨by decide +kernel, rfl⟩
theorem dk_139_172 : zz_d mm_139 172 (.iconst 0) 1 173 := ⟨by decide +kernel, rfl⟩
theorem dk_139_173 : zz_d mm_139 173 .bastore 1 174 := ⟨by decide +kernel, rfl⟩
theorem dk_139_174 : zz_d mm_139 174 (.aload_n 0) 1 175 := ⟨by decide +kernel, rfl⟩
theorem dk_139_175 : zz_d mm_139 175 (.iload_n 1) 1 176 := ⟨by decide +kernel, rfl⟩
theorem dk_139_176 : zz_d mm_139 176 (.iconst 0) 1 177 := ⟨by decide +kernel, rfl⟩
theorem dk_139_177 : zz_d mm_139 177 (.invokevirtual 207) 3 180 := ⟨by decide +kernel, rfl⟩
theorem dk_139_180 : zz_d mm_139 180 (.istore 6) 2 182 := ⟨by decide +kernel, rfl⟩
theorem dk_139_182 : zz_d mm_139 182 (.iload 4) 2 184 := ⟨by decide +kernel, rfl⟩
theorem dk_139_184 : zz_d mm_139 184 (.ifCond .eq 8) 3 187 := ⟨by decide +kernel, rfl⟩
theorem dk_139_187 : zz_d mm_139 187 (.aload_n 0) 1 188 := ⟨by decide +kernel, rfl⟩
theorem dk_139_188 : zz_d mm_139 188 (.iload_n 1) 1 189 := ⟨by decide +kernel, rfl⟩
theorem dk_139_189 : zz_d mm_139 189 (.invokevirtual 211) 3 192 := ⟨by decide +kernel, rfl⟩
theorem dk_139_192 : zz_d mm_139 192 (.aload_n 0) 1 193 := ⟨by decide +kernel, rfl⟩
theorem dk_139_193 : zz_d mm_139 193 (.getfield 35) 3 196 := ⟨by decide +kernel, rfl⟩
theorem dk_139_196 : zz_d mm_139 196 (.iload 6) 2 198 := ⟨by decide +kernel, rfl⟩
theorem dk_139_198 : zz_d mm_139 198 .iaload 1 199 := ⟨by decide +kernel, rfl⟩
theorem dk_139_199 : zz_d mm_139 199 .ireturn 1 200 := ⟨by decide +kernel, rfl⟩
theorem dk_140_0 : zz_d mm_140 0 (.iload_n 1) 1 1 := ⟨by decide +kernel, rfl⟩
theorem dk_140_1 : zz_d mm_140 1 (.ifCond .lt 15) 3 4 := ⟨by decide +kernel, rfl⟩
theorem dk_140_4 : zz_d mm_140 4 (.iload_n 1) 1 5 := ⟨by decide +kernel, rfl⟩
theorem dk_140_5 : zz_d mm_140 5 (.aload_n 0) 1 6 := ⟨by decide +kernel, rfl⟩
theorem dk_140_6 : zz_d mm_140 6 (.getfield 181) 3 9 := ⟨by decide +kernel, rfl⟩
theorem dk_140_9 : zz_d mm_140 9 (.if_icmp .ge 7) 3 12 := ⟨by decide +kernel, rfl⟩
theorem dk_140_12 : zz_d mm_140 12 (.iconst 1) 1 13 := ⟨by decide +kernel, rfl⟩
theorem dk_140_13 : zz_d mm_140 13 (.goto 4) 3 16 := ⟨by decide +kernel, rfl⟩
theorem dk_140_16 : zz_d mm_140 16 (.iconst 0) 1 17 := ⟨by decide +kernel, rfl⟩
theorem dk_140_17 : zz_d mm_140 17 .ireturn 1 18 := ⟨by decide +kernel, rfl⟩
theorem dk_141_0 : zz_d mm_141 0 (.iconst (-1)) 1 1 := ⟨by decide +kernel, rfl⟩
theorem dk_141_1 : zz_d mm_141 1 (.istore_n 2) 1 2 := ⟨by decide +kernel, rfl⟩
theorem dk_141_2 : zz_d mm_141 2 (.iconst 0) 1 3 := ⟨by decide +kernel, rfl⟩
theorem dk_141_3 : zz_d mm_141 3 (.istore_n 3) 1 4 := ⟨by decide +kernel, rfl⟩
theorem dk_141_4 : zz_d mm_141 4 (.iload_n 3) 1 5 := ⟨by decide +kernel, rfl⟩
theorem dk_141_5 : zz_d mm_141 5 (.bipush 12) 2 7 := ⟨by decide +kernel, rfl⟩
theorem dk_141_7 : zz_d mm_141 7 (.if_icmp .ge 33) 3 10 := ⟨by decide +kernel, rfl⟩
theorem dk_141_10 : zz_d mm_141 10 (.aload_n 0) 1 11 := ⟨by decide +kernel, rfl⟩
theorem dk_141_11 : zz_d mm_141 11 (.iload_n 3) 1 12 := ⟨by decide +kernel, rfl⟩
theorem dk_141_12 : zz_d mm_141 12 (.invokevirtual 195) 3 15 := ⟨by decide +kernel, rfl⟩
theorem dk_141_15 : zz_d mm_141 15 (.ifCond .eq 17) 3 18 := ⟨by decide +kernel, rfl⟩
theorem dk_141_18 : zz_d mm_141 18 (.aload_n 0) 1 19 := ⟨by decide +kernel, rfl⟩
theorem dk_141_19 : zz_d mm_141 19 (.getfield 35) 3 22 := ⟨by decide +kernel, rfl⟩
theorem dk_141_22 : zz_d mm_141 22 (.iload_n 3) 1 23 := ⟨by decide +kernel, rfl⟩
theorem dk_141_23 : zz_d mm_141 23 .iaload 1 24 := ⟨by decide +kernel, rfl⟩
theorem dk_141_24 : zz_d mm_141 24 (.iload_n 1) 1 25 := ⟨by decide +kernel, rfl⟩
theorem dk_141_25 : zz_d mm_141 25 (.if_icmp .ne 7) 3 28 := ⟨by decide +kernel, rfl⟩
theorem dk_141_28 : zz_d mm_141 28 (.iload_n 3) 1 29 := ⟨by decide +kernel, rfl⟩
theorem dk_141_29 : zz_d mm_141 29 (.goto 4) 3 32 := ⟨by decide +kernel, rfl⟩
theorem dk_141_32 : zz_d mm_141 32 (.iload_n 2) 1 33 := ⟨by decide +kernel, rfl⟩
theorem dk_141_33 : zz_d mm_141 33 (.istore_n 2) 1 34 := ⟨by decide +kernel, rfl⟩
theorem dk_141_34 : zz_d mm_141 34 (.iinc 3 1) 3 37 := ⟨by decide +kernel, rfl⟩
theorem dk_141_37 : zz_d mm_141 37 (.goto (-33)) 3 40 := ⟨by decide +kernel, rfl⟩
theorem dk_141_40 : zz_d mm_141 40 (.iload_n 2) 1 41 := ⟨by decide +kernel, rfl⟩
theorem dk_141_41 : zz_d mm_141 41 .ireturn 1 42 := ⟨by decide +kernel, rfl⟩
theorem dk_142_0 : zz_d mm_142 0 (.aload_n 0) 1 1 := ⟨by decide +kernel, rfl⟩
theorem dk_142_1 : zz_d mm_142 1 (.getfield 31) 3 4 := ⟨by decide +kernel, rfl⟩
theorem dk_142_4 : zz_d mm_142 4 (.iload_n 1) 1 5 := ⟨by decide +kernel, rfl⟩
theorem dk_142_5 : zz_d mm_142 5 .baload 1 6 := ⟨by decide +kernel, rfl⟩
theorem dk_142_6 : zz_d mm_142 6 (.ifCond .eq 39) 3 9 := ⟨by decide +kernel, rfl⟩
theorem dk_142_9 : zz_d mm_142 9 (.aload_n 0) 1 10 := ⟨by decide +kernel, rfl⟩
theorem dk_142_10 : zz_d mm_142 10 (.getfield 192) 3 13 := ⟨by decide +kernel, rfl⟩
theorem dk_142_13 : zz_d mm_142 13 (.aload_n 0) 1 14 := ⟨by decide +kernel, rfl⟩
theorem dk_142_14 : zz_d mm_142 14 (.getfield 44) 3 17 := ⟨by decide +kernel, rfl⟩
theorem dk_142_17 : zz_d mm_142 17 (.iload_n 1) 1 18 := ⟨by decide +kernel, rfl⟩
theorem dk_142_18 : zz_d mm_142 18 .iaload 1 19 := ⟨by decide +kernel, rfl⟩
theorem dk_142_19 : zz_d mm_142 19 .isub 1 20 := ⟨by decide +kernel, rfl⟩
theorem dk_142_20 : zz_d mm_142 20 (.bipush 60) 2 22 := ⟨by decide +kernel, rfl⟩
theorem dk_142_22 : zz_d mm_142 22 (.if_icmp .gt 23) 3 25 := ⟨by decide +kernel, rfl⟩
theorem dk_142_25 : zz_d mm_142 25 (.aload_n 0) 1 26 := ⟨by decide +kernel, rfl⟩
theorem dk_142_26 : zz_d mm_142 26 (.getfield 192) 3 29 := ⟨by decide +kernel, rfl⟩
theorem dk_142_29 : zz_d mm_142 29 (.aload_n 0) 1 30 := ⟨by decide +kernel, rfl⟩
theorem dk_142_30 : zz_d mm_142 30 (.getfield 47) 3 33 := ⟨by decide +kernel, rfl⟩
theorem dk_142_33 : zz_d mm_142 33 (.iload_n 1) 1 34 := ⟨by decide +kernel, rfl⟩
theorem dk_142_34 : zz_d mm_142 34 .iaload 1 35 := ⟨by decide +kernel, rfl⟩
theorem dk_142_35 : zz_d mm_142 35 .isub 1 36 := ⟨by decide +kernel, rfl⟩
theorem dk_142_36 : zz_d mm_142 36 (.bipush 20) 2 38 := ⟨by decide +kernel, rfl⟩
theorem dk_142_38 : zz_d mm_142 38 (.if_icmp .gt 7) 3 41 := ⟨by decide +kernel, rfl⟩
theorem dk_142_41 : zz_d mm_142 41 (.iconst 1) 1 42 := ⟨by decide +kernel, rfl⟩
theorem dk_142_42 : zz_d mm_142 42 (.goto 4) 3 45 := ⟨by decide +kernel, rfl⟩
theorem dk_142_45 : zz_d mm_142 45 (.iconst 0) 1 46 := ⟨by decide +kernel, rfl⟩
theorem dk_142_46 : zz_d mm_142 46 .ireturn 1 47 := ⟨by decide +kernel, rfl⟩
theorem dk_143_0 : zz_d mm_143 0 (.iconst 2) 1 1 := ⟨by decide +kernel, rfl⟩
theorem dk_143_1 : zz_d mm_143 1 (.iload_n 1) 1 2 := ⟨by decide +kernel, rfl⟩
theorem dk_143_2 : zz_d mm_143 2 .imul 1 3 := ⟨by decide +kernel, rfl⟩
theorem dk_143_3 : zz_d mm_143 3 (.istore_n 3) 1 4 := ⟨by decide +kernel, rfl⟩
theorem dk_143_4 : zz_d mm_143 4 (.iload_n 3) 1 5 := ⟨by decide +kernel, rfl⟩
theorem dk_143_5 : zz_d mm_143 5 (.iconst 1) 1 6 := ⟨by decide +kernel, rfl⟩
theorem dk_143_6 : zz_d mm_143 6 .iadd 1 7 := ⟨by decide +kernel, rfl⟩
theorem dk_143_7 : zz_d mm_143 7 (.istore 4) 2 9 := ⟨by decide +kernel, rfl⟩
theorem dk_143_9 : zz_d mm_143 9 (.aload_n 0) 1 10 := ⟨by decide +kernel, rfl⟩
theorem dk_143_10 : zz_d mm_143 10 (.getfield 47) 3 13 := ⟨by decide +kernel, rfl⟩
theorem dk_143_13 : zz_d mm_143 13 (.iload_n 3) 1 14 := ⟨by decide +kernel, rfl⟩
theorem dk_143_14 : zz_d mm_143 14 .iaload 1 15 := ⟨by decide +kernel, rfl⟩
theorem dk_143_15 : zz_d mm_143 15 (.aload_n 0) 1 16 := ⟨by decide +kernel, rfl⟩
theorem dk_143_16 : zz_d mm_143 16 (.getfield 47) 3 19 := ⟨by decide +kernel, rfl⟩
theorem dk_143_19 : zz_d mm_143 19 (.iload 4) 2 21 := ⟨by decide +kernel, rfl⟩
theorem dk_143_21 : zz_d mm_143 21 .iaload 1 22 := ⟨by decide +kernel, rfl⟩
theorem dk_143_22 : zz_d mm_143 22 (.if_icmp .lt 35) 3 25 := ⟨by decide +kernel, rfl⟩
theorem dk_143_25 : zz_d mm_143 25 (.aload_n 0) 1 26 := ⟨by decide +kernel, rfl⟩
theorem dk_143_26 : zz_d mm_143 26 (.getfield 47) 3 29 := ⟨by decide +kernel, rfl⟩
theorem dk_143_29 : zz_d mm_143 29 (.iload_n 3) 1 30 := ⟨by decide +kernel, rfl⟩
theorem dk_143_30 : zz_d mm_143 30 .iaload 1 31 := ⟨by decide +kernel, rfl⟩
theorem dk_143_31 : zz_d mm_143 31 (.aload_n 0) 1 32 := ⟨by decide +kernel, rfl⟩
theorem dk_143_32 : zz_d mm_143 32 (.getfield 47) 3 35 := ⟨by decide +kernel, rfl⟩
theorem dk_143_35 : zz_d mm_143 35 (.iload 4) 2 37 := ⟨by decide +kernel, rfl⟩
theorem dk_143_37 : zz_d mm_143 37 .iaload 1 38 := ⟨by decide +kernel, rfl⟩
theorem dk_143_38 : zz_d mm_143 38 (.if_icmp .ne 23) 3 41 := ⟨by decide +kernel, rfl⟩
theorem dk_143_41 : zz_d mm_143 41 (.aload_n 0) 1 42 := ⟨by decide +kernel, rfl⟩
theorem dk_143_42 : zz_d mm_143 42 (.getfield 35) 3 45 := ⟨by decide +kernel, rfl⟩
theorem dk_143_45 : zz_d mm_143 45 (.iload_n 3) 1 46 := ⟨by decide +kernel, rfl⟩
theorem dk_143_46 : zz_d mm_143 46 .iaload 1 47 := ⟨by decide +kernel, rfl⟩
theorem dk_143_47 : zz_d mm_143 47 (.aload_n 0) 1 48 := ⟨by decide +kernel, rfl⟩
theorem dk_143_48 : zz_d mm_143 48 (.getfield 35) 3 51 := ⟨by decide +kernel, rfl⟩
theorem dk_143_51 : zz_d mm_143 51 (.iload 4) 2 53 := ⟨by decide +kernel, rfl⟩
theorem dk_143_53 : zz_d mm_143 53 .iaload 1 54 := ⟨by decide +kernel, rfl⟩
theorem dk_143_54 : zz_d mm_143 54 (.if_icmp .ge 7) 3 57 := ⟨by decide +kernel, rfl⟩
theorem dk_143_57 : zz_d mm_143 57 (.iconst 1) 1 58 := ⟨by decide +kernel, rfl⟩
theorem dk_143_58 : zz_d mm_143 58 (.goto 4) 3 61 := ⟨by decide +kernel, rfl⟩
theorem dk_143_61 : zz_d mm_143 61 (.iconst 0) 1 62 := ⟨by decide +kernel, rfl⟩
theorem dk_143_62 : zz_d mm_143 62 (.istore 5) 2 64 := ⟨by decide +kernel, rfl⟩
theorem dk_143_64 : zz_d mm_143 64 (.aload_n 0) 1 65 := ⟨by decide +kernel, rfl⟩
theorem dk_143_65 : zz_d mm_143 65 (.iload_n 3) 1 66 := ⟨by decide +kernel, rfl⟩
theorem dk_143_66 : zz_d mm_143 66 (.invokevirtual 195) 3 69 := ⟨by decide +kernel, rfl⟩
theorem dk_143_69 : zz_d mm_143 69 (.ifCond .ne 7) 3 72 := ⟨by decide +kernel, rfl⟩
theorem dk_143_72 : zz_d mm_143 72 (.iload_n 3) 1 73 := ⟨by decide +kernel, rfl⟩
theorem dk_143_73 : zz_d mm_143 73 (.goto 28) 3 76 := ⟨by decide +kernel, rfl⟩
theorem dk_143_76 : zz_d mm_143 76 (.aload_n 0) 1 77 := ⟨by decide +kernel, rfl⟩
theorem dk_143_77 : zz_d mm_143 77 (.iload 4) 2 79 := ⟨by decide +kernel, rfl⟩
theorem dk_143_79 : zz_d mm_143 79 (.invokevirtual 195) 3 82 := ⟨by decide +kernel, rfl⟩
theorem dk_143_82 : zz_d mm_143 82 (.ifCond .ne 8) 3 85 := ⟨by decide +kernel, rfl⟩
theorem dk_143_85 : zz_d mm_143 85 (.iload 4) 2 87 := ⟨by decide +kernel, rfl⟩
theorem dk_143_87 : zz_d mm_143 87 (.goto 14) 3 90 := ⟨by decide +kernel, rfl⟩
theorem dk_143_90 : zz_d mm_143 90 (.iload 5) 2 92 := ⟨by decide +kernel, rfl⟩
theorem dk_143_92 : zz_d mm_143 92 (.ifCond .eq 7) 3 95 := ⟨by decide +kernel, rfl⟩
theorem dk_143_95 : zz_d mm_143 95 (.iload_n 3) 1 96 := ⟨by decide +kernel, rfl⟩
theorem dk_143_96 : zz_d mm_143 96 (.goto 5) 3 99 := ⟨by decide +kernel, rfl⟩
theorem dk_143_99 : zz_d mm_143 99 (.iload 4) 2 101 := ⟨by decide +kernel, rfl⟩
theorem dk_143_101 : zz_d mm_143 101 (.istore 6) 2 103 := ⟨by decide +kernel, rfl⟩
theorem dk_143_103 : zz_d mm_143 103 (.aload_n 0) 1 104 := ⟨by decide +kernel, rfl⟩
theorem dk_143_104 : zz_d mm_143 104 (.getfield 31) 3 107 := ⟨by decide +kernel, rfl⟩
theorem dk_143_107 : zz_d mm_143 107 (.iload 6) 2 109 := ⟨by decide +kernel, rfl⟩
theorem dk_143_109 : zz_d mm_143 109 (.iconst 1) 1 110 := ⟨by decide +kernel, rfl⟩
theorem dk_143_110 : zz_d mm_143 110 .bastore 1 111 := ⟨by decide +kernel, rfl⟩
theorem dk_143_111 : zz_d mm_143 111 (.aload_n 0) 1 112 := ⟨by decide +kernel, rfl⟩
theorem dk_143_112 : zz_d mm_143 112 (.getfield 35) 3 115 := ⟨by decide +kernel, rfl⟩
theorem dk_143_115 : zz_d mm_143 115 (.iload 6) 2 117 := ⟨by decide +kernel, rfl⟩
theorem dk_143_117 : zz_d mm_143 117 (.aload_n 0) 1 118 := ⟨by decide +kernel, rfl⟩
theorem dk_143_118 : zz_d mm_143 118 (.invokevirtual 184) 3 121 := ⟨by decide +kernel, rfl⟩
theorem dk_143_121 : zz_d mm_143 121 .iastore 1 122 := ⟨by decide +kernel, rfl⟩
theorem dk_143_122 : zz_d mm_143 122 (.aload_n 0) 1 123 := ⟨by decide +kernel, rfl⟩
theorem dk_143_123 : zz_d mm_143 123 (.getfield 38) 3 126 := ⟨by decide +kernel, rfl⟩
theorem dk_143_126 : zz_d mm_143 126 (.iload 6) 2 128 := ⟨by decide +kernel, rfl⟩
theorem dk_143_128 : zz_d mm_143 128 (.aload_n 0) 1 129 := ⟨by decide +kernel, rfl⟩
theorem dk_143_129 : zz_d mm_143 129 (.invokevirtual 184) 3 132 := ⟨by decide +kernel, rfl⟩
theorem dk_143_132 : zz_d mm_143 132 .iastore 1 133 := ⟨by decide +kernel, rfl⟩
theorem dk_143_133 : zz_d mm_143 133 (.aload_n 0) 1 134 := ⟨by decide +kernel, rfl⟩
theorem dk_143_134 : zz_d mm_143 134 (.getfield 41) 3 137 := ⟨by decide +kernel, rfl⟩
theorem dk_143_137 : zz_d mm_143 137 (.iload 6) 2 139 := ⟨by decide +kernel, rfl⟩
theorem dk_143_139 : zz_d mm_143 139 (.iload_n 2) 1 140 := ⟨by decide +kernel, rfl⟩
theorem dk_143_140 : zz_d mm_143 140 .bastore 1 141 := ⟨by decide +kernel, rfl⟩
theorem dk_143_141 : zz_d mm_143 141 (.aload_n 0) 1 142 := ⟨by decide +kernel, rfl⟩
theorem dk_143_142 : zz_d mm_143 142 (.getfield 44) 3 145 := ⟨by decide +kernel, rfl⟩
theorem dk_143_145 : zz_d mm_143 145 (.iload 6) 2 147 := ⟨by decide +kernel, rfl⟩
theorem dk_143_147 : zz_d mm_143 147 (.aload_n 0) 1 148 := ⟨by decide +kernel, rfl⟩
theorem dk_143_148 : zz_d mm_143 148 (.getfield 192) 3 151 := ⟨by decide +kernel, rfl⟩
theorem dk_143_151 : zz_d mm_143 151 .iastore 1 152 := ⟨by decide +kernel, rfl⟩
theorem dk_143_152 : zz_d mm_143 152 (.aload_n 0) 1 153 := ⟨by decide +kernel, rfl⟩
theorem dk_143_153 : zz_d mm_143 153 (.getfield 47) 3 156 := ⟨by decide +kernel, rfl⟩
theorem dk_143_156 : zz_d mm_143 156 (.iload 6) 2 158 := ⟨by decide +kernel, rfl⟩
theorem dk_143_158 : zz_d mm_143 158 (.aload_n 0) 1 159 := ⟨by decide +kernel, rfl⟩
theorem dk_143_159 : zz_d mm_143 159 (.getfield 192) 3 162 := ⟨by decide +kernel, rfl⟩
theorem dk_143_162 : zz_d mm_143 162 .iastore 1 163 := ⟨by decide +kernel, rfl⟩
theorem dk_143_163 : zz_d mm_143 163 (.iload 6) 2 165 := ⟨by decide +kernel, rfl⟩
theorem dk_143_165 : zz_d mm_143 165 .ireturn 1 166 := ⟨by decide +kernel, rfl⟩
theorem dk_144_0 : zz_d mm_144 0 (.iconst 2) 1 1 := ⟨by decide +kernel, rfl⟩
theorem dk_144_1 : zz_d mm_144 1 (.iload_n 1) 1 2 := ⟨by decide +kernel, rfl⟩
theorem dk_144_2 : zz_d mm_144 2 .imul 1 3 := ⟨by decide +kernel, rfl⟩
theorem dk_144_3 : zz_d mm_144 3 (.istore_n 2) 1 4 := ⟨by decide +kernel, rfl⟩
theorem dk_144_4 : zz_d mm_144 4 (.iload_n 2) 1 5 := ⟨by decide +kernel, rfl⟩
theorem dk_144_5 : zz_d mm_144 5 (.iconst 1) 1 6 := ⟨by decide +kernel, rfl⟩
theorem dk_144_6 : zz_d mm_144 6 .iadd 1 7 := ⟨by decide +kernel, rfl⟩
theorem dk_144_7 : zz_d mm_144 7 (.istore_n 3) 1 8 := ⟨by decide +kernel, rfl⟩
theorem dk_144_8 : zz_d mm_144 8 (.aload_n 0) 1 9 := ⟨by decide +kernel, rfl⟩
theorem dk_144_9 : zz_d mm_144 9 (.getfield 50) 3 12 := ⟨by decide +kernel, rfl⟩
theorem dk_144_12 : zz_d mm_144 12 (.iload_n 2) 1 13 := ⟨by decide +kernel, rfl⟩
theorem dk_144_13 : zz_d mm_144 13 .baload 1 14 := ⟨by decide +kernel, rfl⟩
theorem dk_144_14 : zz_d mm_144 14 (.ifCond .ne 7) 3 17 := ⟨by decide +kernel, rfl⟩
theorem dk_144_17 : zz_d mm_144 17 (.iload_n 2) 1 18 := ⟨by decide +kernel, rfl⟩
theorem dk_144_18 : zz_d mm_144 18 (.goto 36) 3 21 := ⟨by decide +kernel, rfl⟩
theorem dk_144_21 : zz_d mm_144 21 (.aload_n 0) 1 22 := ⟨by decide +kernel, rfl⟩
theorem dk_144_22 : zz_d mm_144 22 (.getfield 50) 3 25 := ⟨by decide +kernel, rfl⟩
theorem dk_144_25 : zz_d mm_144 25 (.iload_n 3) 1 26 := ⟨by decide +kernel, rfl⟩
theorem dk_144_26 : zz_d mm_144 26 .baload 1 27 := ⟨by decide +kernel, rfl⟩
theorem dk_144_27 : zz_d mm_144 27 (.ifCond .ne 7) 3 30 := ⟨by decide +kernel, rfl⟩
theorem dk_144_30 : zz_d mm_144 30 (.iload_n 3) 1 31 := ⟨by decide +kernel, rfl⟩
theorem dk_144_31 : zz_d mm_144 31 (.goto 23) 3 34 := ⟨by decide +kernel, rfl⟩
theorem dk_144_34 : zz_d mm_144 34 (.aload_n 0) 1 35 := ⟨by decide +kernel, rfl⟩
theorem dk_144_35 : zz_d mm_144 35 (.getfield 53) 3 38 := ⟨by decide +kernel, rfl⟩
theorem dk_144_38 : zz_d mm_144 38 (.iload_n 2) 1 39 := ⟨by decide +kernel, rfl⟩
theorem dk_144_39 : zz_d mm_144 39 .iaload 1 40 := ⟨by decide +kernel, rfl⟩
theorem dk_144_40 : zz_d mm_144 40 (.aload_n 0) 1 41 := ⟨by decide +kernel, rfl⟩
theorem dk_144_41 : zz_d mm_144 41 (.getfield 53) 3 44 := ⟨by decide +kernel, rfl⟩
theorem dk_144_44 : zz_d mm_144 44 (.iload_n 3) 1 45 := ⟨by decide +kernel, rfl⟩
theorem dk_144_45 : zz_d mm_144 45 .iaload 1 46 := ⟨by decide +kernel, rfl⟩
theorem dk_144_46 : zz_d mm_144 46 (.if_icmp .ge 7) 3 49 := ⟨by decide +kernel, rfl⟩
theorem dk_144_49 : zz_d mm_144 49 (.iload_n 2) 1 50 := ⟨by decide +kernel, rfl⟩
theorem dk_144_50 : zz_d mm_144 50 (.goto 4) 3 53 := ⟨by decide +kernel, rfl⟩
theorem dk_144_53 : zz_d mm_144 53 (.iload_n 3) 1 54 := ⟨by decide +kernel, rfl⟩
theorem dk_144_54 : zz_d mm_144 54 (.istore 4) 2 56 := ⟨by decide +kernel, rfl⟩
theorem dk_144_56 : zz_d mm_144 56 (.aload_n 0) 1 57 := ⟨by decide +kernel, rfl⟩
theorem dk_144_57 : zz_d mm_144 57 (.getfield 50) 3 60 := ⟨by decide +kernel, rfl⟩
theorem dk_144_60 : zz_d mm_144 60 (.iload 4) 2 62 := ⟨by decide +kernel, rfl⟩
theorem dk_144_62 : zz_d mm_144 62 (.iconst 1) 1 63 := ⟨by decide +kernel, rfl⟩
theorem dk_144_63 : zz_d mm_144 63 .bastore 1 64 := ⟨by decide +kernel, rfl⟩
theorem dk_144_64 : zz_d mm_144 64 (.aload_n 0) 1 65 := ⟨by decide +kernel, rfl⟩
theorem dk_144_65 : zz_d mm_144 65 (.getfield 53) 3 68 := ⟨by decide +kernel, rfl⟩
theorem dk_144_68 : zz_d mm_144 68 (.iload 4) 2 70 := ⟨by decide +kernel, rfl⟩
theorem dk_144_70 : zz_d mm_144 70 (.aload_n 0) 1 71 := ⟨by decide +kernel, rfl⟩
theorem dk_144_71 : zz_d mm_144 71 (.invokevirtual 184) 3 74 := ⟨by decide +kernel, rfl⟩
theorem dk_144_74 : zz_d mm_144 74 .iastore 1 75 := ⟨by decide +kernel, rfl⟩
theorem dk_144_75 : zz_d mm_144 75 (.aload_n 0) 1 76 := ⟨by decide +kernel, rfl⟩
theorem dk_144_76 : zz_d mm_144 76 (.getfield 56) 3 79 := ⟨by decide +kernel, rfl⟩
theorem dk_144_79 : zz_d mm_144 79 (.iload 4) 2 81 := ⟨by decide +kernel, rfl⟩
theorem dk_144_81 : zz_d mm_144 81 (.aload_n 0) 1 82 := ⟨by decide +kernel, rfl⟩
theorem dk_144_82 : zz_d mm_144 82 (.invokevirtual 184) 3 85 := ⟨by decide +kernel, rfl⟩
theorem dk_144_85 : zz_d mm_144 85 .iastore 1 86 := ⟨by decide +kernel, rfl⟩
theorem dk_144_86 : zz_d mm_144 86 .return_ 1 87 := ⟨by decide +kernel, rfl⟩
theorem dk_145_0 : zz_d mm_145 0 (.aload_n 0) 1 1 := ⟨by decide +kernel, rfl⟩
theorem dk_145_1 : zz_d mm_145 1 (.iload_n 1) 1 2 := ⟨by decide +kernel, rfl⟩
theorem dk_145_2 : zz_d mm_145 2 (.invokevirtual 204) 3 5 := ⟨by decide +kernel, rfl⟩
theorem dk_145_5 : zz_d mm_145 5 (.istore_n 2) 1 6 := ⟨by decide +kernel, rfl⟩
theorem dk_145_6 : zz_d mm_145 6 (.iload_n 2) 1 7 := ⟨by decide +kernel, rfl⟩
theorem dk_145_7 : zz_d mm_145 7 (.ifCond .ge 5) 3 10 := ⟨by decide +kernel, rfl⟩
theorem dk_145_10 : zz_d mm_145 10 (.iconst 0) 1 11 := ⟨by decide +kernel, rfl⟩
theorem dk_145_11 : zz_d mm_145 11 .ireturn 1 12 := ⟨by decide +kernel, rfl⟩
theorem dk_145_12 : zz_d mm_145 12 (.aload_n 0) 1 13 := ⟨by decide +kernel, rfl⟩
theorem dk_145_13 : zz_d mm_145 13 (.getfield 31) 3 16 := ⟨by decide +kernel, rfl⟩
theorem dk_145_16 : zz_d mm_145 16 (.iload_n 2) 1 17 := ⟨by decide +kernel, rfl⟩
theorem dk_145_17 : zz_d mm_145 17 (.iconst 0) 1 18 := ⟨by decide +kernel, rfl⟩
theorem dk_145_18 : zz_d mm_145 18 .bastore 1 19 := ⟨by decide +kernel, rfl⟩
theorem dk_145_19 : zz_d mm_145 19 (.aload_n 0) 1 20 := ⟨by decide +kernel, rfl⟩
theorem dk_145_20 : zz_d mm_145 20 (.iload_n 2) 1 21 := ⟨by decide +kernel, rfl⟩
theorem dk_145_21 : zz_d mm_145 21 (.iconst 2) 1 22 := ⟨by decide +kernel, rfl⟩
theorem dk_145_22 : zz_d mm_145 22 .idiv 1 23 := ⟨by decide +kernel, rfl⟩
theorem dk_145_23 : zz_d mm_145 23 (.invokevirtual 215) 3 26 := ⟨by decide +kernel, rfl⟩
theorem dk_145_26 : zz_d mm_145 26 (.iconst 1) 1 27 := ⟨by decide +kernel, rfl⟩
theorem dk_145_27 : zz_d mm_145 27 .ireturn 1 28 := ⟨by decide +kernel, rfl⟩
theorem dk_146_0 : zz_d mm_146 0 (.aload_n 0) 1 1 := ⟨by decide +kernel, rfl⟩
theorem dk_146_1 : zz_d mm_146 1 (.getfield 50) 3 4 := ⟨by decide +kernel, rfl⟩
theorem dk_146_4 : zz_d mm_146 4 (.iconst 2) 1 5 := ⟨by decide +kernel, rfl⟩
theorem dk_146_5 : zz_d mm_146 5 (.iload_n 1) 1 6 := ⟨by decide +kernel, rfl⟩
theorem dk_146_6 : zz_d mm_146 6 .imul 1 7 := ⟨by decide +kernel, rfl⟩
theorem dk_146_7 : zz_d mm_146 7 (.iconst 0) 1 8 := ⟨by decide +kernel, rfl⟩
theorem dk_146_8 : zz_d mm_146 8 .bastore 1 9 := ⟨by decide +kernel, rfl⟩
theorem dk_146_9 : zz_d mm_146 9 (.aload_n 0) 1 10 := ⟨by decide +kernel, rfl⟩
theorem dk_146_10 : zz_d mm_146 10 (.getfield 50) 3 13 := ⟨by decide +kernel, rfl⟩
theorem dk_146_13 : zz_d mm_146 13 (.iconst 2) 1 14 := ⟨by decide +kernel, rfl⟩
theorem dk_146_14 : zz_d mm_146 14 (.iload_n 1) 1 15 := ⟨by decide +kernel, rfl⟩
theorem dk_146_15 : zz_d mm_146 15 .imul 1 16 := ⟨by decide +kernel, rfl⟩
theorem dk_146_16 : zz_d mm_146 16 (.iconst 1) 1 17 := ⟨by decide +kernel, rfl⟩
theorem dk_146_17 : zz_d mm_146 17 .iadd 1 18 := ⟨by decide +kernel, rfl⟩
theorem dk_146_18 : zz_d mm_146 18 (.iconst 0) 1 19 := ⟨by decide +kernel, rfl⟩
theorem dk_146_19 : zz_d mm_146 19 .bastore 1 20 := ⟨by decide +kernel, rfl⟩
theorem dk_146_20 : zz_d mm_146 20 .return_ 1 21 := ⟨by decide +kernel, rfl⟩
theorem dk_147_0 : zz_d mm_147 0 (.iload_n 1) 1 1 := ⟨by decide +kernel, rfl⟩
theorem dk_147_1 : zz_d mm_147 1 (.iconst 1) 1 2 := ⟨by decide +kernel, rfl⟩
theorem dk_147_2 : zz_d mm_147 2 (.if_icmp .lt 9) 3 5 := ⟨by decide +kernel, rfl⟩
theorem dk_147_5 : zz_d mm_147 5 (.iload_n 1) 1 6 := ⟨by decide +kernel, rfl⟩
theorem dk_147_6 : zz_d mm_147 6 (.bipush 100) 2 8 := ⟨by decide +kernel, rfl⟩
theorem dk_147_8 : zz_d mm_147 8 (.if_icmp .le 5) 3 11 := ⟨by decide +kernel, rfl⟩
theorem dk_147_11 : zz_d mm_147 11 (.iconst 0) 1 12 := ⟨by decide +kernel, rfl⟩
theorem dk_147_12 : zz_d mm_147 12 .ireturn 1 13 := ⟨by decide +kernel, rfl⟩
theorem dk_147_13 : zz_d mm_147 13 (.aload_n 0) 1 14 := ⟨by decide +kernel, rfl⟩
theorem dk_147_14 : zz_d mm_147 14 .dup 1 15 := ⟨by decide +kernel, rfl⟩
theorem dk_147_15 : zz_d mm_147 15 (.getfield 192) 3 18 := ⟨by decide +kernel, rfl⟩
theorem dk_147_18 : zz_d mm_147 18 (.iload_n 1) 1 19 := ⟨by decide +kernel, rfl⟩
theorem dk_147_19 : zz_d mm_147 19 .iadd 1 20 := ⟨by decide +kernel, rfl⟩
theorem dk_147_20 : zz_d mm_147 20 (.putfield 192) 3 23 := ⟨by decide +kernel, rfl⟩
theorem dk_147_23 : zz_d mm_147 23 (.iconst 1) 1 24 := ⟨by decide +kernel, rfl⟩
theorem dk_147_24 : zz_d mm_147 24 .ireturn 1 25 := ⟨by decide +kernel, rfl⟩
theorem dk_148_0 : zz_d mm_148 0 (.aload_n 0) 1 1 := ⟨by decide +kernel, rfl⟩
theorem dk_148_1 : zz_d mm_148 1 (.getfield 218) 3 4 := ⟨by decide +kernel, rfl⟩
theorem dk_148_4 : zz_d mm_148 4 (.bipush 6) 2 6 := ⟨by decide +kernel, rfl⟩
theorem dk_148_6 : zz_d mm_148 6 (.if_icmp .eq 39) 3 9 := ⟨by decide +kernel, rfl⟩
theorem dk_148_9 : zz_d mm_148 9 (.aload_n 0) 1 10 := ⟨by decide +kernel, rfl⟩
theorem dk_148_10 : zz_d mm_148 10 (.iload_n 1) 1 11 := ⟨by decide +kernel, rfl⟩
theorem dk_148_11 : zz_d mm_148 11 (.aload_n 0) 1 12 := ⟨by decide +kernel, rfl⟩
theorem dk_148_12 : zz_d mm_148 12 (.getfield 218) 3 15 := ⟨by decide +kernel, rfl⟩
theorem dk_148_15 : zz_d mm_148 15 (.invokevirtual 221) 3 18 := ⟨by decide +kernel, rfl⟩
theorem dk_148_18 : zz_d mm_148 18 (.ifCond .eq 27) 3 21 := ⟨by decide +kernel, rfl⟩
theorem dk_148_21 : zz_d mm_148 21 (.aload_n 0) 1 22 := ⟨by decide +kernel, rfl⟩
theorem dk_148_22 : zz_d mm_148 22 (.iload_n 2) 1 23 := ⟨by decide +kernel, rfl⟩
theorem dk_148_23 : zz_d mm_148 23 (.aload_n 0) 1 24 := ⟨by decide +kernel, rfl⟩
theorem dk_148_24 : zz_d mm_148 24 (.getfield 218) 3 27 := ⟨by decide +kernel, rfl⟩
theorem dk_148_27 : zz_d mm_148 27 (.invokevirtual 221) 3 30 := ⟨by decide +kernel, rfl⟩
theorem dk_148_30 : zz_d mm_148 30 (.ifCond .eq 15) 3 33 := ⟨by decide +kernel, rfl⟩
theorem dk_148_33 : zz_d mm_148 33 (.aload_n 0) 1 34 := ⟨by decide +kernel, rfl⟩
theorem dk_148_34 : zz_d mm_148 34 (.iload_n 3) 1 35 := ⟨by decide +kernel, rfl⟩
theorem dk_148_35 : zz_d mm_148 35 (.aload_n 0) 1 36 := ⟨by decide +kernel, rfl⟩
theorem dk_148_36 : zz_d mm_148 36 (.getfield 154) 3 39 := ⟨by decide +kernel, rfl⟩
theorem dk_148_39 : zz_d mm_148 39 (.invokevirtual 221) 3 42 := ⟨by decide +kernel, rfl⟩
theorem dk_148_42 : zz_d mm_148 42 (.ifCond .ne 5) 3 45 := ⟨by decide +kernel, rfl⟩
theorem dk_148_45 : zz_d mm_148 45 (.iconst (-1)) 1 46 := ⟨by decide +kernel, rfl⟩
theorem dk_148_46 : zz_d mm_148 46 .ireturn 1 47 := ⟨by decide +kernel, rfl⟩
theorem dk_148_47 : zz_d mm_148 47 (.aload_n 0) 1 48 := ⟨by decide +kernel, rfl⟩
theorem dk_148_48 : zz_d mm_148 48 (.getfield 110) 3 51 := ⟨by decide +kernel, rfl⟩
theorem dk_148_51 : zz_d mm_148 51 (.aload_n 0) 1 52 := ⟨by decide +kernel, rfl⟩
theorem dk_148_52 : zz_d mm_148 52 (.getfield 218) 3 55 := ⟨by decide +kernel, rfl⟩
theorem dk_148_55 : zz_d mm_148 55 (.iload_n 1) 1 56 := ⟨by decide +kernel, rfl⟩
theorem dk_148_56 : zz_d mm_148 56 .iastore 1 57 := ⟨by decide +kernel, rfl⟩
theorem dk_148_57 : zz_d mm_148 57 (.aload_n 0) 1 58 := ⟨by decide +kernel, rfl⟩
theorem dk_148_58 : zz_d mm_148 58 (.getfield 113) 3 61 := ⟨by decide +kernel, rfl⟩
theorem dk_148_61 : zz_d mm_148 61 (.aload_n 0) 1 62 := ⟨by decide +kernel, rfl⟩
theorem dk_148_62 : zz_d mm_148 62 (.getfield 218) 3 65 := ⟨by decide +kernel, rfl⟩
theorem dk_148_65 : zz_d mm_148 65 (.iload_n 2) 1 66 := ⟨by decide +kernel, rfl⟩
theorem dk_148_66 : zz_d mm_148 66 .iastore 1 67 := ⟨by decide +kernel, rfl⟩
theorem dk_148_67 : zz_d mm_148 67 (.aload_n 0) 1 68 := ⟨by decide +kernel, rfl⟩
theorem dk_148_68 : zz_d mm_148 68 (.getfield 116) 3 71 := ⟨by decide +kernel, rfl⟩
theorem dk_148_71 : zz_d mm_148 71 (.aload_n 0) 1 72 := ⟨by decide +kernel, rfl⟩
theorem dk_148_72 : zz_d mm_148 72 (.getfield 218) 3 75 := ⟨by decide +kernel, rfl⟩
theorem dk_148_75 : zz_d mm_148 75 (.iload_n 3) 1 76 := ⟨by decide +kernel, rfl⟩
theorem dk_148_76 : zz_d mm_148 76 .iastore 1 77 := ⟨by decide +kernel, rfl⟩
theorem dk_148_77 : zz_d mm_148 77 (.aload_n 0) 1 78 := ⟨by decide +kernel, rfl⟩
theorem dk_148_78 : zz_d mm_148 78 .dup 1 79 := ⟨by decide +kernel, rfl⟩
theorem dk_148_79 : zz_d mm_148 79 (.getfield 218) 3 82 := ⟨by decide +kernel, rfl⟩
theorem dk_148_82 : zz_d mm_148 82 (.iconst 1) 1 83 := ⟨by decide +kernel, rfl⟩
theorem dk_148_83 : zz_d mm_148 83 .iadd 1 84 := ⟨by decide +kernel, rfl⟩
theorem dk_148_84 : zz_d mm_148 84 (.putfield 218) 3 87 := ⟨by decide +kernel, rfl⟩
theorem dk_148_87 : zz_d mm_148 87 (.aload_n 0) 1 88 := ⟨by decide +kernel, rfl⟩
theorem dk_148_88 : zz_d mm_148 88 (.getfield 218) 3 91 := ⟨by decide +kernel, rfl⟩
theorem dk_148_91 : zz_d mm_148 91 (.iconst 1) 1 92 := ⟨by decide +kernel, rfl⟩
theorem dk_148_92 : zz_d mm_148 92 .isub 1 93 := ⟨by decide +kernel, rfl⟩
theorem dk_148_93 : zz_d mm_148 93 .ireturn 1 94 := ⟨by decide +kernel, rfl⟩
theorem dk_149_0 : zz_d mm_149 0 (.iload_n 1) 1 1 := ⟨by decide +kernel, rfl⟩
theorem dk_149_1 : zz_d mm_149 1 (.iconst (-1)) 1 2 := ⟨by decide +kernel, rfl⟩
theorem dk_149_2 : zz_d mm_149 2 (.if_icmp .lt 12) 3 5 := ⟨by decide +kernel, rfl⟩
theorem dk_149_5 : zz_d mm_149 5 (.iload_n 1) 1 6 := ⟨by decide +kernel, rfl⟩
theorem dk_149_6 : zz_d mm_149 6 (.iload_n 2) 1 7 := ⟨by decide +kernel, rfl⟩
theorem dk_149_7 : zz_d mm_149 7 (.if_icmp .ge 7) 3 10 := ⟨by decide +kernel, rfl⟩
theorem dk_149_10 : zz_d mm_149 10 (.iconst 1) 1 11 := ⟨by decide +kernel, rfl⟩
theorem dk_149_11 : zz_d mm_149 11 (.goto 4) 3 14 := ⟨by decide +kernel, rfl⟩
theorem dk_149_14 : zz_d mm_149 14 (.iconst 0) 1 15 := ⟨by decide +kernel, rfl⟩
theorem dk_149_15 : zz_d mm_149 15 .ireturn 1 16 := ⟨by decide +kernel, rfl⟩
theorem dk_150_0 : zz_d mm_150 0 (.iload_n 1) 1 1 := ⟨by decide +kernel, rfl⟩
theorem dk_150_1 : zz_d mm_150 1 (.ifCond .lt 32) 3 4 := ⟨by decide +kernel, rfl⟩
theorem dk_150_4 : zz_d mm_150 4 (.iload_n 1) 1 5 := ⟨by decide +kernel, rfl⟩
theorem dk_150_5 : zz_d mm_150 5 (.aload_n 0) 1 6 := ⟨by decide +kernel, rfl⟩
theorem dk_150_6 : zz_d mm_150 6 (.getfield 218) 3 9 := ⟨by decide +kernel, rfl⟩
theorem dk_150_9 : zz_d mm_150 9 (.if_icmp .ge 24) 3 12 := ⟨by decide +kernel, rfl⟩
theorem dk_150_12 : zz_d mm_150 12 (.iload_n 2) 1 13 := ⟨by decide +kernel, rfl⟩
theorem dk_150_13 : zz_d mm_150 13 (.ifCond .lt 20) 3 16 := ⟨by decide +kernel, rfl⟩
theorem dk_150_16 : zz_d mm_150 16 (.iload_n 2) 1 17 := ⟨by decide +kernel, rfl⟩
theorem dk_150_17 : zz_d mm_150 17 (.iconst 3) 1 18 := ⟨by decide +kernel, rfl⟩
theorem dk_150_18 : zz_d mm_150 18 (.if_icmp .gt 15) 3 21 := ⟨by decide +kernel, rfl⟩
theorem dk_150_21 : zz_d mm_150 21 (.aload_n 0) 1 22 := ⟨by decide +kernel, rfl⟩
theorem dk_150_22 : zz_d mm_150 22 (.iload_n 3) 1 23 := ⟨by decide +kernel, rfl⟩
theorem dk_150_23 : zz_d mm_150 23 (.aload_n 0) 1 24 := ⟨by decide +kernel, rfl⟩
theorem dk_150_24 : zz_d mm_150 24 (.getfield 154) 3 27 := ⟨by decide +kernel, rfl⟩
theorem dk_150_27 : zz_d mm_150 27 (.invokevirtual 221) 3 30 := ⟨by decide +kernel, rfl⟩
theorem dk_150_30 : zz_d mm_150 30 (.ifCond .ne 5) 3 33 := ⟨by decide +kernel, rfl⟩
theorem dk_150_33 : zz_d mm_150 33 (.iconst 0) 1 34 := ⟨by decide +kernel, rfl⟩
theorem dk_150_34 : zz_d mm_150 34 .ireturn 1 35 := ⟨by decide +kernel, rfl⟩
theorem dk_150_35 : zz_d mm_150 35 (.iconst 4) 1 36 := ⟨by decide +kernel, rfl⟩
theorem dk_150_36 : zz_d mm_150 36 (.iload_n 1) 1 37 := ⟨by decide +kernel, rfl⟩
theorem dk_150_37 : zz_d mm_150 37 .imul 1 38 := ⟨by decide +kernel, rfl⟩
theorem dk_150_38 : zz_d mm_150 38 (.iload_n 2) 1 39 := ⟨by decide +kernel, rfl⟩
theorem dk_150_39 : zz_d mm_150 39 .iadd 1 40 := ⟨by decide +kernel, rfl⟩
theorem dk_150_40 : zz_d mm_150 40 (.istore 4) 2 42 := ⟨by decide +kernel, rfl⟩
theorem dk_150_42 : zz_d mm_150 42 (.aload_n 0) 1 43 := ⟨by decide +kernel, rfl⟩
theorem dk_150_43 : zz_d mm_150 43 (.getfield 119) 3 46 := ⟨by decide +kernel, rfl⟩
theorem dk_150_46 : zz_d mm_150 46 (.iload 4) 2 48 := ⟨by decide +kernel, rfl⟩
theorem dk_150_48 : zz_d mm_150 48 .baload 1 49 := ⟨by decide +kernel, rfl⟩
theorem dk_150_49 : zz_d mm_150 49 (.ifCond .eq 5) 3 52 := ⟨by decide +kernel, rfl⟩
theorem dk_150_52 : zz_d mm_150 52 (.iconst 0) 1 53 := ⟨by decide +kernel, rfl⟩
theorem dk_150_53 : zz_d mm_150 53 .ireturn 1 54 := ⟨by decide +kernel, rfl⟩
theorem dk_150_54 : zz_d mm_150 54 (.aload_n 0) 1 55 := ⟨by decide +kernel, rfl⟩
theorem dk_150_55 : zz_d mm_150 55 (.getfield 119) 3 58 := ⟨by decide +kernel, rfl⟩
theorem dk_150_58 : zz_d mm_150 58 (.iload 4) 2 60 := ⟨by decide +kernel, rfl⟩
theorem dk_150_60 : zz_d mm_150 60 (.iconst 1) 1 61 := ⟨by decide +kernel, rfl⟩
theorem dk_150_61 : zz_d mm_150 61 .bastore 1 62 := ⟨by decide +kernel, rfl⟩
theorem dk_150_62 : zz_d mm_150 62 (.aload_n 0) 1 63 := ⟨by decide +kernel, rfl⟩
theorem dk_150_63 : zz_d mm_150 63 (.getfield 122) 3 66 := ⟨by decide +kernel, rfl⟩
theorem dk_150_66 : zz_d mm_150 66 (.iload 4) 2 68 := ⟨by decide +kernel, rfl⟩
theorem dk_150_68 : zz_d mm_150 68 (.iload_n 3) 1 69 := ⟨by decide +kernel, rfl⟩
theorem dk_150_69 : zz_d mm_150 69 .iastore 1 70 := ⟨by decide +kernel, rfl⟩
theorem dk_150_70 : zz_d mm_150 70 (.iconst 1) 1 71 := ⟨by decide +kernel, rfl⟩
theorem dk_150_71 : zz_d mm_150 71 .ireturn 1 72 := ⟨by decide +kernel, rfl⟩
theorem dk_151_0 : zz_d mm_151 0 (.iload_n 1) 1 1 := ⟨by decide +kernel, rfl⟩
theorem dk_151_1 : zz_d mm_151 1 (.ifCond .lt 20) 3 4 := ⟨by decide +kernel, rfl⟩
theorem dk_151_4 : zz_d mm_151 4 (.iload_n 1) 1 5 := ⟨by decide +kernel, rfl⟩
theorem dk_151_5 : zz_d mm_151 5 (.aload_n 0) 1 6 := ⟨by decide +kernel, rfl⟩
theorem dk_151_6 : zz_d mm_151 6 (.getfield 218) 3 9 := ⟨by decide +kernel, rfl⟩
theorem dk_151_9 : zz_d mm_151 9 (.if_icmp .ge 12) 3 12 := ⟨by decide +kernel, rfl⟩
theorem dk_151_12 : zz_d mm_151 12 (.iload_n 2) 1 13 := ⟨by decide +kernel, rfl⟩
theorem dk_151_13 : zz_d mm_151 13 (.ifCond .lt 8) 3 16 := ⟨by decide +kernel, rfl⟩
theorem dk_151_16 : zz_d mm_151 16 (.iload_n 2) 1 17 := ⟨by decide +kernel, rfl⟩
theorem dk_151_17 : zz_d mm_151 17 (.iconst 3) 1 18 := ⟨by decide +kernel, rfl⟩
theorem dk_151_18 : zz_d mm_151 18 (.if_icmp .le 5) 3 21 := ⟨by decide +kernel, rfl⟩
theorem dk_151_21 : zz_d mm_151 21 (.iconst (-1)) 1 22 := ⟨by decide +kernel, rfl⟩
theorem dk_151_22 : zz_d mm_151 22 .ireturn 1 23 := ⟨by decide +kernel, rfl⟩
theorem dk_151_23 : zz_d mm_151 23 (.iload_n 1) 1 24 := ⟨by decide +kernel, rfl⟩
theorem dk_151_24 : zz_d mm_151 24 (.istore 4) 2 26 := ⟨by decide +kernel, rfl⟩
theorem dk_151_26 : zz_d mm_151 26 (.iconst 0) 1 27 := ⟨by decide +kernel, rfl⟩
theorem dk_151_27 : zz_d mm_151 27 (.istore 5) 2 29 := ⟨by decide +kernel, rfl⟩
theorem dk_151_29 : zz_d mm_151 29 (.iload 5) 2 31 := ⟨by decide +kernel, rfl⟩
theorem dk_151_31 : zz_d mm_151 31 (.bipush 6) 2 33 := ⟨by decide +kernel, rfl⟩
theorem dk_151_33 : zz_d mm_151 33 (.if_icmp .ge 37) 3 36 := ⟨by decide +kernel, rfl⟩
theorem dk_151_36 : zz_d mm_151 36 (.iload 4) 2 38 := ⟨by decide +kernel, rfl⟩
theorem dk_151_38 : zz_d mm_151 38 (.ifCond .lt 32) 3 41 := ⟨by decide +kernel, rfl⟩
theorem dk_151_41 : zz_d mm_151 41 (.aload_n 0) 1 42 := ⟨by decide +kernel, rfl⟩
theorem dk_151_42 : zz_d mm_151 42 (.getfield 119) 3 45 := ⟨by decide +kernel, rfl⟩
theorem dk_151_45 : zz_d mm_151 45 (.iconst 4) 1 46 := ⟨by decide +kernel, rfl⟩
theorem dk_151_46 : zz_d mm_151 46 (.iload 4) 2 48 := ⟨by decide +kernel, rfl⟩
theorem dk_151_48 : zz_d mm_151 48 .imul 1 49 := ⟨by decide +kernel, rfl⟩
theorem dk_151_49 : zz_d mm_151 49 (.iload_n 2) 1 50 := ⟨by decide +kernel, rfl⟩
theorem dk_151_50 : zz_d mm_151 50 .iadd 1 51 := ⟨by decide +kernel, rfl⟩
theorem dk_151_51 : zz_d mm_151 51 .baload 1 52 := ⟨by decide +kernel, rfl⟩
theorem dk_151_52 : zz_d mm_151 52 (.ifCond .ne 18) 3 55 := ⟨by decide +kernel, rfl⟩
theorem dk_151_55 : zz_d mm_151 55 (.aload_n 0) 1 56 := ⟨by decide +kernel, rfl⟩
theorem dk_151_56 : zz_d mm_151 56 (.getfield 110) 3 59 := ⟨by decide +kernel, rfl⟩
theorem dk_151_59 : zz_d mm_151 59 (.iload 4) 2 61 := ⟨by decide +kernel, rfl⟩
theorem dk_151_61 : zz_d mm_151 61 .iaload 1 62 := ⟨by decide +kernel, rfl⟩
theorem dk_151_62 : zz_d mm_151 62 (.istore 4) 2 64 := ⟨by decide +kernel, rfl⟩
theorem dk_151_64 : zz_d mm_151 64 (.iinc 5 1) 3 67 := ⟨by decide +kernel, rfl⟩
theorem dk_151_67 : zz_d mm_151 67 (.goto (-38)) 3 70 := ⟨by decide +kernel, rfl⟩
theorem dk_151_70 : zz_d mm_151 70 (.iload 4) 2 72 := ⟨by decide +kernel, rfl⟩
theorem dk_151_72 : zz_d mm_151 72 (.ifCond .ge 5) 3 75 := ⟨by decide +kernel, rfl⟩
theorem dk_151_75 : zz_d mm_151 75 (.iconst (-1)) 1 76 := ⟨by decide +kernel, rfl⟩
theorem dk_151_76 : zz_d mm_151 76 .ireturn 1 77 := ⟨by decide +kernel, rfl⟩
theorem dk_151_77 : zz_d mm_151 77 (.aload_n 0) 1 78 := ⟨by decide +kernel, rfl⟩
theorem dk_151_78 : zz_d mm_151 78 (.iload_n 1) 1 79 := ⟨by decide +kernel, rfl⟩
theorem dk_151_79 : zz_d mm_151 79 (.iload 4) 2 81 := ⟨by decide +kernel, rfl⟩
theorem dk_151_81 : zz_d mm_151 81 (.iload_n 2) 1 82 := ⟨by decide +kernel, rfl⟩
theorem dk_151_82 : zz_d mm_151 82 (.invokevirtual 224) 3 85 := ⟨by decide +kernel, rfl⟩
theorem dk_151_85 : zz_d mm_151 85 (.istore 5) 2 87 := ⟨by decide +kernel, rfl⟩
theorem dk_151_87 : zz_d mm_151 87 (.iload 5) 2 89 := ⟨by decide +kernel, rfl⟩
theorem dk_151_89 : zz_d mm_151 89 (.ifCond .lt 22) 3 92 := ⟨by decide +kernel, rfl⟩
theorem dk_151_92 : zz_d mm_151 92 (.aload_n 0) 1 93 := ⟨by decide +kernel, rfl⟩
theorem dk_151_93 : zz_d mm_151 93 (.iload 5) 2 95 := ⟨by decide +kernel, rfl⟩
theorem dk_151_95 : zz_d mm_151 95 (.aload_n 0) 1 96 := ⟨by decide +kernel, rfl⟩
theorem dk_151_96 : zz_d mm_151 96 (.getfield 125) 3 99 := ⟨by decide +kernel, rfl⟩
theorem dk_151_99 : zz_d mm_151 99 (.aload_n 0) 1 100 := ⟨by decide +kernel, rfl⟩
theorem dk_151_100 : zz_d mm_151 100 (.getfield 227) 3 103 := ⟨by decide +kernel, rfl⟩
theorem dk_151_103 : zz_d mm_151 103 (.iload_n 3) 1 104 := ⟨by decide +kernel, rfl⟩
theorem dk_151_104 : zz_d mm_151 104 (.invokevirtual 231) 3 107 := ⟨by decide +kernel, rfl⟩
theorem dk_151_107 : zz_d mm_151 107 (.iconst 1) 1 108 := ⟨by decide +kernel, rfl⟩
theorem dk_151_108 : zz_d mm_151 108 (.if_icmp .ne 7) 3 111 := ⟨by decide +kernel, rfl⟩
theorem dk_151_111 : zz_d mm_151 111 (.iconst 1) 1 112 := ⟨by decide +kernel, rfl⟩
theorem dk_151_112 : zz_d mm_151 112 (.goto 4) 3 115 := ⟨by decide +kernel, rfl⟩
theorem dk_151_115 : zz_d mm_151 115 (.iconst 0) 1 116 := ⟨by decide +kernel, rfl⟩
theorem dk_151_116 : zz_d mm_151 116 (.istore 6) 2 118 := ⟨by decide +kernel, rfl⟩
theorem dk_151_118 : zz_d mm_151 118 (.aload_n 0) 1 119 := ⟨by decide +kernel, rfl⟩
theorem dk_151_119 : zz_d mm_151 119 (.iload 6) 2 121 := ⟨by decide +kernel, rfl⟩
theorem dk_151_121 : zz_d mm_151 121 (.ifCond .eq 12) 3 124 := ⟨by decide +kernel, rfl⟩
theorem dk_151_124 : zz_d mm_151 124 (.aload_n 0) 1 125 := ⟨by decide +kernel, rfl⟩
theorem dk_151_125 : zz_d mm_151 125 (.getfield 234) 3 128 := ⟨by decide +kernel, rfl⟩
theorem dk_151_128 : zz_d mm_151 128 (.iconst 1) 1 129 := ⟨by decide +kernel, rfl⟩
theorem dk_151_129 : zz_d mm_151 129 .iadd 1 130 := ⟨by decide +kernel, rfl⟩
theorem dk_151_130 : zz_d mm_151 130 (.goto 7) 3 133 := ⟨by decide +kernel, rfl⟩
theorem dk_151_133 : zz_d mm_151 133 (.aload_n 0) 1 134 := ⟨by decide +kernel, rfl⟩
theorem dk_151_134 : zz_d mm_151 134 (.getfield 234) 3 137 := ⟨by decide +kernel, rfl⟩
theorem dk_151_137 : zz_d mm_151 137 (.putfield 234) 3 140 := ⟨by decide +kernel, rfl⟩
theorem dk_151_140 : zz_d mm_151 140 (.aload_n 0) 1 141 := ⟨by decide +kernel, rfl⟩
theorem dk_151_141 : zz_d mm_151 141 (.iload 6) 2 143 := ⟨by decide +kernel, rfl⟩
theorem dk_151_143 : zz_d mm_151 143 (.ifCond .eq 10) 3 146 := ⟨by decide +kernel, rfl⟩
theorem dk_151_146 : zz_d mm_151 146 (.aload_n 0) 1 147 := ⟨by decide +kernel, rfl⟩
theorem dk_151_147 : zz_d mm_151 147 (.getfield 237) 3 150 := ⟨by decide +kernel, rfl⟩
theorem dk_151_150 : zz_d mm_151 150 (.goto 9) 3 153 := ⟨by decide +kernel, rfl⟩
theorem dk_151_153 : zz_d mm_151 153 (.aload_n 0) 1 154 := ⟨by decide +kernel, rfl⟩
theorem dk_151_154 : zz_d mm_151 154 (.getfield 237) 3 157 := ⟨by decide +kernel, rfl⟩
theorem dk_151_157 : zz_d mm_151 157 (.iconst 1) 1 158 := ⟨by decide +kernel, rfl⟩
theorem dk_151_158 : zz_d mm_151 158 .iadd 1 159 := ⟨by decide +kernel, rfl⟩
theorem dk_151_159 : zz_d mm_151 159 (.putfield 237) 3 162 := ⟨by decide +kernel, rfl⟩
theorem dk_151_162 : zz_d mm_151 162 (.iload 6) 2 164 := ⟨by decide +kernel, rfl⟩
theorem dk_151_164 : zz_d mm_151 164 (.ifCond .eq 7) 3 167 := ⟨by decide +kernel, rfl⟩
theorem dk_151_167 : zz_d mm_151 167 (.iconst 1) 1 168 := ⟨by decide +kernel, rfl⟩
theorem dk_151_168 : zz_d mm_151 168 (.goto 4) 3 171 := ⟨by decide +kernel, rfl⟩
theorem dk_151_171 : zz_d mm_151 171 (.iconst 0) 1 172 := ⟨by decide +kernel, rfl⟩
theorem dk_151_172 : zz_d mm_151 172 .ireturn 1 173 := ⟨by decide +kernel, rfl⟩
theorem dk_152_0 : zz_d mm_152 0 (.aload_n 0) 1 1 := ⟨by decide +kernel, rfl⟩
theorem dk_152_1 : zz_d mm_152 1 (.getfield 122) 3 4 := ⟨by decide +kernel, rfl⟩
theorem dk_152_4 : zz_d mm_152 4 (.iconst 4) 1 5 := ⟨by decide +kernel, rfl⟩
theorem dk_152_5 : zz_d mm_152 5 (.iload_n 2) 1 6 := ⟨by decide +kernel, rfl⟩
theorem dk_152_6 : zz_d mm_152 6 .imul 1 7 := ⟨by decide +kernel, rfl⟩
theorem dk_152_7 : zz_d mm_152 7 (.iload_n 3) 1 8 := ⟨by decide +kernel, rfl⟩
theorem dk_152_8 : zz_d mm_152 8 .iadd 1 9 := ⟨by decide +kernel, rfl⟩
theorem dk_152_9 : zz_d mm_152 9 .iaload 1 10 := ⟨by decide +kernel, rfl⟩
theorem dk_152_10 : zz_d mm_152 10 (.istore 4) 2 12 := ⟨by decide +kernel, rfl⟩
theorem dk_152_12 : zz_d mm_152 12 (.iload 4) 2 14 := ⟨by decide +kernel, rfl⟩
theorem dk_152_14 : zz_d mm_152 14 (.ifCond .ge 12) 3 17 := ⟨by decide +kernel, rfl⟩
theorem dk_152_17 : zz_d mm_152 17 (.aload_n 0) 1 18 := ⟨by decide +kernel, rfl⟩
theorem dk_152_18 : zz_d mm_152 18 (.getfield 116) 3 21 := ⟨by decide +kernel, rfl⟩
theorem dk_152_21 : zz_d mm_152 21 (.iload_n 2) 1 22 := ⟨by decide +kernel, rfl⟩
theorem dk_152_22 : zz_d mm_152 22 .iaload 1 23 := ⟨by decide +kernel, rfl⟩
theorem dk_152_23 : zz_d mm_152 23 (.goto 5) 3 26 := ⟨by decide +kernel, rfl⟩
theorem dk_152_26 : zz_d mm_152 26 (.iload 4) 2 28 := ⟨by decide +kernel, rfl⟩
theorem dk_152_28 : zz_d mm_152 28 (.istore 4) 2 30 := ⟨by decide +kernel, rfl⟩
theorem dk_152_30 : zz_d mm_152 30 (.iload_n 1) 1 31 := ⟨by decide +kernel, rfl⟩
theorem dk_152_31 : zz_d mm_152 31 (.istore 5) 2 33 := ⟨by decide +kernel, rfl⟩
theorem dk_152_33 : zz_d mm_152 33 (.iconst 0) 1 34 := ⟨by decide +kernel, rfl⟩
theorem dk_152_34 : zz_d mm_152 34 (.istore 6) 2 36 := ⟨by decide +kernel, rfl⟩
theorem dk_152_36 : zz_d mm_152 36 (.iload 6) 2 38 := ⟨by decide +kernel, rfl⟩
theorem dk_152_38 : zz_d mm_152 38 (.bipush 6) 2 40 := ⟨by decide +kernel, rfl⟩
theorem dk_152_40 : zz_d mm_152 40 (.if_icmp .ge 93) 3 43 := ⟨by decide +kernel, rfl⟩
theorem dk_152_43 : zz_d mm_152 43 (.iload 5) 2 45 := ⟨by decide +kernel, rfl⟩
theorem dk_152_45 : zz_d mm_152 45 (.ifCond .lt 88) 3 48 := ⟨by decide +kernel, rfl⟩
theorem dk_152_48 : zz_d mm_152 48 (.aload_n 0) 1 49 := ⟨by decide +kernel, rfl⟩
theorem dk_152_49 : zz_d mm_152 49 (.getfield 113) 3 52 := ⟨by decide +kernel, rfl⟩
theorem dk_152_52 : zz_d mm_152 52 (.iload 5) 2 54 := ⟨by decide +kernel, rfl⟩
theorem dk_152_54 : zz_d mm_152 54 .iaload 1 55 := ⟨by decide +kernel, rfl⟩
theorem dk_152_55 : zz_d mm_152 55 (.istore 7) 2 57 := ⟨by decide +kernel, rfl⟩
theorem dk_152_57 : zz_d mm_152 57 (.iload 7) 2 59 := ⟨by decide +kernel, rfl⟩
theorem dk_152_59 : zz_d mm_152 59 (.ifCond .lt 59) 3 62 := ⟨by decide +kernel, rfl⟩
theorem dk_152_62 : zz_d mm_152 62 (.aload_n 0) 1 63 := ⟨by decide +kernel, rfl⟩
theorem dk_152_63 : zz_d mm_152 63 (.getfield 119) 3 66 := ⟨by decide +kernel, rfl⟩
theorem dk_152_66 : zz_d mm_152 66 (.iconst 4) 1 67 := ⟨by decide +kernel, rfl⟩
theorem dk_152_67 : zz_d mm_152 67 (.iload 7) 2 69 := ⟨by decide +kernel, rfl⟩
theorem dk_152_69 : zz_d mm_152 69 .imul 1 70 := ⟨by decide +kernel, rfl⟩
theorem dk_152_70 : zz_d mm_152 70 (.iload_n 3) 1 71 := ⟨by decide +kernel, rfl⟩
theorem dk_152_71 : zz_d mm_152 71 .iadd 1 72 := ⟨by decide +kernel, rfl⟩
theorem dk_152_72 : zz_d mm_152 72 .baload 1 73 := ⟨by decide +kernel, rfl⟩
theorem dk_152_73 : zz_d mm_152 73 (.ifCond .eq 45) 3 76 := ⟨by decide +kernel, rfl⟩
theorem dk_152_76 : zz_d mm_152 76 (.iload 4) 2 78 := ⟨by decide +kernel, rfl⟩
theorem dk_152_78 : zz_d mm_152 78 (.ifCond .ge 17) 3 81 := ⟨by decide +kernel, rfl⟩
theorem dk_152_81 : zz_d mm_152 81 (.aload_n 0) 1 82 := ⟨by decide +kernel, rfl⟩
theorem dk_152_82 : zz_d mm_152 82 (.getfield 122) 3 85 := ⟨by decide +kernel, rfl⟩
theorem dk_152_85 : zz_d mm_152 85 (.iconst 4) 1 86 := ⟨by decide +kernel, rfl⟩
theorem dk_152_86 : zz_d mm_152 86 (.iload 7) 2 88 := ⟨by decide +kernel, rfl⟩
theorem dk_152_88 : zz_d mm_152 88 .imul 1 89 := ⟨by decide +kernel, rfl⟩
theorem dk_152_89 : zz_d mm_152 89 (.iload_n 3) 1 90 := ⟨by decide +kernel, rfl⟩
theorem dk_152_90 : zz_d mm_152 90 .iadd 1 91 := ⟨by decide +kernel, rfl⟩
theorem dk_152_91 : zz_d mm_152 91 .iaload 1 92 := ⟨by decide +kernel, rfl⟩
theorem dk_152_92 : zz_d mm_152 92 (.goto 5) 3 95 := ⟨by decide +kernel, rfl⟩
theorem dk_152_95 : zz_d mm_152 95 (.iload 4) 2 97 := ⟨by decide +kernel, rfl⟩
theorem dk_152_97 : zz_d mm_152 97 (.istore 4) 2 99 := ⟨by decide +kernel, rfl⟩
theorem dk_152_99 : zz_d mm_152 99 (.iload 4) 2 101 := ⟨by decide +kernel, rfl⟩
theorem dk_152_101 : zz_d mm_152 101 (.ifCond .ge 13) 3 104 := ⟨by decide +kernel, rfl⟩
theorem dk_152_104 : zz_d mm_152 104 (.aload_n 0) 1 105 := ⟨by decide +kernel, rfl⟩
theorem dk_152_105 : zz_d mm_152 105 (.getfield 116) 3 108 := ⟨by decide +kernel, rfl⟩
theorem dk_152_108 : zz_d mm_152 108 (.iload 7) 2 110 := ⟨by decide +kernel, rfl⟩
theorem dk_152_110 : zz_d mm_152 110 .iaload 1 111 := ⟨by decide +kernel, rfl⟩
theorem dk_152_111 : zz_d mm_152 111 (.goto 5) 3 114 := ⟨by decide +kernel, rfl⟩
theorem dk_152_114 : zz_d mm_152 114 (.iload 4) 2 116 := ⟨by decide +kernel, rfl⟩
theorem dk_152_116 : zz_d mm_152 116 (.istore 4) 2 118 := ⟨by decide +kernel, rfl⟩
theorem dk_152_118 : zz_d mm_152 118 (.aload_n 0) 1 119 := ⟨by decide +kernel, rfl⟩
theorem dk_152_119 : zz_d mm_152 119 (.getfield 110) 3 122 := ⟨by decide +kernel, rfl⟩
theorem dk_152_122 : zz_d mm_152 122 (.iload 5) 2 124 := ⟨by decide +kernel, rfl⟩
theorem dk_152_124 : zz_d mm_152 124 .iaload 1 125 := ⟨by decide +kernel, rfl⟩
theorem dk_152_125 : zz_d mm_152 125 (.istore 5) 2 127 := ⟨by decide +kernel, rfl⟩
theorem dk_152_127 : zz_d mm_152 127 (.iinc 6 1) 3 130 := ⟨by decide +kernel, rfl⟩
theorem dk_152_130 : zz_d mm_152 130 (.goto (-94)) 3 133 := ⟨by decide +kernel, rfl⟩
theorem dk_152_133 : zz_d mm_152 133 (.iload 4) 2 135 := ⟨by decide +kernel, rfl⟩
theorem dk_152_135 : zz_d mm_152 135 .ireturn 1 136 := ⟨by decide +kernel, rfl⟩
theorem dk_153_0 : zz_d mm_153 0 (.iconst 0) 1 1 := ⟨by decide +kernel, rfl⟩
theorem dk_153_1 : zz_d mm_153 1 (.istore 5) 2 3 := ⟨by decide +kernel, rfl⟩
theorem dk_153_3 : zz_d mm_153 3 (.iload 5) 2 5 := ⟨by decide +kernel, rfl⟩
theorem dk_153_5 : zz_d mm_153 5 (.iload_n 1) 1 6 := ⟨by decide +kernel, rfl⟩
theorem dk_153_6 : zz_d mm_153 6 (.if_icmp .gt 205) 3 9 := ⟨by decide +kernel, rfl⟩
theorem dk_153_9 : zz_d mm_153 9 (.aload_n 0) 1 10 := ⟨by decide +kernel, rfl⟩
theorem dk_153_10 : zz_d mm_153 10 (.getfield 59) 3 13 := ⟨by decide +kernel, rfl⟩
theorem dk_153_13 : zz_d mm_153 13 (.iload 5) 2 15 := ⟨by decide +kernel, rfl⟩
theorem dk_153_15 : zz_d mm_153 15 .iaload 1 16 := ⟨by decide +kernel, rfl⟩
theorem dk_153_16 : zz_d mm_153 16 (.iconst 4) 1 17 := ⟨by decide +kernel, rfl⟩
theorem dk_153_17 : zz_d mm_153 17 (.if_icmp .lt 19) 3 20 := ⟨by decide +kernel, rfl⟩
theorem dk_153_20 : zz_d mm_153 20 (.aload_n 0) 1 21 := ⟨by decide +kernel, rfl⟩
theorem dk_153_21 : zz_d mm_153 21 (.getfield 59) 3 24 := ⟨by decide +kernel, rfl⟩
theorem dk_153_24 : zz_d mm_153 24 (.iload 5) 2 26 := ⟨by decide +kernel, rfl⟩
theorem dk_153_26 : zz_d mm_153 26 .iaload 1 27 := ⟨by decide +kernel, rfl⟩
theorem dk_153_27 : zz_d mm_153 27 (.bipush 6) 2 29 := ⟨by decide +kernel, rfl⟩
theorem dk_153_29 : zz_d mm_153 29 (.if_icmp .gt 7) 3 32 := ⟨by decide +kernel, rfl⟩
theorem dk_153_32 : zz_d mm_153 32 (.iconst 1) 1 33 := ⟨by decide +kernel, rfl⟩
theorem dk_153_33 : zz_d mm_153 33 (.goto 4) 3 36 := ⟨by decide +kernel, rfl⟩
theorem dk_153_36 : zz_d mm_153 36 (.iconst 0) 1 37 := ⟨by decide +kernel, rfl⟩
theorem dk_153_37 : zz_d mm_153 37 (.istore 6) 2 39 := ⟨by decide +kernel, rfl⟩
theorem dk_153_39 : zz_d mm_153 39 (.iload 6) 2 41 := ⟨by decide +kernel, rfl⟩
theorem dk_153_41 : zz_d mm_153 41 (.ifCond .eq 18) 3 44 := ⟨by decide +kernel, rfl⟩
theorem dk_153_44 : zz_d mm_153 44 (.aload_n 0) 1 45 := ⟨by decide +kernel, rfl⟩
theorem dk_153_45 : zz_d mm_153 45 (.getfield 68) 3 48 := ⟨by decide +kernel, rfl⟩
theorem dk_153_48 : zz_d mm_153 48 (.aload_n 0) 1 49 := ⟨by decide +kernel, rfl⟩
theorem dk_153_49 : zz_d mm_153 49 (.getfield 62) 3 52 := ⟨by decide +kernel, rfl⟩
theorem dk_153_52 : zz_d mm_153 52 (.iload 5) 2 54 := ⟨by decide +kernel, rfl⟩
theorem dk_153_54 : zz_d mm_153 54 .iaload 1 55 := ⟨by decide +kernel, rfl⟩
theorem dk_153_55 : zz_d mm_153 55 .iaload 1 56 := ⟨by decide +kernel, rfl⟩
theorem dk_153_56 : zz_d mm_153 56 (.goto 4) 3 59 := ⟨by decide +kernel, rfl⟩
theorem dk_153_59 : zz_d mm_153 59 (.iconst 0) 1 60 := ⟨by decide +kernel, rfl⟩
theorem dk_153_60 : zz_d mm_153 60 (.istore 7) 2 62 := ⟨by decide +kernel, rfl⟩
theorem dk_153_62 : zz_d mm_153 62 (.aload_n 0) 1 63 := ⟨by decide +kernel, rfl⟩
theorem dk_153_63 : zz_d mm_153 63 (.getfield 59) 3 66 := ⟨by decide +kernel, rfl⟩
theorem dk_153_66 : zz_d mm_153 66 (.iload 5) 2 68 := ⟨by decide +kernel, rfl⟩
theorem dk_153_68 : zz_d mm_153 68 .iaload 1 69 := ⟨by decide +kernel, rfl⟩
theorem dk_153_69 : zz_d mm_153 69 (.iconst 5) 1 70 := ⟨by decide +kernel, rfl⟩
theorem dk_153_70 : zz_d mm_153 70 (.if_icmp .eq 15) 3 73 := ⟨by decide +kernel, rfl⟩
theorem dk_153_73 : zz_d mm_153 73 (.aload_n 0) 1 74 := ⟨by decide +kernel, rfl⟩
theorem dk_153_74 : zz_d mm_153 74 (.getfield 59) 3 77 := ⟨by decide +kernel, rfl⟩
theorem dk_153_77 : zz_d mm_153 77 (.iload 5) 2 79 := ⟨by decide +kernel, rfl⟩
theorem dk_153_79 : zz_d mm_153 79 .iaload 1 80 := ⟨by decide +kernel, rfl⟩
theorem dk_153_80 : zz_d mm_153 80 (.bipush 6) 2 82 := ⟨by decide +kernel, rfl⟩
theorem dk_153_82 : zz_d mm_153 82 (.if_icmp .ne 18) 3 85 := ⟨by decide +kernel, rfl⟩
theorem dk_153_85 : zz_d mm_153 85 (.aload_n 0) 1 86 := ⟨by decide +kernel, rfl⟩
theorem dk_153_86 : zz_d mm_153 86 (.getfield 68) 3 89 := ⟨by decide +kernel, rfl⟩
theorem dk_153_89 : zz_d mm_153 89 (.aload_n 0) 1 90 := ⟨by decide +kernel, rfl⟩
theorem dk_153_90 : zz_d mm_153 90 (.getfield 65) 3 93 := ⟨by decide +kernel, rfl⟩
theorem dk_153_93 : zz_d mm_153 93 (.iload 5) 2 95 := ⟨by decide +kernel, rfl⟩
theorem dk_153_95 : zz_d mm_153 95 .iaload 1 96 := ⟨by decide +kernel, rfl⟩
theorem dk_153_96 : zz_d mm_153 96 .iaload 1 97 := ⟨by decide +kernel, rfl⟩
theorem dk_153_97 : zz_d mm_153 97 (.goto 4) 3 100 := ⟨by decide +kernel, rfl⟩
theorem dk_153_100 : zz_d mm_153 100 (.iconst 0) 1 101 := ⟨by decide +kernel, rfl⟩
theorem dk_153_101 : zz_d mm_153 101 (.istore 8) 2 103 := ⟨by decide +kernel, rfl⟩
theorem dk_153_103 : zz_d mm_153 103 (.iload 6) 2 105 := ⟨by decide +kernel, rfl⟩
theorem dk_153_105 : zz_d mm_153 105 (.ifCond .ne 23) 3 108 := ⟨by decide +kernel, rfl⟩
theorem dk_153_108 : zz_d mm_153 108 (.aload_n 0) 1 109 := ⟨by decide +kernel, rfl⟩
theorem dk_153_109 : zz_d mm_153 109 (.getfield 68) 3 112 := ⟨by decide +kernel, rfl⟩
theorem dk_153_112 : zz_d mm_153 112 (.iload 5) 2 114 := ⟨by decide +kernel, rfl⟩
theorem dk_153_114 : zz_d mm_153 114 (.aload_n 0) 1 115 := ⟨by decide +kernel, rfl⟩
theorem dk_153_115 : zz_d mm_153 115 (.iload 5) 2 117 := ⟨by decide +kernel, rfl⟩
theorem dk_153_117 : zz_d mm_153 117 (.iload_n 2) 1 118 := ⟨by decide +kernel, rfl⟩
theorem dk_153_118 : zz_d mm_153 118 (.iload_n 3) 1 119 := ⟨by decide +kernel, rfl⟩
theorem dk_153_119 : zz_d mm_153 119 (.iload 4) 2 121 := ⟨by decide +kernel, rfl⟩
theorem dk_153_121 : zz_d mm_153 121 (.invokevirtual 167) 3 124 := ⟨by decide +kernel, rfl⟩
theorem dk_153_124 : zz_d mm_153 124 .iastore 1 125 := ⟨by decide +kernel, rfl⟩
theorem dk_153_125 : zz_d mm_153 125 (.goto 80) 3 128 := ⟨by decide +kernel, rfl⟩
theorem dk_153_128 : zz_d mm_153 128 (.iload 7) 2 130 := ⟨by decide +kernel, rfl⟩
theorem dk_153_130 : zz_d mm_153 130 (.iconst 2) 1 131 := ⟨by decide +kernel, rfl⟩
theorem dk_153_131 : zz_d mm_153 131 (.if_icmp .ne 14) 3 134 := ⟨by decide +kernel, rfl⟩
theorem dk_153_134 : zz_d mm_153 134 (.aload_n 0) 1 135 := ⟨by decide +kernel, rfl⟩
theorem dk_153_135 : zz_d mm_153 135 (.getfield 68) 3 138 := ⟨by decide +kernel, rfl⟩
theorem dk_153_138 : zz_d mm_153 138 (.iload 5) 2 140 := ⟨by decide +kernel, rfl⟩
theorem dk_153_140 : zz_d mm_153 140 (.iconst 2) 1 141 := ⟨by decide +kernel, rfl⟩
theorem dk_153_141 : zz_d mm_153 141 .iastore 1 142 := ⟨by decide +kernel, rfl⟩
theorem dk_153_142 : zz_d mm_153 142 (.goto 63) 3 145 := ⟨by decide +kernel, rfl⟩
theorem dk_153_145 : zz_d mm_153 145 (.aload_n 0) 1 146 := ⟨by decide +kernel, rfl⟩
theorem dk_153_146 : zz_d mm_153 146 (.getfield 59) 3 149 := ⟨by decide +kernel, rfl⟩
theorem dk_153_149 : zz_d mm_153 149 (.iload 5) 2 151 := ⟨by decide +kernel, rfl⟩
theorem dk_153_151 : zz_d mm_153 151 .iaload 1 152 := ⟨by decide +kernel, rfl⟩
theorem dk_153_152 : zz_d mm_153 152 (.iconst 4) 1 153 := ⟨by decide +kernel, rfl⟩
theorem dk_153_153 : zz_d mm_153 153 (.if_icmp .ne 17) 3 156 := ⟨by decide +kernel, rfl⟩
theorem dk_153_156 : zz_d mm_153 156 (.aload_n 0) 1 157 := ⟨by decide +kernel, rfl⟩
theorem dk_153_157 : zz_d mm_153 157 (.getfield 68) 3 160 := ⟨by decide +kernel, rfl⟩
theorem dk_153_160 : zz_d mm_153 160 (.iload 5) 2 162 := ⟨by decide +kernel, rfl⟩
theorem dk_153_162 : zz_d mm_153 162 (.iconst 1) 1 163 := ⟨by decide +kernel, rfl⟩
theorem dk_153_163 : zz_d mm_153 163 (.iload 7) 2 165 := ⟨by decide +kernel, rfl⟩
theorem dk_153_165 : zz_d mm_153 165 .isub 1 166 := ⟨by decide +kernel, rfl⟩
theorem dk_153_166 : zz_d mm_153 166 .iastore 1 167 := ⟨by decide +kernel, rfl⟩
theorem dk_153_167 : zz_d mm_153 167 (.goto 38) 3 170 := ⟨by decide +kernel, rfl⟩
theorem dk_153_170 : zz_d mm_153 170 (.aload_n 0) 1 171 := ⟨by decide +kernel, rfl⟩
theorem dk_153_171 : zz_d mm_153 171 (.getfield 68) 3 174 := ⟨by decide +kernel, rfl⟩
theorem dk_153_174 : zz_d mm_153 174 (.iload 5) 2 176 := ⟨by decide +kernel, rfl⟩
theorem dk_153_176 : zz_d mm_153 176 (.iload 7) 2 178 := ⟨by decide +kernel, rfl⟩
theorem dk_153_178 : zz_d mm_153 178 (.aload_n 0) 1 179 := ⟨by decide +kernel, rfl⟩
theorem dk_153_179 : zz_d mm_153 179 (.getfield 59) 3 182 := ⟨by decide +kernel, rfl⟩
theorem dk_153_182 : zz_d mm_153 182 (.iload 5) 2 184 := ⟨by decide +kernel, rfl⟩
theorem dk_153_184 : zz_d mm_153 184 .iaload 1 185 := ⟨by decide +kernel, rfl⟩
theorem dk_153_185 : zz_d mm_153 185 (.iconst 5) 1 186 := ⟨by decide +kernel, rfl⟩
theorem dk_153_186 : zz_d mm_153 186 (.if_icmp .ne 7) 3 189 := ⟨by decide +kernel, rfl⟩
theorem dk_153_189 : zz_d mm_153 189 (.iconst 0) 1 190 := ⟨by decide +kernel, rfl⟩
theorem dk_153_190 : zz_d mm_153 190 (.goto 4) 3 193 := ⟨by decide +kernel, rfl⟩
theorem dk_153_193 : zz_d mm_153 193 (.iconst 1) 1 194 := ⟨by decide +kernel, rfl⟩
end
section
theorem dk_153_194 : zz_d mm_153 194 (.if_icmp .ne 8) 3 197 := ⟨by decide +kernel, rfl⟩
theorem dk_153_197 : zz_d mm_153 197 (.iload 7) 2 199 := ⟨by decide +kernel, rfl⟩
theorem dk_153_199 : zz_d mm_153 199 (.goto 5) 3 202 := ⟨by decide +kernel, rfl⟩
theorem dk_153_202 : zz_d mm_153 202 (.iload 8) 2 204 := ⟨by decide +kernel, rfl⟩
theorem dk_153_204 : zz_d mm_153 204 .iastore 1 205 := ⟨by decide +kernel, rfl⟩
theorem dk_153_205 : zz_d mm_153 205 (.iinc 5 1) 3 208 := ⟨by decide +kernel, rfl⟩
theorem dk_153_208 : zz_d mm_153 208 (.goto (-205)) 3 211 := ⟨by decide +kernel, rfl⟩
theorem dk_153_211 : zz_d mm_153 211 (.aload_n 0) 1 212 := ⟨by decide +kernel, rfl⟩
theorem dk_153_212 : zz_d mm_153 212 (.getfield 68) 3 215 := ⟨by decide +kernel, rfl⟩
theorem dk_153_215 : zz_d mm_153 215 (.iload_n 1) 1 216 := ⟨by decide +kernel, rfl⟩
theorem dk_153_216 : zz_d mm_153 216 .iaload 1 217 := ⟨by decide +kernel, rfl⟩
theorem dk_153_217 : zz_d mm_153 217 .ireturn 1 218 := ⟨by decide +kernel, rfl⟩
theorem dk_154_0 : zz_d mm_154 0 (.aload_n 0) 1 1 := ⟨by decide +kernel, rfl⟩
theorem dk_154_1 : zz_d mm_154 1 (.getfield 59) 3 4 := ⟨by decide +kernel, rfl⟩
theorem dk_154_4 : zz_d mm_154 4 (.iload_n 1) 1 5 := ⟨by decide +kernel, rfl⟩
theorem dk_154_5 : zz_d mm_154 5 .iaload 1 6 := ⟨by decide +kernel, rfl⟩
theorem dk_154_6 : zz_d mm_154 6 (.tableswitch 157 0 8 #[50, 52, 65, 82, 157, 157, 157, 118, 137]) 50 56 := ⟨by decide +kernel, rfl⟩
theorem dk_154_56 : zz_d mm_154 56 (.iconst 1) 1 57 := ⟨by decide +kernel, rfl⟩
theorem dk_154_57 : zz_d mm_154 57 .ireturn 1 58 := ⟨by decide +kernel, rfl⟩
theorem dk_154_58 : zz_d mm_154 58 (.iload_n 2) 1 59 := ⟨by decide +kernel, rfl⟩
theorem dk_154_59 : zz_d mm_154 59 (.ifCond .lt 7) 3 62 := ⟨by decide +kernel, rfl⟩
theorem dk_154_62 : zz_d mm_154 62 (.iconst 1) 1 63 := ⟨by decide +kernel, rfl⟩
theorem dk_154_63 : zz_d mm_154 63 (.goto 4) 3 66 := ⟨by decide +kernel, rfl⟩
theorem dk_154_66 : zz_d mm_154 66 (.iconst 0) 1 67 := ⟨by decide +kernel, rfl⟩
theorem dk_154_67 : zz_d mm_154 67 (.invokestatic 163) 3 70 := ⟨by decide +kernel, rfl⟩
theorem dk_154_70 : zz_d mm_154 70 .ireturn 1 71 := ⟨by decide +kernel, rfl⟩
theorem dk_154_71 : zz_d mm_154 71 (.iload_n 2) 1 72 := ⟨by decide +kernel, rfl⟩
theorem dk_154_72 : zz_d mm_154 72 (.ifCond .lt 11) 3 75 := ⟨by decide +kernel, rfl⟩
theorem dk_154_75 : zz_d mm_154 75 (.iload_n 3) 1 76 := ⟨by decide +kernel, rfl⟩
theorem dk_154_76 : zz_d mm_154 76 (.ifCond .ne 7) 3 79 := ⟨by decide +kernel, rfl⟩
theorem dk_154_79 : zz_d mm_154 79 (.iconst 1) 1 80 := ⟨by decide +kernel, rfl⟩
theorem dk_154_80 : zz_d mm_154 80 (.goto 4) 3 83 := ⟨by decide +kernel, rfl⟩
theorem dk_154_83 : zz_d mm_154 83 (.iconst 0) 1 84 := ⟨by decide +kernel, rfl⟩
theorem dk_154_84 : zz_d mm_154 84 (.invokestatic 163) 3 87 := ⟨by decide +kernel, rfl⟩
theorem dk_154_87 : zz_d mm_154 87 .ireturn 1 88 := ⟨by decide +kernel, rfl⟩
theorem dk_154_88 : zz_d mm_154 88 (.iload_n 2) 1 89 := ⟨by decide +kernel, rfl⟩
theorem dk_154_89 : zz_d mm_154 89 (.ifCond .lt 30) 3 92 := ⟨by decide +kernel, rfl⟩
theorem dk_154_92 : zz_d mm_154 92 (.aload_n 0) 1 93 := ⟨by decide +kernel, rfl⟩
theorem dk_154_93 : zz_d mm_154 93 (.aload_n 0) 1 94 := ⟨by decide +kernel, rfl⟩
theorem dk_154_94 : zz_d mm_154 94 (.getfield 13) 3 97 := ⟨by decide +kernel, rfl⟩
theorem dk_154_97 : zz_d mm_154 97 (.iload_n 2) 1 98 := ⟨by decide +kernel, rfl⟩
theorem dk_154_98 : zz_d mm_154 98 .iaload 1 99 := ⟨by decide +kernel, rfl⟩
theorem dk_154_99 : zz_d mm_154 99 (.invokevirtual 160) 3 102 := ⟨by decide +kernel, rfl⟩
theorem dk_154_102 : zz_d mm_154 102 (.aload_n 0) 1 103 := ⟨by decide +kernel, rfl⟩
theorem dk_154_103 : zz_d mm_154 103 (.getfield 62) 3 106 := ⟨by decide +kernel, rfl⟩
theorem dk_154_106 : zz_d mm_154 106 (.iload_n 1) 1 107 := ⟨by decide +kernel, rfl⟩
theorem dk_154_107 : zz_d mm_154 107 .iaload 1 108 := ⟨by decide +kernel, rfl⟩
theorem dk_154_108 : zz_d mm_154 108 .ishr 1 109 := ⟨by decide +kernel, rfl⟩
theorem dk_154_109 : zz_d mm_154 109 (.iconst 1) 1 110 := ⟨by decide +kernel, rfl⟩
theorem dk_154_110 : zz_d mm_154 110 .iand 1 111 := ⟨by decide +kernel, rfl⟩
theorem dk_154_111 : zz_d mm_154 111 (.iconst 1) 1 112 := ⟨by decide +kernel, rfl⟩
theorem dk_154_112 : zz_d mm_154 112 (.if_icmp .ne 7) 3 115 := ⟨by decide +kernel, rfl⟩
theorem dk_154_115 : zz_d mm_154 115 (.iconst 1) 1 116 := ⟨by decide +kernel, rfl⟩
theorem dk_154_116 : zz_d mm_154 116 (.goto 4) 3 119 := ⟨by decide +kernel, rfl⟩
theorem dk_154_119 : zz_d mm_154 119 (.iconst 0) 1 120 := ⟨by decide +kernel, rfl⟩
theorem dk_154_120 : zz_d mm_154 120 (.invokestatic 163) 3 123 := ⟨by decide +kernel, rfl⟩
theorem dk_154_123 : zz_d mm_154 123 .ireturn 1 124 := ⟨by decide +kernel, rfl⟩
theorem dk_154_124 : zz_d mm_154 124 (.iload_n 2) 1 125 := ⟨by decide +kernel, rfl⟩
theorem dk_154_125 : zz_d mm_154 125 (.ifCond .lt 13) 3 128 := ⟨by decide +kernel, rfl⟩
theorem dk_154_128 : zz_d mm_154 128 (.iload_n 2) 1 129 := ⟨by decide +kernel, rfl⟩
theorem dk_154_129 : zz_d mm_154 129 (.iload 4) 2 131 := ⟨by decide +kernel, rfl⟩
theorem dk_154_131 : zz_d mm_154 131 (.if_icmp .ne 7) 3 134 := ⟨by decide +kernel, rfl⟩
theorem dk_154_134 : zz_d mm_154 134 (.iconst 1) 1 135 := ⟨by decide +kernel, rfl⟩
theorem dk_154_135 : zz_d mm_154 135 (.goto 4) 3 138 := ⟨by decide +kernel, rfl⟩
theorem dk_154_138 : zz_d mm_154 138 (.iconst 0) 1 139 := ⟨by decide +kernel, rfl⟩
theorem dk_154_139 : zz_d mm_154 139 (.invokestatic 163) 3 142 := ⟨by decide +kernel, rfl⟩
theorem dk_154_142 : zz_d mm_154 142 .ireturn 1 143 := ⟨by decide +kernel, rfl⟩
theorem dk_154_143 : zz_d mm_154 143 (.iload 4) 2 145 := ⟨by decide +kernel, rfl⟩
theorem dk_154_145 : zz_d mm_154 145 (.aload_n 0) 1 146 := ⟨by decide +kernel, rfl⟩
theorem dk_154_146 : zz_d mm_154 146 (.getfield 62) 3 149 := ⟨by decide +kernel, rfl⟩
theorem dk_154_149 : zz_d mm_154 149 (.iload_n 1) 1 150 := ⟨by decide +kernel, rfl⟩
theorem dk_154_150 : zz_d mm_154 150 .iaload 1 151 := ⟨by decide +kernel, rfl⟩
theorem dk_154_151 : zz_d mm_154 151 (.if_icmp .ge 7) 3 154 := ⟨by decide +kernel, rfl⟩
theorem dk_154_154 : zz_d mm_154 154 (.iconst 1) 1 155 := ⟨by decide +kernel, rfl⟩
theorem dk_154_155 : zz_d mm_154 155 (.goto 4) 3 158 := ⟨by decide +kernel, rfl⟩
theorem dk_154_158 : zz_d mm_154 158 (.iconst 0) 1 159 := ⟨by decide +kernel, rfl⟩
theorem dk_154_159 : zz_d mm_154 159 (.invokestatic 163) 3 162 := ⟨by decide +kernel, rfl⟩
theorem dk_154_162 : zz_d mm_154 162 .ireturn 1 163 := ⟨by decide +kernel, rfl⟩
theorem dk_154_163 : zz_d mm_154 163 (.iload 4) 2 165 := ⟨by decide +kernel, rfl⟩
theorem dk_154_165 : zz_d mm_154 165 (.ifCond .ne 7) 3 168 := ⟨by decide +kernel, rfl⟩
theorem dk_154_168 : zz_d mm_154 168 (.iconst 2) 1 169 := ⟨by decide +kernel, rfl⟩
theorem dk_154_169 : zz_d mm_154 169 (.goto 29) 3 172 := ⟨by decide +kernel, rfl⟩
theorem dk_154_172 : zz_d mm_154 172 (.aload_n 0) 1 173 := ⟨by decide +kernel, rfl⟩
theorem dk_154_173 : zz_d mm_154 173 (.getfield 65) 3 176 := ⟨by decide +kernel, rfl⟩
theorem dk_154_176 : zz_d mm_154 176 (.iload_n 1) 1 177 := ⟨by decide +kernel, rfl⟩
theorem dk_154_177 : zz_d mm_154 177 .iaload 1 178 := ⟨by decide +kernel, rfl⟩
theorem dk_154_178 : zz_d mm_154 178 (.iload 4) 2 180 := ⟨by decide +kernel, rfl⟩
theorem dk_154_180 : zz_d mm_154 180 .idiv 1 181 := ⟨by decide +kernel, rfl⟩
theorem dk_154_181 : zz_d mm_154 181 (.aload_n 0) 1 182 := ⟨by decide +kernel, rfl⟩
theorem dk_154_182 : zz_d mm_154 182 (.getfield 62) 3 185 := ⟨by decide +kernel, rfl⟩
theorem dk_154_185 : zz_d mm_154 185 (.iload_n 1) 1 186 := ⟨by decide +kernel, rfl⟩
theorem dk_154_186 : zz_d mm_154 186 .iaload 1 187 := ⟨by decide +kernel, rfl⟩
theorem dk_154_187 : zz_d mm_154 187 (.if_icmp .lt 7) 3 190 := ⟨by decide +kernel, rfl⟩
theorem dk_154_190 : zz_d mm_154 190 (.iconst 1) 1 191 := ⟨by decide +kernel, rfl⟩
theorem dk_154_191 : zz_d mm_154 191 (.goto 4) 3 194 := ⟨by decide +kernel, rfl⟩
theorem dk_154_194 : zz_d mm_154 194 (.iconst 0) 1 195 := ⟨by decide +kernel, rfl⟩
theorem dk_154_195 : zz_d mm_154 195 (.invokestatic 163) 3 198 := ⟨by decide +kernel, rfl⟩
theorem dk_154_198 : zz_d mm_154 198 .ireturn 1 199 := ⟨by decide +kernel, rfl⟩
theorem dk_155_0 : zz_d mm_155 0 (.iload_n 0) 1 1 := ⟨by decide +kernel, rfl⟩
theorem dk_155_1 : zz_d mm_155 1 (.ifCond .eq 7) 3 4 := ⟨by decide +kernel, rfl⟩
theorem dk_155_4 : zz_d mm_155 4 (.iconst 1) 1 5 := ⟨by decide +kernel, rfl⟩
theorem dk_155_5 : zz_d mm_155 5 (.goto 4) 3 8 := ⟨by decide +kernel, rfl⟩
theorem dk_155_8 : zz_d mm_155 8 (.iconst 0) 1 9 := ⟨by decide +kernel, rfl⟩
theorem dk_155_9 : zz_d mm_155 9 .ireturn 1 10 := ⟨by decide +kernel, rfl⟩
theorem dk_156_0 : zz_d mm_156 0 (.iload_n 1) 1 1 := ⟨by decide +kernel, rfl⟩
theorem dk_156_1 : zz_d mm_156 1 (.ifCond .lt 15) 3 4 := ⟨by decide +kernel, rfl⟩
theorem dk_156_4 : zz_d mm_156 4 (.iload_n 1) 1 5 := ⟨by decide +kernel, rfl⟩
theorem dk_156_5 : zz_d mm_156 5 (.iconst 3) 1 6 := ⟨by decide +kernel, rfl⟩
theorem dk_156_6 : zz_d mm_156 6 (.if_icmp .gt 10) 3 9 := ⟨by decide +kernel, rfl⟩
theorem dk_156_9 : zz_d mm_156 9 (.aload_n 0) 1 10 := ⟨by decide +kernel, rfl⟩
theorem dk_156_10 : zz_d mm_156 10 (.getfield 252) 3 13 := ⟨by decide +kernel, rfl⟩
theorem dk_156_13 : zz_d mm_156 13 (.ifCond .eq 5) 3 16 := ⟨by decide +kernel, rfl⟩
theorem dk_156_16 : zz_d mm_156 16 (.iconst (-1)) 1 17 := ⟨by decide +kernel, rfl⟩
theorem dk_156_17 : zz_d mm_156 17 .ireturn 1 18 := ⟨by decide +kernel, rfl⟩
theorem dk_156_18 : zz_d mm_156 18 (.aload_n 0) 1 19 := ⟨by decide +kernel, rfl⟩
theorem dk_156_19 : zz_d mm_156 19 (.invokevirtual 255) 3 22 := ⟨by decide +kernel, rfl⟩
theorem dk_156_22 : zz_d mm_156 22 (.istore 6) 2 24 := ⟨by decide +kernel, rfl⟩
theorem dk_156_24 : zz_d mm_156 24 (.aload_n 0) 1 25 := ⟨by decide +kernel, rfl⟩
theorem dk_156_25 : zz_d mm_156 25 (.iconst 0) 1 26 := ⟨by decide +kernel, rfl⟩
theorem dk_156_26 : zz_d mm_156 26 (.putfield 129) 3 29 := ⟨by decide +kernel, rfl⟩
theorem dk_156_29 : zz_d mm_156 29 (.iload 6) 2 31 := ⟨by decide +kernel, rfl⟩
theorem dk_156_31 : zz_d mm_156 31 (.ifCond .ne 7) 3 34 := ⟨by decide +kernel, rfl⟩
theorem dk_156_34 : zz_d mm_156 34 (.sipush 400) 3 37 := ⟨by decide +kernel, rfl⟩
theorem dk_156_37 : zz_d mm_156 37 .ireturn 1 38 := ⟨by decide +kernel, rfl⟩
theorem dk_156_38 : zz_d mm_156 38 (.aload_n 0) 1 39 := ⟨by decide +kernel, rfl⟩
theorem dk_156_39 : zz_d mm_156 39 (.iload_n 2) 1 40 := ⟨by decide +kernel, rfl⟩
theorem dk_156_40 : zz_d mm_156 40 (.iload 4) 2 42 := ⟨by decide +kernel, rfl⟩
theorem dk_156_42 : zz_d mm_156 42 (.iload 5) 2 44 := ⟨by decide +kernel, rfl⟩
theorem dk_156_44 : zz_d mm_156 44 (.invokevirtual 258) 3 47 := ⟨by decide +kernel, rfl⟩
theorem dk_156_47 : zz_d mm_156 47 (.istore 7) 2 49 := ⟨by decide +kernel, rfl⟩
theorem dk_156_49 : zz_d mm_156 49 (.iload_n 1) 1 50 := ⟨by decide +kernel, rfl⟩
theorem dk_156_50 : zz_d mm_156 50 (.iconst 2) 1 51 := ⟨by decide +kernel, rfl⟩
theorem dk_156_51 : zz_d mm_156 51 (.if_icmp .lt 23) 3 54 := ⟨by decide +kernel, rfl⟩
theorem dk_156_54 : zz_d mm_156 54 (.iload 7) 2 56 := ⟨by decide +kernel, rfl⟩
theorem dk_156_56 : zz_d mm_156 56 (.ifCond .lt 14) 3 59 := ⟨by decide +kernel, rfl⟩
theorem dk_156_59 : zz_d mm_156 59 (.aload_n 0) 1 60 := ⟨by decide +kernel, rfl⟩
theorem dk_156_60 : zz_d mm_156 60 (.getfield 38) 3 63 := ⟨by decide +kernel, rfl⟩
theorem dk_156_63 : zz_d mm_156 63 (.iload 7) 2 65 := ⟨by decide +kernel, rfl⟩
theorem dk_156_65 : zz_d mm_156 65 .iaload 1 66 := ⟨by decide +kernel, rfl⟩
theorem dk_156_66 : zz_d mm_156 66 (.iload_n 3) 1 67 := ⟨by decide +kernel, rfl⟩
theorem dk_156_67 : zz_d mm_156 67 (.if_icmp .eq 7) 3 70 := ⟨by decide +kernel, rfl⟩
theorem dk_156_70 : zz_d mm_156 70 (.sipush 419) 3 73 := ⟨by decide +kernel, rfl⟩
theorem dk_156_73 : zz_d mm_156 73 .ireturn 1 74 := ⟨by decide +kernel, rfl⟩
theorem dk_156_74 : zz_d mm_156 74 (.iconst 0) 1 75 := ⟨by decide +kernel, rfl⟩
theorem dk_156_75 : zz_d mm_156 75 (.istore 8) 2 77 := ⟨by decide +kernel, rfl⟩
theorem dk_156_77 : zz_d mm_156 77 (.iload 8) 2 79 := ⟨by decide +kernel, rfl⟩
theorem dk_156_79 : zz_d mm_156 79 (.aload_n 0) 1 80 := ⟨by decide +kernel, rfl⟩
theorem dk_156_80 : zz_d mm_156 80 (.getfield 171) 3 83 := ⟨by decide +kernel, rfl⟩
theorem dk_156_83 : zz_d mm_156 83 (.if_icmp .ge 32) 3 86 := ⟨by decide +kernel, rfl⟩
theorem dk_156_86 : zz_d mm_156 86 (.aload_n 0) 1 87 := ⟨by decide +kernel, rfl⟩
theorem dk_156_87 : zz_d mm_156 87 (.getfield 107) 3 90 := ⟨by decide +kernel, rfl⟩
theorem dk_156_90 : zz_d mm_156 90 (.iload 8) 2 92 := ⟨by decide +kernel, rfl⟩
theorem dk_156_92 : zz_d mm_156 92 .iaload 1 93 := ⟨by decide +kernel, rfl⟩
theorem dk_156_93 : zz_d mm_156 93 (.iload_n 1) 1 94 := ⟨by decide +kernel, rfl⟩
theorem dk_156_94 : zz_d mm_156 94 .ishr 1 95 := ⟨by decide +kernel, rfl⟩
theorem dk_156_95 : zz_d mm_156 95 (.iconst 1) 1 96 := ⟨by decide +kernel, rfl⟩
theorem dk_156_96 : zz_d mm_156 96 .iand 1 97 := ⟨by decide +kernel, rfl⟩
theorem dk_156_97 : zz_d mm_156 97 (.ifCond .eq 12) 3 100 := ⟨by decide +kernel, rfl⟩
theorem dk_156_100 : zz_d mm_156 100 (.aload_n 0) 1 101 := ⟨by decide +kernel, rfl⟩
theorem dk_156_101 : zz_d mm_156 101 (.iload 8) 2 103 := ⟨by decide +kernel, rfl⟩
theorem dk_156_103 : zz_d mm_156 103 (.invokevirtual 261) 3 106 := ⟨by decide +kernel, rfl⟩
theorem dk_156_106 : zz_d mm_156 106 (.ifCond .ne 9) 3 109 := ⟨by decide +kernel, rfl⟩
theorem dk_156_109 : zz_d mm_156 109 (.iinc 8 1) 3 112 := ⟨by decide +kernel, rfl⟩
theorem dk_156_112 : zz_d mm_156 112 (.goto (-35)) 3 115 := ⟨by decide +kernel, rfl⟩
theorem dk_156_115 : zz_d mm_156 115 (.iload 8) 2 117 := ⟨by decide +kernel, rfl⟩
theorem dk_156_117 : zz_d mm_156 117 (.aload_n 0) 1 118 := ⟨by decide +kernel, rfl⟩
theorem dk_156_118 : zz_d mm_156 118 (.getfield 171) 3 121 := ⟨by decide +kernel, rfl⟩
theorem dk_156_121 : zz_d mm_156 121 (.if_icmp .ne 7) 3 124 := ⟨by decide +kernel, rfl⟩
theorem dk_156_124 : zz_d mm_156 124 (.sipush 403) 3 127 := ⟨by decide +kernel, rfl⟩
theorem dk_156_127 : zz_d mm_156 127 .ireturn 1 128 := ⟨by decide +kernel, rfl⟩
theorem dk_156_128 : zz_d mm_156 128 (.aload_n 0) 1 129 := ⟨by decide +kernel, rfl⟩
theorem dk_156_129 : zz_d mm_156 129 (.aload_n 0) 1 130 := ⟨by decide +kernel, rfl⟩
theorem dk_156_130 : zz_d mm_156 130 (.getfield 104) 3 133 := ⟨by decide +kernel, rfl⟩
theorem dk_156_133 : zz_d mm_156 133 (.iload 8) 2 135 := ⟨by decide +kernel, rfl⟩
theorem dk_156_135 : zz_d mm_156 135 .iaload 1 136 := ⟨by decide +kernel, rfl⟩
theorem dk_156_136 : zz_d mm_156 136 (.aload_n 0) 1 137 := ⟨by decide +kernel, rfl⟩
theorem dk_156_137 : zz_d mm_156 137 (.getfield 240) 3 140 := ⟨by decide +kernel, rfl⟩
theorem dk_156_140 : zz_d mm_156 140 (.aload_n 0) 1 141 := ⟨by decide +kernel, rfl⟩
theorem dk_156_141 : zz_d mm_156 141 (.getfield 243) 3 144 := ⟨by decide +kernel, rfl⟩
theorem dk_156_144 : zz_d mm_156 144 (.aload_n 0) 1 145 := ⟨by decide +kernel, rfl⟩
theorem dk_156_145 : zz_d mm_156 145 (.getfield 143) 3 148 := ⟨by decide +kernel, rfl⟩
theorem dk_156_148 : zz_d mm_156 148 (.invokevirtual 231) 3 151 := ⟨by decide +kernel, rfl⟩
theorem dk_156_151 : zz_d mm_156 151 (.iconst 1) 1 152 := ⟨by decide +kernel, rfl⟩
theorem dk_156_152 : zz_d mm_156 152 (.if_icmp .eq 20) 3 155 := ⟨by decide +kernel, rfl⟩
theorem dk_156_155 : zz_d mm_156 155 (.aload_n 0) 1 156 := ⟨by decide +kernel, rfl⟩
theorem dk_156_156 : zz_d mm_156 156 (.getfield 240) 3 159 := ⟨by decide +kernel, rfl⟩
theorem dk_156_159 : zz_d mm_156 159 (.ifCond .ge 9) 3 162 := ⟨by decide +kernel, rfl⟩
theorem dk_156_162 : zz_d mm_156 162 (.sipush 401) 3 165 := ⟨by decide +kernel, rfl⟩
theorem dk_156_165 : zz_d mm_156 165 (.goto 6) 3 168 := ⟨by decide +kernel, rfl⟩
theorem dk_156_168 : zz_d mm_156 168 (.sipush 403) 3 171 := ⟨by decide +kernel, rfl⟩
theorem dk_156_171 : zz_d mm_156 171 .ireturn 1 172 := ⟨by decide +kernel, rfl⟩
theorem dk_156_172 : zz_d mm_156 172 (.aload_n 0) 1 173 := ⟨by decide +kernel, rfl⟩
theorem dk_156_173 : zz_d mm_156 173 (.iconst 1) 1 174 := ⟨by decide +kernel, rfl⟩
theorem dk_156_174 : zz_d mm_156 174 (.putfield 252) 3 177 := ⟨by decide +kernel, rfl⟩
theorem dk_156_177 : zz_d mm_156 177 (.aload_n 0) 1 178 := ⟨by decide +kernel, rfl⟩
theorem dk_156_178 : zz_d mm_156 178 (.aload_n 0) 1 179 := ⟨by decide +kernel, rfl⟩
theorem dk_156_179 : zz_d mm_156 179 (.getfield 240) 3 182 := ⟨by decide +kernel, rfl⟩
theorem dk_156_182 : zz_d mm_156 182 (.putfield 125) 3 185 := ⟨by decide +kernel, rfl⟩
theorem dk_156_185 : zz_d mm_156 185 (.aload_n 0) 1 186 := ⟨by decide +kernel, rfl⟩
theorem dk_156_186 : zz_d mm_156 186 (.aload_n 0) 1 187 := ⟨by decide +kernel, rfl⟩
theorem dk_156_187 : zz_d mm_156 187 (.getfield 243) 3 190 := ⟨by decide +kernel, rfl⟩
theorem dk_156_190 : zz_d mm_156 190 (.putfield 227) 3 193 := ⟨by decide +kernel, rfl⟩
theorem dk_156_193 : zz_d mm_156 193 (.aload_n 0) 1 194 := ⟨by decide +kernel, rfl⟩
theorem dk_156_194 : zz_d mm_156 194 .dup 1 195 := ⟨by decide +kernel, rfl⟩
theorem dk_156_195 : zz_d mm_156 195 (.getfield 264) 3 198 := ⟨by decide +kernel, rfl⟩
theorem dk_156_198 : zz_d mm_156 198 (.iconst 1) 1 199 := ⟨by decide +kernel, rfl⟩
theorem dk_156_199 : zz_d mm_156 199 .iadd 1 200 := ⟨by decide +kernel, rfl⟩
theorem dk_156_200 : zz_d mm_156 200 (.putfield 264) 3 203 := ⟨by decide +kernel, rfl⟩
theorem dk_156_203 : zz_d mm_156 203 (.sipush 200) 3 206 := ⟨by decide +kernel, rfl⟩
theorem dk_156_206 : zz_d mm_156 206 (.iload 8) 2 208 := ⟨by decide +kernel, rfl⟩
theorem dk_156_208 : zz_d mm_156 208 .iadd 1 209 := ⟨by decide +kernel, rfl⟩
theorem dk_156_209 : zz_d mm_156 209 .ireturn 1 210 := ⟨by decide +kernel, rfl⟩
theorem dk_157_0 : zz_d mm_157 0 (.aload_n 0) 1 1 := ⟨by decide +kernel, rfl⟩
theorem dk_157_1 : zz_d mm_157 1 (.getfield 129) 3 4 := ⟨by decide +kernel, rfl⟩
theorem dk_157_4 : zz_d mm_157 4 (.ifCond .eq 14) 3 7 := ⟨by decide +kernel, rfl⟩
theorem dk_157_7 : zz_d mm_157 7 (.aload_n 0) 1 8 := ⟨by decide +kernel, rfl⟩
theorem dk_157_8 : zz_d mm_157 8 (.getfield 71) 3 11 := ⟨by decide +kernel, rfl⟩
theorem dk_157_11 : zz_d mm_157 11 (.iconst 0) 1 12 := ⟨by decide +kernel, rfl⟩
theorem dk_157_12 : zz_d mm_157 12 .iaload 1 13 := ⟨by decide +kernel, rfl⟩
theorem dk_157_13 : zz_d mm_157 13 (.bipush 47) 2 15 := ⟨by decide +kernel, rfl⟩
theorem dk_157_15 : zz_d mm_157 15 (.if_icmp .eq 5) 3 18 := ⟨by decide +kernel, rfl⟩
theorem dk_157_18 : zz_d mm_157 18 (.iconst 0) 1 19 := ⟨by decide +kernel, rfl⟩
theorem dk_157_19 : zz_d mm_157 19 .ireturn 1 20 := ⟨by decide +kernel, rfl⟩
theorem dk_157_20 : zz_d mm_157 20 (.iconst 0) 1 21 := ⟨by decide +kernel, rfl⟩
theorem dk_157_21 : zz_d mm_157 21 (.istore_n 1) 1 22 := ⟨by decide +kernel, rfl⟩
theorem dk_157_22 : zz_d mm_157 22 (.iload_n 1) 1 23 := ⟨by decide +kernel, rfl⟩
theorem dk_157_23 : zz_d mm_157 23 (.aload_n 0) 1 24 := ⟨by decide +kernel, rfl⟩
theorem dk_157_24 : zz_d mm_157 24 (.getfield 129) 3 27 := ⟨by decide +kernel, rfl⟩
theorem dk_157_27 : zz_d mm_157 27 (.if_icmp .ge 22) 3 30 := ⟨by decide +kernel, rfl⟩
theorem dk_157_30 : zz_d mm_157 30 (.aload_n 0) 1 31 := ⟨by decide +kernel, rfl⟩
theorem dk_157_31 : zz_d mm_157 31 (.getfield 71) 3 34 := ⟨by decide +kernel, rfl⟩
theorem dk_157_34 : zz_d mm_157 34 (.iload_n 1) 1 35 := ⟨by decide +kernel, rfl⟩
theorem dk_157_35 : zz_d mm_157 35 .iaload 1 36 := ⟨by decide +kernel, rfl⟩
theorem dk_157_36 : zz_d mm_157 36 (.bipush 92) 2 38 := ⟨by decide +kernel, rfl⟩
theorem dk_157_38 : zz_d mm_157 38 (.if_icmp .ne 5) 3 41 := ⟨by decide +kernel, rfl⟩
theorem dk_157_41 : zz_d mm_157 41 (.iconst 0) 1 42 := ⟨by decide +kernel, rfl⟩
theorem dk_157_42 : zz_d mm_157 42 .ireturn 1 43 := ⟨by decide +kernel, rfl⟩
theorem dk_157_43 : zz_d mm_157 43 (.iinc 1 1) 3 46 := ⟨by decide +kernel, rfl⟩
theorem dk_157_46 : zz_d mm_157 46 (.goto (-24)) 3 49 := ⟨by decide +kernel, rfl⟩
theorem dk_157_49 : zz_d mm_157 49 (.iconst 0) 1 50 := ⟨by decide +kernel, rfl⟩
theorem dk_157_50 : zz_d mm_157 50 (.istore_n 1) 1 51 := ⟨by decide +kernel, rfl⟩
theorem dk_157_51 : zz_d mm_157 51 (.iconst 0) 1 52 := ⟨by decide +kernel, rfl⟩
theorem dk_157_52 : zz_d mm_157 52 (.istore_n 2) 1 53 := ⟨by decide +kernel, rfl⟩
theorem dk_157_53 : zz_d mm_157 53 (.iconst 1) 1 54 := ⟨by decide +kernel, rfl⟩
theorem dk_157_54 : zz_d mm_157 54 (.istore_n 3) 1 55 := ⟨by decide +kernel, rfl⟩
theorem dk_157_55 : zz_d mm_157 55 (.iload_n 3) 1 56 := ⟨by decide +kernel, rfl⟩
theorem dk_157_56 : zz_d mm_157 56 (.aload_n 0) 1 57 := ⟨by decide +kernel, rfl⟩
theorem dk_157_57 : zz_d mm_157 57 (.getfield 129) 3 60 := ⟨by decide +kernel, rfl⟩
theorem dk_157_60 : zz_d mm_157 60 (.if_icmp .gt 229) 3 63 := ⟨by decide +kernel, rfl⟩
theorem dk_157_63 : zz_d mm_157 63 (.iload_n 3) 1 64 := ⟨by decide +kernel, rfl⟩
theorem dk_157_64 : zz_d mm_157 64 (.istore 4) 2 66 := ⟨by decide +kernel, rfl⟩
theorem dk_157_66 : zz_d mm_157 66 (.iload 4) 2 68 := ⟨by decide +kernel, rfl⟩
theorem dk_157_68 : zz_d mm_157 68 (.aload_n 0) 1 69 := ⟨by decide +kernel, rfl⟩
theorem dk_157_69 : zz_d mm_157 69 (.getfield 129) 3 72 := ⟨by decide +kernel, rfl⟩
theorem dk_157_72 : zz_d mm_157 72 (.if_icmp .ge 21) 3 75 := ⟨by decide +kernel, rfl⟩
theorem dk_157_75 : zz_d mm_157 75 (.aload_n 0) 1 76 := ⟨by decide +kernel, rfl⟩
theorem dk_157_76 : zz_d mm_157 76 (.getfield 71) 3 79 := ⟨by decide +kernel, rfl⟩
theorem dk_157_79 : zz_d mm_157 79 (.iload 4) 2 81 := ⟨by decide +kernel, rfl⟩
theorem dk_157_81 : zz_d mm_157 81 .iaload 1 82 := ⟨by decide +kernel, rfl⟩
theorem dk_157_82 : zz_d mm_157 82 (.bipush 47) 2 84 := ⟨by decide +kernel, rfl⟩
theorem dk_157_84 : zz_d mm_157 84 (.if_icmp .eq 9) 3 87 := ⟨by decide +kernel, rfl⟩
theorem dk_157_87 : zz_d mm_157 87 (.iinc 4 1) 3 90 := ⟨by decide +kernel, rfl⟩
theorem dk_157_90 : zz_d mm_157 90 (.goto (-24)) 3 93 := ⟨by decide +kernel, rfl⟩
theorem dk_157_93 : zz_d mm_157 93 (.aload_n 0) 1 94 := ⟨by decide +kernel, rfl⟩
theorem dk_157_94 : zz_d mm_157 94 (.getfield 77) 3 97 := ⟨by decide +kernel, rfl⟩
theorem dk_157_97 : zz_d mm_157 97 (.iload_n 1) 1 98 := ⟨by decide +kernel, rfl⟩
theorem dk_157_98 : zz_d mm_157 98 (.iload_n 2) 1 99 := ⟨by decide +kernel, rfl⟩
theorem dk_157_99 : zz_d mm_157 99 .iastore 1 100 := ⟨by decide +kernel, rfl⟩
theorem dk_157_100 : zz_d mm_157 100 (.iconst 0) 1 101 := ⟨by decide +kernel, rfl⟩
theorem dk_157_101 : zz_d mm_157 101 (.istore 5) 2 103 := ⟨by decide +kernel, rfl⟩
theorem dk_157_103 : zz_d mm_157 103 (.iload_n 3) 1 104 := ⟨by decide +kernel, rfl⟩
theorem dk_157_104 : zz_d mm_157 104 (.istore 6) 2 106 := ⟨by decide +kernel, rfl⟩
theorem dk_157_106 : zz_d mm_157 106 (.iload 6) 2 108 := ⟨by decide +kernel, rfl⟩
theorem dk_157_108 : zz_d mm_157 108 (.iload 4) 2 110 := ⟨by decide +kernel, rfl⟩
theorem dk_157_110 : zz_d mm_157 110 (.if_icmp .ge 161) 3 113 := ⟨by decide +kernel, rfl⟩
theorem dk_157_113 : zz_d mm_157 113 (.iload 5) 2 115 := ⟨by decide +kernel, rfl⟩
theorem dk_157_115 : zz_d mm_157 115 (.ifCond .ne 156) 3 118 := ⟨by decide +kernel, rfl⟩
theorem dk_157_118 : zz_d mm_157 118 (.aload_n 0) 1 119 := ⟨by decide +kernel, rfl⟩
theorem dk_157_119 : zz_d mm_157 119 (.getfield 71) 3 122 := ⟨by decide +kernel, rfl⟩
theorem dk_157_122 : zz_d mm_157 122 (.iload 6) 2 124 := ⟨by decide +kernel, rfl⟩
theorem dk_157_124 : zz_d mm_157 124 .iaload 1 125 := ⟨by decide +kernel, rfl⟩
theorem dk_157_125 : zz_d mm_157 125 (.istore 7) 2 127 := ⟨by decide +kernel, rfl⟩
theorem dk_157_127 : zz_d mm_157 127 (.iload 7) 2 129 := ⟨by decide +kernel, rfl⟩
theorem dk_157_129 : zz_d mm_157 129 (.bipush 59) 2 131 := ⟨by decide +kernel, rfl⟩
theorem dk_157_131 : zz_d mm_157 131 (.if_icmp .ne 7) 3 134 := ⟨by decide +kernel, rfl⟩
theorem dk_157_134 : zz_d mm_157 134 (.iconst 1) 1 135 := ⟨by decide +kernel, rfl⟩
theorem dk_157_135 : zz_d mm_157 135 (.goto 4) 3 138 := ⟨by decide +kernel, rfl⟩
theorem dk_157_138 : zz_d mm_157 138 (.iconst 0) 1 139 := ⟨by decide +kernel, rfl⟩
theorem dk_157_139 : zz_d mm_157 139 (.istore 5) 2 141 := ⟨by decide +kernel, rfl⟩
theorem dk_157_141 : zz_d mm_157 141 (.iload 7) 2 143 := ⟨by decide +kernel, rfl⟩
theorem dk_157_143 : zz_d mm_157 143 (.bipush 37) 2 145 := ⟨by decide +kernel, rfl⟩
theorem dk_157_145 : zz_d mm_157 145 (.if_icmp .ne 104) 3 148 := ⟨by decide +kernel, rfl⟩
theorem dk_157_148 : zz_d mm_157 148 (.iload 6) 2 150 := ⟨by decide +kernel, rfl⟩
theorem dk_157_150 : zz_d mm_157 150 (.iconst 2) 1 151 := ⟨by decide +kernel, rfl⟩
theorem dk_157_151 : zz_d mm_157 151 .iadd 1 152 := ⟨by decide +kernel, rfl⟩
theorem dk_157_152 : zz_d mm_157 152 (.iload 4) 2 154 := ⟨by decide +kernel, rfl⟩
theorem dk_157_154 : zz_d mm_157 154 (.if_icmp .ge 18) 3 157 := ⟨by decide +kernel, rfl⟩
theorem dk_157_157 : zz_d mm_157 157 (.aload_n 0) 1 158 := ⟨by decide +kernel, rfl⟩
theorem dk_157_158 : zz_d mm_157 158 (.getfield 71) 3 161 := ⟨by decide +kernel, rfl⟩
theorem dk_157_161 : zz_d mm_157 161 (.iload 6) 2 163 := ⟨by decide +kernel, rfl⟩
theorem dk_157_163 : zz_d mm_157 163 (.iconst 1) 1 164 := ⟨by decide +kernel, rfl⟩
theorem dk_157_164 : zz_d mm_157 164 .iadd 1 165 := ⟨by decide +kernel, rfl⟩
theorem dk_157_165 : zz_d mm_157 165 .iaload 1 166 := ⟨by decide +kernel, rfl⟩
theorem dk_157_166 : zz_d mm_157 166 (.invokestatic 132) 3 169 := ⟨by decide +kernel, rfl⟩
theorem dk_157_169 : zz_d mm_157 169 (.goto 4) 3 172 := ⟨by decide +kernel, rfl⟩
theorem dk_157_172 : zz_d mm_157 172 (.iconst (-1)) 1 173 := ⟨by decide +kernel, rfl⟩
theorem dk_157_173 : zz_d mm_157 173 (.istore 8) 2 175 := ⟨by decide +kernel, rfl⟩
theorem dk_157_175 : zz_d mm_157 175 (.iload 6) 2 177 := ⟨by decide +kernel, rfl⟩
theorem dk_157_177 : zz_d mm_157 177 (.iconst 2) 1 178 := ⟨by decide +kernel, rfl⟩
theorem dk_157_178 : zz_d mm_157 178 .iadd 1 179 := ⟨by decide +kernel, rfl⟩
theorem dk_157_179 : zz_d mm_157 179 (.iload 4) 2 181 := ⟨by decide +kernel, rfl⟩
theorem dk_157_181 : zz_d mm_157 181 (.if_icmp .ge 18) 3 184 := ⟨by decide +kernel, rfl⟩
theorem dk_157_184 : zz_d mm_157 184 (.aload_n 0) 1 185 := ⟨by decide +kernel, rfl⟩
theorem dk_157_185 : zz_d mm_157 185 (.getfield 71) 3 188 := ⟨by decide +kernel, rfl⟩
theorem dk_157_188 : zz_d mm_157 188 (.iload 6) 2 190 := ⟨by decide +kernel, rfl⟩
theorem dk_157_190 : zz_d mm_157 190 (.iconst 2) 1 191 := ⟨by decide +kernel, rfl⟩
theorem dk_157_191 : zz_d mm_157 191 .iadd 1 192 := ⟨by decide +kernel, rfl⟩
theorem dk_157_192 : zz_d mm_157 192 .iaload 1 193 := ⟨by decide +kernel, rfl⟩
theorem dk_157_193 : zz_d mm_157 193 (.invokestatic 132) 3 196 := ⟨by decide +kernel, rfl⟩
theorem dk_157_196 : zz_d mm_157 196 (.goto 4) 3 199 := ⟨by decide +kernel, rfl⟩
theorem dk_157_199 : zz_d mm_157 199 (.iconst (-1)) 1 200 := ⟨by decide +kernel, rfl⟩
theorem dk_157_200 : zz_d mm_157 200 (.istore 9) 2 202 := ⟨by decide +kernel, rfl⟩
theorem dk_157_202 : zz_d mm_157 202 (.bipush 16) 2 204 := ⟨by decide +kernel, rfl⟩
theorem dk_157_204 : zz_d mm_157 204 (.iload 8) 2 206 := ⟨by decide +kernel, rfl⟩
theorem dk_157_206 : zz_d mm_157 206 .imul 1 207 := ⟨by decide +kernel, rfl⟩
theorem dk_157_207 : zz_d mm_157 207 (.iload 9) 2 209 := ⟨by decide +kernel, rfl⟩
theorem dk_157_209 : zz_d mm_157 209 .iadd 1 210 := ⟨by decide +kernel, rfl⟩
theorem dk_157_210 : zz_d mm_157 210 (.istore 7) 2 212 := ⟨by decide +kernel, rfl⟩
theorem dk_157_212 : zz_d mm_157 212 (.iload 8) 2 214 := ⟨by decide +kernel, rfl⟩
theorem dk_157_214 : zz_d mm_157 214 (.ifCond .lt 30) 3 217 := ⟨by decide +kernel, rfl⟩
theorem dk_157_217 : zz_d mm_157 217 (.iload 9) 2 219 := ⟨by decide +kernel, rfl⟩
theorem dk_157_219 : zz_d mm_157 219 (.ifCond .lt 25) 3 222 := ⟨by decide +kernel, rfl⟩
theorem dk_157_222 : zz_d mm_157 222 (.iload 7) 2 224 := ⟨by decide +kernel, rfl⟩
theorem dk_157_224 : zz_d mm_157 224 (.bipush 33) 2 226 := ⟨by decide +kernel, rfl⟩
theorem dk_157_226 : zz_d mm_157 226 (.if_icmp .lt 18) 3 229 := ⟨by decide +kernel, rfl⟩
theorem dk_157_229 : zz_d mm_157 229 (.iload 7) 2 231 := ⟨by decide +kernel, rfl⟩
theorem dk_157_231 : zz_d mm_157 231 (.bipush 126) 2 233 := ⟨by decide +kernel, rfl⟩
theorem dk_157_233 : zz_d mm_157 233 (.if_icmp .gt 11) 3 236 := ⟨by decide +kernel, rfl⟩
theorem dk_157_236 : zz_d mm_157 236 (.iload 7) 2 238 := ⟨by decide +kernel, rfl⟩
theorem dk_157_238 : zz_d mm_157 238 (.invokestatic 136) 3 241 := ⟨by decide +kernel, rfl⟩
theorem dk_157_241 : zz_d mm_157 241 (.ifCond .eq 5) 3 244 := ⟨by decide +kernel, rfl⟩
theorem dk_157_244 : zz_d mm_157 244 (.iconst 0) 1 245 := ⟨by decide +kernel, rfl⟩
theorem dk_157_245 : zz_d mm_157 245 .ireturn 1 246 := ⟨by decide +kernel, rfl⟩
theorem dk_157_246 : zz_d mm_157 246 (.iinc 6 2) 3 249 := ⟨by decide +kernel, rfl⟩
theorem dk_157_249 : zz_d mm_157 249 (.iload 5) 2 251 := ⟨by decide +kernel, rfl⟩
theorem dk_157_251 : zz_d mm_157 251 (.ifCond .ne 14) 3 254 := ⟨by decide +kernel, rfl⟩
theorem dk_157_254 : zz_d mm_157 254 (.aload_n 0) 1 255 := ⟨by decide +kernel, rfl⟩
theorem dk_157_255 : zz_d mm_157 255 (.getfield 74) 3 258 := ⟨by decide +kernel, rfl⟩
theorem dk_157_258 : zz_d mm_157 258 (.iload_n 2) 1 259 := ⟨by decide +kernel, rfl⟩
theorem dk_157_259 : zz_d mm_157 259 (.iload 7) 2 261 := ⟨by decide +kernel, rfl⟩
theorem dk_157_261 : zz_d mm_157 261 .iastore 1 262 := ⟨by decide +kernel, rfl⟩
theorem dk_157_262 : zz_d mm_157 262 (.iinc 2 1) 3 265 := ⟨by decide +kernel, rfl⟩
theorem dk_157_265 : zz_d mm_157 265 (.iinc 6 1) 3 268 := ⟨by decide +kernel, rfl⟩
theorem dk_157_268 : zz_d mm_157 268 (.goto (-162)) 3 271 := ⟨by decide +kernel, rfl⟩
theorem dk_157_271 : zz_d mm_157 271 (.aload_n 0) 1 272 := ⟨by decide +kernel, rfl⟩
theorem dk_157_272 : zz_d mm_157 272 (.getfield 80) 3 275 := ⟨by decide +kernel, rfl⟩
theorem dk_157_275 : zz_d mm_157 275 (.iload_n 1) 1 276 := ⟨by decide +kernel, rfl⟩
theorem dk_157_276 : zz_d mm_157 276 (.iload_n 2) 1 277 := ⟨by decide +kernel, rfl⟩
theorem dk_157_277 : zz_d mm_157 277 .iastore 1 278 := ⟨by decide +kernel, rfl⟩
theorem dk_157_278 : zz_d mm_157 278 (.iinc 1 1) 3 281 := ⟨by decide +kernel, rfl⟩
theorem dk_157_281 : zz_d mm_157 281 (.iload 4) 2 283 := ⟨by decide +kernel, rfl⟩
theorem dk_157_283 : zz_d mm_157 283 (.iconst 1) 1 284 := ⟨by decide +kernel, rfl⟩
theorem dk_157_284 : zz_d mm_157 284 .iadd 1 285 := ⟨by decide +kernel, rfl⟩
theorem dk_157_285 : zz_d mm_157 285 (.istore_n 3) 1 286 := ⟨by decide +kernel, rfl⟩
theorem dk_157_286 : zz_d mm_157 286 (.goto (-231)) 3 289 := ⟨by decide +kernel, rfl⟩
theorem dk_157_289 : zz_d mm_157 289 (.aload_n 0) 1 290 := ⟨by decide +kernel, rfl⟩
theorem dk_157_290 : zz_d mm_157 290 (.iload_n 1) 1 291 := ⟨by decide +kernel, rfl⟩
theorem dk_157_291 : zz_d mm_157 291 (.invokevirtual 140) 3 294 := ⟨by decide +kernel, rfl⟩
theorem dk_157_294 : zz_d mm_157 294 .ireturn 1 295 := ⟨by decide +kernel, rfl⟩
theorem dk_158_0 : zz_d mm_158 0 (.iload_n 0) 1 1 := ⟨by decide +kernel, rfl⟩
theorem dk_158_1 : zz_d mm_158 1 (.bipush 48) 2 3 := ⟨by decide +kernel, rfl⟩
theorem dk_158_3 : zz_d mm_158 3 (.if_icmp .lt 14) 3 6 := ⟨by decide +kernel, rfl⟩
theorem dk_158_6 : zz_d mm_158 6 (.iload_n 0) 1 7 := ⟨by decide +kernel, rfl⟩
theorem dk_158_7 : zz_d mm_158 7 (.bipush 57) 2 9 := ⟨by decide +kernel, rfl⟩
theorem dk_158_9 : zz_d mm_158 9 (.if_icmp .gt 8) 3 12 := ⟨by decide +kernel, rfl⟩
theorem dk_158_12 : zz_d mm_158 12 (.iload_n 0) 1 13 := ⟨by decide +kernel, rfl⟩
theorem dk_158_13 : zz_d mm_158 13 (.bipush 48) 2 15 := ⟨by decide +kernel, rfl⟩
theorem dk_158_15 : zz_d mm_158 15 .isub 1 16 := ⟨by decide +kernel, rfl⟩
theorem dk_158_16 : zz_d mm_158 16 .ireturn 1 17 := ⟨by decide +kernel, rfl⟩
theorem dk_158_17 : zz_d mm_158 17 (.iload_n 0) 1 18 := ⟨by decide +kernel, rfl⟩
theorem dk_158_18 : zz_d mm_158 18 (.bipush 97) 2 20 := ⟨by decide +kernel, rfl⟩
theorem dk_158_20 : zz_d mm_158 20 (.if_icmp .lt 17) 3 23 := ⟨by decide +kernel, rfl⟩
theorem dk_158_23 : zz_d mm_158 23 (.iload_n 0) 1 24 := ⟨by decide +kernel, rfl⟩
theorem dk_158_24 : zz_d mm_158 24 (.bipush 102) 2 26 := ⟨by decide +kernel, rfl⟩
theorem dk_158_26 : zz_d mm_158 26 (.if_icmp .gt 11) 3 29 := ⟨by decide +kernel, rfl⟩
theorem dk_158_29 : zz_d mm_158 29 (.iload_n 0) 1 30 := ⟨by decide +kernel, rfl⟩
theorem dk_158_30 : zz_d mm_158 30 (.bipush 97) 2 32 := ⟨by decide +kernel, rfl⟩
theorem dk_158_32 : zz_d mm_158 32 .isub 1 33 := ⟨by decide +kernel, rfl⟩
theorem dk_158_33 : zz_d mm_158 33 (.bipush 10) 2 35 := ⟨by decide +kernel, rfl⟩
theorem dk_158_35 : zz_d mm_158 35 .iadd 1 36 := ⟨by decide +kernel, rfl⟩
theorem dk_158_36 : zz_d mm_158 36 .ireturn 1 37 := ⟨by decide +kernel, rfl⟩
theorem dk_158_37 : zz_d mm_158 37 (.iload_n 0) 1 38 := ⟨by decide +kernel, rfl⟩
theorem dk_158_38 : zz_d mm_158 38 (.bipush 65) 2 40 := ⟨by decide +kernel, rfl⟩
theorem dk_158_40 : zz_d mm_158 40 (.if_icmp .lt 19) 3 43 := ⟨by decide +kernel, rfl⟩
theorem dk_158_43 : zz_d mm_158 43 (.iload_n 0) 1 44 := ⟨by decide +kernel, rfl⟩
theorem dk_158_44 : zz_d mm_158 44 (.bipush 70) 2 46 := ⟨by decide +kernel, rfl⟩
theorem dk_158_46 : zz_d mm_158 46 (.if_icmp .gt 13) 3 49 := ⟨by decide +kernel, rfl⟩
theorem dk_158_49 : zz_d mm_158 49 (.iload_n 0) 1 50 := ⟨by decide +kernel, rfl⟩
theorem dk_158_50 : zz_d mm_158 50 (.bipush 65) 2 52 := ⟨by decide +kernel, rfl⟩
theorem dk_158_52 : zz_d mm_158 52 .isub 1 53 := ⟨by decide +kernel, rfl⟩
theorem dk_158_53 : zz_d mm_158 53 (.bipush 10) 2 55 := ⟨by decide +kernel, rfl⟩
theorem dk_158_55 : zz_d mm_158 55 .iadd 1 56 := ⟨by decide +kernel, rfl⟩
theorem dk_158_56 : zz_d mm_158 56 (.goto 4) 3 59 := ⟨by decide +kernel, rfl⟩
theorem dk_158_59 : zz_d mm_158 59 (.iconst (-1)) 1 60 := ⟨by decide +kernel, rfl⟩
theorem dk_158_60 : zz_d mm_158 60 .ireturn 1 61 := ⟨by decide +kernel, rfl⟩
theorem dk_159_0 : zz_d mm_159 0 (.aload_n 0) 1 1 := ⟨by decide +kernel, rfl⟩
theorem dk_159_1 : zz_d mm_159 1 (.getfield 77) 3 4 := ⟨by decide +kernel, rfl⟩
theorem dk_159_4 : zz_d mm_159 4 (.iload_n 1) 1 5 := ⟨by decide +kernel, rfl⟩
theorem dk_159_5 : zz_d mm_159 5 (.iconst 1) 1 6 := ⟨by decide +kernel, rfl⟩
theorem dk_159_6 : zz_d mm_159 6 .isub 1 7 := ⟨by decide +kernel, rfl⟩
theorem dk_159_7 : zz_d mm_159 7 .iaload 1 8 := ⟨by decide +kernel, rfl⟩
theorem dk_159_8 : zz_d mm_159 8 (.aload_n 0) 1 9 := ⟨by decide +kernel, rfl⟩
theorem dk_159_9 : zz_d mm_159 9 (.getfield 80) 3 12 := ⟨by decide +kernel, rfl⟩
theorem dk_159_12 : zz_d mm_159 12 (.iload_n 1) 1 13 := ⟨by decide +kernel, rfl⟩
theorem dk_159_13 : zz_d mm_159 13 (.iconst 1) 1 14 := ⟨by decide +kernel, rfl⟩
theorem dk_159_14 : zz_d mm_159 14 .isub 1 15 := ⟨by decide +kernel, rfl⟩
theorem dk_159_15 : zz_d mm_159 15 .iaload 1 16 := ⟨by decide +kernel, rfl⟩
theorem dk_159_16 : zz_d mm_159 16 (.if_icmp .ne 9) 3 19 := ⟨by decide +kernel, rfl⟩
theorem dk_159_19 : zz_d mm_159 19 (.iload_n 1) 1 20 := ⟨by decide +kernel, rfl⟩
theorem dk_159_20 : zz_d mm_159 20 (.iconst 1) 1 21 := ⟨by decide +kernel, rfl⟩
theorem dk_159_21 : zz_d mm_159 21 .isub 1 22 := ⟨by decide +kernel, rfl⟩
theorem dk_159_22 : zz_d mm_159 22 (.goto 4) 3 25 := ⟨by decide +kernel, rfl⟩
theorem dk_159_25 : zz_d mm_159 25 (.iload_n 1) 1 26 := ⟨by decide +kernel, rfl⟩
theorem dk_159_26 : zz_d mm_159 26 (.istore_n 2) 1 27 := ⟨by decide +kernel, rfl⟩
theorem dk_159_27 : zz_d mm_159 27 (.aload_n 0) 1 28 := ⟨by decide +kernel, rfl⟩
theorem dk_159_28 : zz_d mm_159 28 (.iconst 0) 1 29 := ⟨by decide +kernel, rfl⟩
theorem dk_159_29 : zz_d mm_159 29 (.putfield 143) 3 32 := ⟨by decide +kernel, rfl⟩
theorem dk_159_32 : zz_d mm_159 32 (.iconst 0) 1 33 := ⟨by decide +kernel, rfl⟩
theorem dk_159_33 : zz_d mm_159 33 (.istore_n 3) 1 34 := ⟨by decide +kernel, rfl⟩
theorem dk_159_34 : zz_d mm_159 34 (.iload_n 3) 1 35 := ⟨by decide +kernel, rfl⟩
theorem dk_159_35 : zz_d mm_159 35 (.iload_n 2) 1 36 := ⟨by decide +kernel, rfl⟩
theorem dk_159_36 : zz_d mm_159 36 (.if_icmp .ge 26) 3 39 := ⟨by decide +kernel, rfl⟩
theorem dk_159_39 : zz_d mm_159 39 (.aload_n 0) 1 40 := ⟨by decide +kernel, rfl⟩
theorem dk_159_40 : zz_d mm_159 40 (.getfield 77) 3 43 := ⟨by decide +kernel, rfl⟩
theorem dk_159_43 : zz_d mm_159 43 (.iload_n 3) 1 44 := ⟨by decide +kernel, rfl⟩
theorem dk_159_44 : zz_d mm_159 44 .iaload 1 45 := ⟨by decide +kernel, rfl⟩
theorem dk_159_45 : zz_d mm_159 45 (.aload_n 0) 1 46 := ⟨by decide +kernel, rfl⟩
theorem dk_159_46 : zz_d mm_159 46 (.getfield 80) 3 49 := ⟨by decide +kernel, rfl⟩
theorem dk_159_49 : zz_d mm_159 49 (.iload_n 3) 1 50 := ⟨by decide +kernel, rfl⟩
theorem dk_159_50 : zz_d mm_159 50 .iaload 1 51 := ⟨by decide +kernel, rfl⟩
theorem dk_159_51 : zz_d mm_159 51 (.if_icmp .ne 5) 3 54 := ⟨by decide +kernel, rfl⟩
theorem dk_159_54 : zz_d mm_159 54 (.iconst 0) 1 55 := ⟨by decide +kernel, rfl⟩
theorem dk_159_55 : zz_d mm_159 55 .ireturn 1 56 := ⟨by decide +kernel, rfl⟩
theorem dk_159_56 : zz_d mm_159 56 (.iinc 3 1) 3 59 := ⟨by decide +kernel, rfl⟩
theorem dk_159_59 : zz_d mm_159 59 (.goto (-25)) 3 62 := ⟨by decide +kernel, rfl⟩
theorem dk_159_62 : zz_d mm_159 62 (.iconst 0) 1 63 := ⟨by decide +kernel, rfl⟩
theorem dk_159_63 : zz_d mm_159 63 (.istore_n 3) 1 64 := ⟨by decide +kernel, rfl⟩
theorem dk_159_64 : zz_d mm_159 64 (.iload_n 3) 1 65 := ⟨by decide +kernel, rfl⟩
theorem dk_159_65 : zz_d mm_159 65 (.iload_n 2) 1 66 := ⟨by decide +kernel, rfl⟩
theorem dk_159_66 : zz_d mm_159 66 (.if_icmp .ge 69) 3 69 := ⟨by decide +kernel, rfl⟩
theorem dk_159_69 : zz_d mm_159 69 (.aload_n 0) 1 70 := ⟨by decide +kernel, rfl⟩
theorem dk_159_70 : zz_d mm_159 70 (.iload_n 3) 1 71 := ⟨by decide +kernel, rfl⟩
theorem dk_159_71 : zz_d mm_159 71 (.iconst 2) 1 72 := ⟨by decide +kernel, rfl⟩
theorem dk_159_72 : zz_d mm_159 72 (.invokevirtual 146) 3 75 := ⟨by decide +kernel, rfl⟩
theorem dk_159_75 : zz_d mm_159 75 (.ifCond .eq 25) 3 78 := ⟨by decide +kernel, rfl⟩
theorem dk_159_78 : zz_d mm_159 78 (.aload_n 0) 1 79 := ⟨by decide +kernel, rfl⟩
theorem dk_159_79 : zz_d mm_159 79 (.getfield 143) 3 82 := ⟨by decide +kernel, rfl⟩
theorem dk_159_82 : zz_d mm_159 82 (.ifCond .ne 5) 3 85 := ⟨by decide +kernel, rfl⟩
theorem dk_159_85 : zz_d mm_159 85 (.iconst 0) 1 86 := ⟨by decide +kernel, rfl⟩
theorem dk_159_86 : zz_d mm_159 86 .ireturn 1 87 := ⟨by decide +kernel, rfl⟩
theorem dk_159_87 : zz_d mm_159 87 (.aload_n 0) 1 88 := ⟨by decide +kernel, rfl⟩
theorem dk_159_88 : zz_d mm_159 88 .dup 1 89 := ⟨by decide +kernel, rfl⟩
theorem dk_159_89 : zz_d mm_159 89 (.getfield 143) 3 92 := ⟨by decide +kernel, rfl⟩
theorem dk_159_92 : zz_d mm_159 92 (.iconst 1) 1 93 := ⟨by decide +kernel, rfl⟩
theorem dk_159_93 : zz_d mm_159 93 .isub 1 94 := ⟨by decide +kernel, rfl⟩
theorem dk_159_94 : zz_d mm_159 94 (.putfield 143) 3 97 := ⟨by decide +kernel, rfl⟩
theorem dk_159_97 : zz_d mm_159 97 (.goto 32) 3 100 := ⟨by decide +kernel, rfl⟩
theorem dk_159_100 : zz_d mm_159 100 (.aload_n 0) 1 101 := ⟨by decide +kernel, rfl⟩
theorem dk_159_101 : zz_d mm_159 101 (.iload_n 3) 1 102 := ⟨by decide +kernel, rfl⟩
theorem dk_159_102 : zz_d mm_159 102 (.iconst 1) 1 103 := ⟨by decide +kernel, rfl⟩
theorem dk_159_103 : zz_d mm_159 103 (.invokevirtual 146) 3 106 := ⟨by decide +kernel, rfl⟩
theorem dk_159_106 : zz_d mm_159 106 (.ifCond .ne 23) 3 109 := ⟨by decide +kernel, rfl⟩
theorem dk_159_109 : zz_d mm_159 109 (.aload_n 0) 1 110 := ⟨by decide +kernel, rfl⟩
theorem dk_159_110 : zz_d mm_159 110 (.getfield 83) 3 113 := ⟨by decide +kernel, rfl⟩
theorem dk_159_113 : zz_d mm_159 113 (.aload_n 0) 1 114 := ⟨by decide +kernel, rfl⟩
theorem dk_159_114 : zz_d mm_159 114 (.getfield 143) 3 117 := ⟨by decide +kernel, rfl⟩
theorem dk_159_117 : zz_d mm_159 117 (.iload_n 3) 1 118 := ⟨by decide +kernel, rfl⟩
theorem dk_159_118 : zz_d mm_159 118 .iastore 1 119 := ⟨by decide +kernel, rfl⟩
theorem dk_159_119 : zz_d mm_159 119 (.aload_n 0) 1 120 := ⟨by decide +kernel, rfl⟩
theorem dk_159_120 : zz_d mm_159 120 .dup 1 121 := ⟨by decide +kernel, rfl⟩
theorem dk_159_121 : zz_d mm_159 121 (.getfield 143) 3 124 := ⟨by decide +kernel, rfl⟩
theorem dk_159_124 : zz_d mm_159 124 (.iconst 1) 1 125 := ⟨by decide +kernel, rfl⟩
theorem dk_159_125 : zz_d mm_159 125 .iadd 1 126 := ⟨by decide +kernel, rfl⟩
theorem dk_159_126 : zz_d mm_159 126 (.putfield 143) 3 129 := ⟨by decide +kernel, rfl⟩
theorem dk_159_129 : zz_d mm_159 129 (.iinc 3 1) 3 132 := ⟨by decide +kernel, rfl⟩
theorem dk_159_132 : zz_d mm_159 132 (.goto (-68)) 3 135 := ⟨by decide +kernel, rfl⟩
theorem dk_159_135 : zz_d mm_159 135 (.iconst 1) 1 136 := ⟨by decide +kernel, rfl⟩
theorem dk_159_136 : zz_d mm_159 136 .ireturn 1 137 := ⟨by decide +kernel, rfl⟩
theorem dk_160_0 : zz_d mm_160 0 (.aload_n 0) 1 1 := ⟨by decide +kernel, rfl⟩
theorem dk_160_1 : zz_d mm_160 1 (.getfield 80) 3 4 := ⟨by decide +kernel, rfl⟩
theorem dk_160_4 : zz_d mm_160 4 (.iload_n 1) 1 5 := ⟨by decide +kernel, rfl⟩
theorem dk_160_5 : zz_d mm_160 5 .iaload 1 6 := ⟨by decide +kernel, rfl⟩
theorem dk_160_6 : zz_d mm_160 6 (.aload_n 0) 1 7 := ⟨by decide +kernel, rfl⟩
theorem dk_160_7 : zz_d mm_160 7 (.getfield 77) 3 10 := ⟨by decide +kernel, rfl⟩
theorem dk_160_10 : zz_d mm_160 10 (.iload_n 1) 1 11 := ⟨by decide +kernel, rfl⟩
theorem dk_160_11 : zz_d mm_160 11 .iaload 1 12 := ⟨by decide +kernel, rfl⟩
theorem dk_160_12 : zz_d mm_160 12 .isub 1 13 := ⟨by decide +kernel, rfl⟩
theorem dk_160_13 : zz_d mm_160 13 (.iload_n 2) 1 14 := ⟨by decide +kernel, rfl⟩
theorem dk_160_14 : zz_d mm_160 14 (.if_icmp .ne 7) 3 17 := ⟨by decide +kernel, rfl⟩
theorem dk_160_17 : zz_d mm_160 17 (.iconst 1) 1 18 := ⟨by decide +kernel, rfl⟩
theorem dk_160_18 : zz_d mm_160 18 (.goto 4) 3 21 := ⟨by decide +kernel, rfl⟩
theorem dk_160_21 : zz_d mm_160 21 (.iconst 0) 1 22 := ⟨by decide +kernel, rfl⟩
theorem dk_160_22 : zz_d mm_160 22 (.istore_n 3) 1 23 := ⟨by decide +kernel, rfl⟩
theorem dk_160_23 : zz_d mm_160 23 (.aload_n 0) 1 24 := ⟨by decide +kernel, rfl⟩
theorem dk_160_24 : zz_d mm_160 24 (.getfield 77) 3 27 := ⟨by decide +kernel, rfl⟩
theorem dk_160_27 : zz_d mm_160 27 (.iload_n 1) 1 28 := ⟨by decide +kernel, rfl⟩
theorem dk_160_28 : zz_d mm_160 28 .iaload 1 29 := ⟨by decide +kernel, rfl⟩
theorem dk_160_29 : zz_d mm_160 29 (.istore 4) 2 31 := ⟨by decide +kernel, rfl⟩
theorem dk_160_31 : zz_d mm_160 31 (.iload 4) 2 33 := ⟨by decide +kernel, rfl⟩
theorem dk_160_33 : zz_d mm_160 33 (.aload_n 0) 1 34 := ⟨by decide +kernel, rfl⟩
theorem dk_160_34 : zz_d mm_160 34 (.getfield 80) 3 37 := ⟨by decide +kernel, rfl⟩
theorem dk_160_37 : zz_d mm_160 37 (.iload_n 1) 1 38 := ⟨by decide +kernel, rfl⟩
theorem dk_160_38 : zz_d mm_160 38 .iaload 1 39 := ⟨by decide +kernel, rfl⟩
theorem dk_160_39 : zz_d mm_160 39 (.if_icmp .ge 31) 3 42 := ⟨by decide +kernel, rfl⟩
theorem dk_160_42 : zz_d mm_160 42 (.iload_n 3) 1 43 := ⟨by decide +kernel, rfl⟩
theorem dk_160_43 : zz_d mm_160 43 (.ifCond .eq 19) 3 46 := ⟨by decide +kernel, rfl⟩
theorem dk_160_46 : zz_d mm_160 46 (.aload_n 0) 1 47 := ⟨by decide +kernel, rfl⟩
theorem dk_160_47 : zz_d mm_160 47 (.getfield 74) 3 50 := ⟨by decide +kernel, rfl⟩
theorem dk_160_50 : zz_d mm_160 50 (.iload 4) 2 52 := ⟨by decide +kernel, rfl⟩
theorem dk_160_52 : zz_d mm_160 52 .iaload 1 53 := ⟨by decide +kernel, rfl⟩
theorem dk_160_53 : zz_d mm_160 53 (.bipush 46) 2 55 := ⟨by decide +kernel, rfl⟩
theorem dk_160_55 : zz_d mm_160 55 (.if_icmp .ne 7) 3 58 := ⟨by decide +kernel, rfl⟩
theorem dk_160_58 : zz_d mm_160 58 (.iconst 1) 1 59 := ⟨by decide +kernel, rfl⟩
theorem dk_160_59 : zz_d mm_160 59 (.goto 4) 3 62 := ⟨by decide +kernel, rfl⟩
theorem dk_160_62 : zz_d mm_160 62 (.iconst 0) 1 63 := ⟨by decide +kernel, rfl⟩
theorem dk_160_63 : zz_d mm_160 63 (.istore_n 3) 1 64 := ⟨by decide +kernel, rfl⟩
theorem dk_160_64 : zz_d mm_160 64 (.iinc 4 1) 3 67 := ⟨by decide +kernel, rfl⟩
theorem dk_160_67 : zz_d mm_160 67 (.goto (-36)) 3 70 := ⟨by decide +kernel, rfl⟩
theorem dk_160_70 : zz_d mm_160 70 (.iload_n 3) 1 71 := ⟨by decide +kernel, rfl⟩
theorem dk_160_71 : zz_d mm_160 71 .ireturn 1 72 := ⟨by decide +kernel, rfl⟩
theorem dk_161_0 : zz_d mm_161 0 (.aload_n 0) 1 1 := ⟨by decide +kernel, rfl⟩
theorem dk_161_1 : zz_d mm_161 1 (.iconst (-1)) 1 2 := ⟨by decide +kernel, rfl⟩
theorem dk_161_2 : zz_d mm_161 2 (.putfield 240) 3 5 := ⟨by decide +kernel, rfl⟩
theorem dk_161_5 : zz_d mm_161 5 (.aload_n 0) 1 6 := ⟨by decide +kernel, rfl⟩
theorem dk_161_6 : zz_d mm_161 6 (.iconst 0) 1 7 := ⟨by decide +kernel, rfl⟩
theorem dk_161_7 : zz_d mm_161 7 (.putfield 243) 3 10 := ⟨by decide +kernel, rfl⟩
theorem dk_161_10 : zz_d mm_161 10 (.aload_n 0) 1 11 := ⟨by decide +kernel, rfl⟩
theorem dk_161_11 : zz_d mm_161 11 (.iload_n 1) 1 12 := ⟨by decide +kernel, rfl⟩
theorem dk_161_12 : zz_d mm_161 12 (.invokevirtual 204) 3 15 := ⟨by decide +kernel, rfl⟩
theorem dk_161_15 : zz_d mm_161 15 (.istore 4) 2 17 := ⟨by decide +kernel, rfl⟩
theorem dk_161_17 : zz_d mm_161 17 (.iload 4) 2 19 := ⟨by decide +kernel, rfl⟩
theorem dk_161_19 : zz_d mm_161 19 (.ifCond .lt 36) 3 22 := ⟨by decide +kernel, rfl⟩
theorem dk_161_22 : zz_d mm_161 22 (.aload_n 0) 1 23 := ⟨by decide +kernel, rfl⟩
theorem dk_161_23 : zz_d mm_161 23 (.iload 4) 2 25 := ⟨by decide +kernel, rfl⟩
theorem dk_161_25 : zz_d mm_161 25 (.iconst 2) 1 26 := ⟨by decide +kernel, rfl⟩
theorem dk_161_26 : zz_d mm_161 26 .idiv 1 27 := ⟨by decide +kernel, rfl⟩
theorem dk_161_27 : zz_d mm_161 27 (.putfield 240) 3 30 := ⟨by decide +kernel, rfl⟩
theorem dk_161_30 : zz_d mm_161 30 (.aload_n 0) 1 31 := ⟨by decide +kernel, rfl⟩
theorem dk_161_31 : zz_d mm_161 31 (.aload_n 0) 1 32 := ⟨by decide +kernel, rfl⟩
theorem dk_161_32 : zz_d mm_161 32 (.getfield 41) 3 35 := ⟨by decide +kernel, rfl⟩
theorem dk_161_35 : zz_d mm_161 35 (.iload 4) 2 37 := ⟨by decide +kernel, rfl⟩
theorem dk_161_37 : zz_d mm_161 37 .baload 1 38 := ⟨by decide +kernel, rfl⟩
theorem dk_161_38 : zz_d mm_161 38 (.putfield 243) 3 41 := ⟨by decide +kernel, rfl⟩
theorem dk_161_41 : zz_d mm_161 41 (.aload_n 0) 1 42 := ⟨by decide +kernel, rfl⟩
theorem dk_161_42 : zz_d mm_161 42 (.getfield 47) 3 45 := ⟨by decide +kernel, rfl⟩
theorem dk_161_45 : zz_d mm_161 45 (.iload 4) 2 47 := ⟨by decide +kernel, rfl⟩
theorem dk_161_47 : zz_d mm_161 47 (.aload_n 0) 1 48 := ⟨by decide +kernel, rfl⟩
theorem dk_161_48 : zz_d mm_161 48 (.getfield 192) 3 51 := ⟨by decide +kernel, rfl⟩
theorem dk_161_51 : zz_d mm_161 51 .iastore 1 52 := ⟨by decide +kernel, rfl⟩
theorem dk_161_52 : zz_d mm_161 52 (.iload 4) 2 54 := ⟨by decide +kernel, rfl⟩
theorem dk_161_54 : zz_d mm_161 54 .ireturn 1 55 := ⟨by decide +kernel, rfl⟩
theorem dk_161_55 : zz_d mm_161 55 (.aload_n 0) 1 56 := ⟨by decide +kernel, rfl⟩
theorem dk_161_56 : zz_d mm_161 56 (.iload_n 2) 1 57 := ⟨by decide +kernel, rfl⟩
theorem dk_161_57 : zz_d mm_161 57 (.invokevirtual 246) 3 60 := ⟨by decide +kernel, rfl⟩
theorem dk_161_60 : zz_d mm_161 60 (.istore 5) 2 62 := ⟨by decide +kernel, rfl⟩
theorem dk_161_62 : zz_d mm_161 62 (.iload 5) 2 64 := ⟨by decide +kernel, rfl⟩
theorem dk_161_64 : zz_d mm_161 64 (.ifCond .ge 5) 3 67 := ⟨by decide +kernel, rfl⟩
theorem dk_161_67 : zz_d mm_161 67 (.iconst (-1)) 1 68 := ⟨by decide +kernel, rfl⟩
theorem dk_161_68 : zz_d mm_161 68 .ireturn 1 69 := ⟨by decide +kernel, rfl⟩
theorem dk_161_69 : zz_d mm_161 69 (.aload_n 0) 1 70 := ⟨by decide +kernel, rfl⟩
theorem dk_161_70 : zz_d mm_161 70 (.getfield 56) 3 73 := ⟨by decide +kernel, rfl⟩
theorem dk_161_73 : zz_d mm_161 73 (.iload 5) 2 75 := ⟨by decide +kernel, rfl⟩
theorem dk_161_75 : zz_d mm_161 75 .iaload 1 76 := ⟨by decide +kernel, rfl⟩
theorem dk_161_76 : zz_d mm_161 76 (.iload_n 3) 1 77 := ⟨by decide +kernel, rfl⟩
theorem dk_161_77 : zz_d mm_161 77 (.if_icmp .ne 40) 3 80 := ⟨by decide +kernel, rfl⟩
theorem dk_161_80 : zz_d mm_161 80 (.aload_n 0) 1 81 := ⟨by decide +kernel, rfl⟩
theorem dk_161_81 : zz_d mm_161 81 (.iload 5) 2 83 := ⟨by decide +kernel, rfl⟩
theorem dk_161_83 : zz_d mm_161 83 (.iconst 2) 1 84 := ⟨by decide +kernel, rfl⟩
theorem dk_161_84 : zz_d mm_161 84 .idiv 1 85 := ⟨by decide +kernel, rfl⟩
theorem dk_161_85 : zz_d mm_161 85 (.putfield 240) 3 88 := ⟨by decide +kernel, rfl⟩
theorem dk_161_88 : zz_d mm_161 88 (.aload_n 0) 1 89 := ⟨by decide +kernel, rfl⟩
theorem dk_161_89 : zz_d mm_161 89 (.iconst 1) 1 90 := ⟨by decide +kernel, rfl⟩
theorem dk_161_90 : zz_d mm_161 90 (.putfield 243) 3 93 := ⟨by decide +kernel, rfl⟩
theorem dk_161_93 : zz_d mm_161 93 (.aload_n 0) 1 94 := ⟨by decide +kernel, rfl⟩
theorem dk_161_94 : zz_d mm_161 94 (.getfield 56) 3 97 := ⟨by decide +kernel, rfl⟩
theorem dk_161_97 : zz_d mm_161 97 (.iload 5) 2 99 := ⟨by decide +kernel, rfl⟩
theorem dk_161_99 : zz_d mm_161 99 (.aload_n 0) 1 100 := ⟨by decide +kernel, rfl⟩
theorem dk_161_100 : zz_d mm_161 100 (.invokevirtual 184) 3 103 := ⟨by decide +kernel, rfl⟩
theorem dk_161_103 : zz_d mm_161 103 .iastore 1 104 := ⟨by decide +kernel, rfl⟩
theorem dk_161_104 : zz_d mm_161 104 (.aload_n 0) 1 105 := ⟨by decide +kernel, rfl⟩
theorem dk_161_105 : zz_d mm_161 105 (.aload_n 0) 1 106 := ⟨by decide +kernel, rfl⟩
theorem dk_161_106 : zz_d mm_161 106 (.getfield 240) 3 109 := ⟨by decide +kernel, rfl⟩
theorem dk_161_109 : zz_d mm_161 109 (.iconst 1) 1 110 := ⟨by decide +kernel, rfl⟩
theorem dk_161_110 : zz_d mm_161 110 (.invokevirtual 207) 3 113 := ⟨by decide +kernel, rfl⟩
theorem dk_161_113 : zz_d mm_161 113 .pop 1 114 := ⟨by decide +kernel, rfl⟩
theorem dk_161_114 : zz_d mm_161 114 (.goto 47) 3 117 := ⟨by decide +kernel, rfl⟩
theorem dk_161_117 : zz_d mm_161 117 (.aload_n 0) 1 118 := ⟨by decide +kernel, rfl⟩
theorem dk_161_118 : zz_d mm_161 118 .dup 1 119 := ⟨by decide +kernel, rfl⟩
theorem dk_161_119 : zz_d mm_161 119 (.getfield 249) 3 122 := ⟨by decide +kernel, rfl⟩
theorem dk_161_122 : zz_d mm_161 122 (.iconst 1) 1 123 := ⟨by decide +kernel, rfl⟩
theorem dk_161_123 : zz_d mm_161 123 .iadd 1 124 := ⟨by decide +kernel, rfl⟩
theorem dk_161_124 : zz_d mm_161 124 (.putfield 249) 3 127 := ⟨by decide +kernel, rfl⟩
theorem dk_161_127 : zz_d mm_161 127 (.aload_n 0) 1 128 := ⟨by decide +kernel, rfl⟩
theorem dk_161_128 : zz_d mm_161 128 (.iload 5) 2 130 := ⟨by decide +kernel, rfl⟩
theorem dk_161_130 : zz_d mm_161 130 (.iconst 2) 1 131 := ⟨by decide +kernel, rfl⟩
theorem dk_161_131 : zz_d mm_161 131 .idiv 1 132 := ⟨by decide +kernel, rfl⟩
theorem dk_161_132 : zz_d mm_161 132 (.invokevirtual 215) 3 135 := ⟨by decide +kernel, rfl⟩
theorem dk_161_135 : zz_d mm_161 135 (.aload_n 0) 1 136 := ⟨by decide +kernel, rfl⟩
theorem dk_161_136 : zz_d mm_161 136 (.getfield 31) 3 139 := ⟨by decide +kernel, rfl⟩
theorem dk_161_139 : zz_d mm_161 139 (.iload 5) 2 141 := ⟨by decide +kernel, rfl⟩
theorem dk_161_141 : zz_d mm_161 141 (.iconst 2) 1 142 := ⟨by decide +kernel, rfl⟩
theorem dk_161_142 : zz_d mm_161 142 .idiv 1 143 := ⟨by decide +kernel, rfl⟩
theorem dk_161_143 : zz_d mm_161 143 (.iconst 2) 1 144 := ⟨by decide +kernel, rfl⟩
theorem dk_161_144 : zz_d mm_161 144 .imul 1 145 := ⟨by decide +kernel, rfl⟩
theorem dk_161_145 : zz_d mm_161 145 (.iconst 0) 1 146 := ⟨by decide +kernel, rfl⟩
theorem dk_161_146 : zz_d mm_161 146 .bastore 1 147 := ⟨by decide +kernel, rfl⟩
theorem dk_161_147 : zz_d mm_161 147 (.aload_n 0) 1 148 := ⟨by decide +kernel, rfl⟩
theorem dk_161_148 : zz_d mm_161 148 (.getfield 31) 3 151 := ⟨by decide +kernel, rfl⟩
theorem dk_161_151 : zz_d mm_161 151 (.iload 5) 2 153 := ⟨by decide +kernel, rfl⟩
theorem dk_161_153 : zz_d mm_161 153 (.iconst 2) 1 154 := ⟨by decide +kernel, rfl⟩
theorem dk_161_154 : zz_d mm_161 154 .idiv 1 155 := ⟨by decide +kernel, rfl⟩
theorem dk_161_155 : zz_d mm_161 155 (.iconst 2) 1 156 := ⟨by decide +kernel, rfl⟩
theorem dk_161_156 : zz_d mm_161 156 .imul 1 157 := ⟨by decide +kernel, rfl⟩
theorem dk_161_157 : zz_d mm_161 157 (.iconst 1) 1 158 := ⟨by decide +kernel, rfl⟩
theorem dk_161_158 : zz_d mm_161 158 .iadd 1 159 := ⟨by decide +kernel, rfl⟩
theorem dk_161_159 : zz_d mm_161 159 (.iconst 0) 1 160 := ⟨by decide +kernel, rfl⟩
theorem dk_161_160 : zz_d mm_161 160 .bastore 1 161 := ⟨by decide +kernel, rfl⟩
theorem dk_161_161 : zz_d mm_161 161 (.iconst (-1)) 1 162 := ⟨by decide +kernel, rfl⟩
theorem dk_161_162 : zz_d mm_161 162 .ireturn 1 163 := ⟨by decide +kernel, rfl⟩
theorem dk_162_0 : zz_d mm_162 0 (.iconst (-1)) 1 1 := ⟨by decide +kernel, rfl⟩
theorem dk_162_1 : zz_d mm_162 1 (.istore_n 2) 1 2 := ⟨by decide +kernel, rfl⟩
theorem dk_162_2 : zz_d mm_162 2 (.iconst 0) 1 3 := ⟨by decide +kernel, rfl⟩
theorem dk_162_3 : zz_d mm_162 3 (.istore_n 3) 1 4 := ⟨by decide +kernel, rfl⟩
theorem dk_162_4 : zz_d mm_162 4 (.iload_n 3) 1 5 := ⟨by decide +kernel, rfl⟩
theorem dk_162_5 : zz_d mm_162 5 (.bipush 12) 2 7 := ⟨by decide +kernel, rfl⟩
theorem dk_162_7 : zz_d mm_162 7 (.if_icmp .ge 34) 3 10 := ⟨by decide +kernel, rfl⟩
theorem dk_162_10 : zz_d mm_162 10 (.aload_n 0) 1 11 := ⟨by decide +kernel, rfl⟩
theorem dk_162_11 : zz_d mm_162 11 (.getfield 50) 3 14 := ⟨by decide +kernel, rfl⟩
theorem dk_162_14 : zz_d mm_162 14 (.iload_n 3) 1 15 := ⟨by decide +kernel, rfl⟩
theorem dk_162_15 : zz_d mm_162 15 .baload 1 16 := ⟨by decide +kernel, rfl⟩
theorem dk_162_16 : zz_d mm_162 16 (.ifCond .eq 17) 3 19 := ⟨by decide +kernel, rfl⟩
theorem dk_162_19 : zz_d mm_162 19 (.aload_n 0) 1 20 := ⟨by decide +kernel, rfl⟩
theorem dk_162_20 : zz_d mm_162 20 (.getfield 53) 3 23 := ⟨by decide +kernel, rfl⟩
theorem dk_162_23 : zz_d mm_162 23 (.iload_n 3) 1 24 := ⟨by decide +kernel, rfl⟩
theorem dk_162_24 : zz_d mm_162 24 .iaload 1 25 := ⟨by decide +kernel, rfl⟩
theorem dk_162_25 : zz_d mm_162 25 (.iload_n 1) 1 26 := ⟨by decide +kernel, rfl⟩
theorem dk_162_26 : zz_d mm_162 26 (.if_icmp .ne 7) 3 29 := ⟨by decide +kernel, rfl⟩
theorem dk_162_29 : zz_d mm_162 29 (.iload_n 3) 1 30 := ⟨by decide +kernel, rfl⟩
theorem dk_162_30 : zz_d mm_162 30 (.goto 4) 3 33 := ⟨by decide +kernel, rfl⟩
theorem dk_162_33 : zz_d mm_162 33 (.iload_n 2) 1 34 := ⟨by decide +kernel, rfl⟩
theorem dk_162_34 : zz_d mm_162 34 (.istore_n 2) 1 35 := ⟨by decide +kernel, rfl⟩
theorem dk_162_35 : zz_d mm_162 35 (.iinc 3 1) 3 38 := ⟨by decide +kernel, rfl⟩
theorem dk_162_38 : zz_d mm_162 38 (.goto (-34)) 3 41 := ⟨by decide +kernel, rfl⟩
theorem dk_162_41 : zz_d mm_162 41 (.iload_n 2) 1 42 := ⟨by decide +kernel, rfl⟩
theorem dk_162_42 : zz_d mm_162 42 .ireturn 1 43 := ⟨by decide +kernel, rfl⟩
theorem dk_163_0 : zz_d mm_163 0 (.bipush 40) 2 2 := ⟨by decide +kernel, rfl⟩
theorem dk_163_2 : zz_d mm_163 2 (.iload_n 1) 1 3 := ⟨by decide +kernel, rfl⟩
theorem dk_163_3 : zz_d mm_163 3 .imul 1 4 := ⟨by decide +kernel, rfl⟩
theorem dk_163_4 : zz_d mm_163 4 (.aload_n 0) 1 5 := ⟨by decide +kernel, rfl⟩
theorem dk_163_5 : zz_d mm_163 5 (.getfield 101) 3 8 := ⟨by decide +kernel, rfl⟩
theorem dk_163_8 : zz_d mm_163 8 (.iload_n 1) 1 9 := ⟨by decide +kernel, rfl⟩
theorem dk_163_9 : zz_d mm_163 9 .iaload 1 10 := ⟨by decide +kernel, rfl⟩
theorem dk_163_10 : zz_d mm_163 10 .iadd 1 11 := ⟨by decide +kernel, rfl⟩
theorem dk_163_11 : zz_d mm_163 11 (.istore_n 2) 1 12 := ⟨by decide +kernel, rfl⟩
theorem dk_163_12 : zz_d mm_163 12 (.iconst 0) 1 13 := ⟨by decide +kernel, rfl⟩
theorem dk_163_13 : zz_d mm_163 13 (.istore_n 3) 1 14 := ⟨by decide +kernel, rfl⟩
theorem dk_163_14 : zz_d mm_163 14 (.iload_n 3) 1 15 := ⟨by decide +kernel, rfl⟩
theorem dk_163_15 : zz_d mm_163 15 (.aload_n 0) 1 16 := ⟨by decide +kernel, rfl⟩
theorem dk_163_16 : zz_d mm_163 16 (.getfield 143) 3 19 := ⟨by decide +kernel, rfl⟩
theorem dk_163_19 : zz_d mm_163 19 (.if_icmp .gt 24) 3 22 := ⟨by decide +kernel, rfl⟩
theorem dk_163_22 : zz_d mm_163 22 (.aload_n 0) 1 23 := ⟨by decide +kernel, rfl⟩
theorem dk_163_23 : zz_d mm_163 23 (.getfield 86) 3 26 := ⟨by decide +kernel, rfl⟩
theorem dk_163_26 : zz_d mm_163 26 (.iload_n 3) 1 27 := ⟨by decide +kernel, rfl⟩
theorem dk_163_27 : zz_d mm_163 27 (.iload_n 3) 1 28 := ⟨by decide +kernel, rfl⟩
theorem dk_163_28 : zz_d mm_163 28 (.ifCond .ne 7) 3 31 := ⟨by decide +kernel, rfl⟩
theorem dk_163_31 : zz_d mm_163 31 (.iconst 1) 1 32 := ⟨by decide +kernel, rfl⟩
theorem dk_163_32 : zz_d mm_163 32 (.goto 4) 3 35 := ⟨by decide +kernel, rfl⟩
theorem dk_163_35 : zz_d mm_163 35 (.iconst 0) 1 36 := ⟨by decide +kernel, rfl⟩
theorem dk_163_36 : zz_d mm_163 36 .bastore 1 37 := ⟨by decide +kernel, rfl⟩
theorem dk_163_37 : zz_d mm_163 37 (.iinc 3 1) 3 40 := ⟨by decide +kernel, rfl⟩
theorem dk_163_40 : zz_d mm_163 40 (.goto (-26)) 3 43 := ⟨by decide +kernel, rfl⟩
theorem dk_163_43 : zz_d mm_163 43 (.bipush 40) 2 45 := ⟨by decide +kernel, rfl⟩
theorem dk_163_45 : zz_d mm_163 45 (.iload_n 1) 1 46 := ⟨by decide +kernel, rfl⟩
theorem dk_163_46 : zz_d mm_163 46 .imul 1 47 := ⟨by decide +kernel, rfl⟩
theorem dk_163_47 : zz_d mm_163 47 (.iconst 1) 1 48 := ⟨by decide +kernel, rfl⟩
theorem dk_163_48 : zz_d mm_163 48 .iadd 1 49 := ⟨by decide +kernel, rfl⟩
theorem dk_163_49 : zz_d mm_163 49 (.istore_n 3) 1 50 := ⟨by decide +kernel, rfl⟩
theorem dk_163_50 : zz_d mm_163 50 (.iload_n 3) 1 51 := ⟨by decide +kernel, rfl⟩
theorem dk_163_51 : zz_d mm_163 51 (.iload_n 2) 1 52 := ⟨by decide +kernel, rfl⟩
theorem dk_163_52 : zz_d mm_163 52 (.if_icmp .ge 210) 3 55 := ⟨by decide +kernel, rfl⟩
theorem dk_163_55 : zz_d mm_163 55 (.iload_n 3) 1 56 := ⟨by decide +kernel, rfl⟩
theorem dk_163_56 : zz_d mm_163 56 (.istore 4) 2 58 := ⟨by decide +kernel, rfl⟩
theorem dk_163_58 : zz_d mm_163 58 (.iload 4) 2 60 := ⟨by decide +kernel, rfl⟩
theorem dk_163_60 : zz_d mm_163 60 (.iload_n 2) 1 61 := ⟨by decide +kernel, rfl⟩
theorem dk_163_61 : zz_d mm_163 61 (.if_icmp .ge 21) 3 64 := ⟨by decide +kernel, rfl⟩
theorem dk_163_64 : zz_d mm_163 64 (.aload_n 0) 1 65 := ⟨by decide +kernel, rfl⟩
theorem dk_163_65 : zz_d mm_163 65 (.getfield 98) 3 68 := ⟨by decide +kernel, rfl⟩
theorem dk_163_68 : zz_d mm_163 68 (.iload 4) 2 70 := ⟨by decide +kernel, rfl⟩
theorem dk_163_70 : zz_d mm_163 70 .iaload 1 71 := ⟨by decide +kernel, rfl⟩
theorem dk_163_71 : zz_d mm_163 71 (.bipush 47) 2 73 := ⟨by decide +kernel, rfl⟩
end
section
theorem dk_163_73 : zz_d mm_163 73 (.if_icmp .eq 9) 3 76 := ⟨by decide +kernel, rfl⟩
theorem dk_163_76 : zz_d mm_163 76 (.iinc 4 1) 3 79 := ⟨by decide +kernel, rfl⟩
theorem dk_163_79 : zz_d mm_163 79 (.goto (-21)) 3 82 := ⟨by decide +kernel, rfl⟩
theorem dk_163_82 : zz_d mm_163 82 (.iload 4) 2 84 := ⟨by decide +kernel, rfl⟩
theorem dk_163_84 : zz_d mm_163 84 (.iload_n 3) 1 85 := ⟨by decide +kernel, rfl⟩
theorem dk_163_85 : zz_d mm_163 85 .isub 1 86 := ⟨by decide +kernel, rfl⟩
theorem dk_163_86 : zz_d mm_163 86 (.iconst 2) 1 87 := ⟨by decide +kernel, rfl⟩
theorem dk_163_87 : zz_d mm_163 87 (.if_icmp .ne 31) 3 90 := ⟨by decide +kernel, rfl⟩
theorem dk_163_90 : zz_d mm_163 90 (.aload_n 0) 1 91 := ⟨by decide +kernel, rfl⟩
theorem dk_163_91 : zz_d mm_163 91 (.getfield 98) 3 94 := ⟨by decide +kernel, rfl⟩
theorem dk_163_94 : zz_d mm_163 94 (.iload_n 3) 1 95 := ⟨by decide +kernel, rfl⟩
theorem dk_163_95 : zz_d mm_163 95 .iaload 1 96 := ⟨by decide +kernel, rfl⟩
theorem dk_163_96 : zz_d mm_163 96 (.bipush 42) 2 98 := ⟨by decide +kernel, rfl⟩
theorem dk_163_98 : zz_d mm_163 98 (.if_icmp .ne 20) 3 101 := ⟨by decide +kernel, rfl⟩
theorem dk_163_101 : zz_d mm_163 101 (.aload_n 0) 1 102 := ⟨by decide +kernel, rfl⟩
theorem dk_163_102 : zz_d mm_163 102 (.getfield 98) 3 105 := ⟨by decide +kernel, rfl⟩
theorem dk_163_105 : zz_d mm_163 105 (.iload_n 3) 1 106 := ⟨by decide +kernel, rfl⟩
theorem dk_163_106 : zz_d mm_163 106 (.iconst 1) 1 107 := ⟨by decide +kernel, rfl⟩
theorem dk_163_107 : zz_d mm_163 107 .iadd 1 108 := ⟨by decide +kernel, rfl⟩
theorem dk_163_108 : zz_d mm_163 108 .iaload 1 109 := ⟨by decide +kernel, rfl⟩
theorem dk_163_109 : zz_d mm_163 109 (.bipush 42) 2 111 := ⟨by decide +kernel, rfl⟩
theorem dk_163_111 : zz_d mm_163 111 (.if_icmp .ne 7) 3 114 := ⟨by decide +kernel, rfl⟩
theorem dk_163_114 : zz_d mm_163 114 (.iconst 1) 1 115 := ⟨by decide +kernel, rfl⟩
theorem dk_163_115 : zz_d mm_163 115 (.goto 4) 3 118 := ⟨by decide +kernel, rfl⟩
theorem dk_163_118 : zz_d mm_163 118 (.iconst 0) 1 119 := ⟨by decide +kernel, rfl⟩
theorem dk_163_119 : zz_d mm_163 119 (.istore 5) 2 121 := ⟨by decide +kernel, rfl⟩
theorem dk_163_121 : zz_d mm_163 121 (.iconst 0) 1 122 := ⟨by decide +kernel, rfl⟩
theorem dk_163_122 : zz_d mm_163 122 (.istore 6) 2 124 := ⟨by decide +kernel, rfl⟩
theorem dk_163_124 : zz_d mm_163 124 (.iconst 0) 1 125 := ⟨by decide +kernel, rfl⟩
theorem dk_163_125 : zz_d mm_163 125 (.istore 7) 2 127 := ⟨by decide +kernel, rfl⟩
theorem dk_163_127 : zz_d mm_163 127 (.iload 7) 2 129 := ⟨by decide +kernel, rfl⟩
theorem dk_163_129 : zz_d mm_163 129 (.aload_n 0) 1 130 := ⟨by decide +kernel, rfl⟩
theorem dk_163_130 : zz_d mm_163 130 (.getfield 143) 3 133 := ⟨by decide +kernel, rfl⟩
theorem dk_163_133 : zz_d mm_163 133 (.if_icmp .gt 89) 3 136 := ⟨by decide +kernel, rfl⟩
theorem dk_163_136 : zz_d mm_163 136 (.iload 6) 2 138 := ⟨by decide +kernel, rfl⟩
theorem dk_163_138 : zz_d mm_163 138 (.ifCond .ne 13) 3 141 := ⟨by decide +kernel, rfl⟩
theorem dk_163_141 : zz_d mm_163 141 (.aload_n 0) 1 142 := ⟨by decide +kernel, rfl⟩
theorem dk_163_142 : zz_d mm_163 142 (.getfield 86) 3 145 := ⟨by decide +kernel, rfl⟩
theorem dk_163_145 : zz_d mm_163 145 (.iload 7) 2 147 := ⟨by decide +kernel, rfl⟩
theorem dk_163_147 : zz_d mm_163 147 .baload 1 148 := ⟨by decide +kernel, rfl⟩
theorem dk_163_148 : zz_d mm_163 148 (.ifCond .eq 7) 3 151 := ⟨by decide +kernel, rfl⟩
theorem dk_163_151 : zz_d mm_163 151 (.iconst 1) 1 152 := ⟨by decide +kernel, rfl⟩
theorem dk_163_152 : zz_d mm_163 152 (.goto 4) 3 155 := ⟨by decide +kernel, rfl⟩
theorem dk_163_155 : zz_d mm_163 155 (.iconst 0) 1 156 := ⟨by decide +kernel, rfl⟩
theorem dk_163_156 : zz_d mm_163 156 (.istore 6) 2 158 := ⟨by decide +kernel, rfl⟩
theorem dk_163_158 : zz_d mm_163 158 (.aload_n 0) 1 159 := ⟨by decide +kernel, rfl⟩
theorem dk_163_159 : zz_d mm_163 159 (.getfield 89) 3 162 := ⟨by decide +kernel, rfl⟩
theorem dk_163_162 : zz_d mm_163 162 (.iload 7) 2 164 := ⟨by decide +kernel, rfl⟩
theorem dk_163_164 : zz_d mm_163 164 (.iload 5) 2 166 := ⟨by decide +kernel, rfl⟩
theorem dk_163_166 : zz_d mm_163 166 (.ifCond .eq 8) 3 169 := ⟨by decide +kernel, rfl⟩
theorem dk_163_169 : zz_d mm_163 169 (.iload 6) 2 171 := ⟨by decide +kernel, rfl⟩
theorem dk_163_171 : zz_d mm_163 171 (.goto 44) 3 174 := ⟨by decide +kernel, rfl⟩
theorem dk_163_174 : zz_d mm_163 174 (.iload 7) 2 176 := ⟨by decide +kernel, rfl⟩
theorem dk_163_176 : zz_d mm_163 176 (.ifCond .le 38) 3 179 := ⟨by decide +kernel, rfl⟩
theorem dk_163_179 : zz_d mm_163 179 (.aload_n 0) 1 180 := ⟨by decide +kernel, rfl⟩
theorem dk_163_180 : zz_d mm_163 180 (.getfield 86) 3 183 := ⟨by decide +kernel, rfl⟩
theorem dk_163_183 : zz_d mm_163 183 (.iload 7) 2 185 := ⟨by decide +kernel, rfl⟩
theorem dk_163_185 : zz_d mm_163 185 (.iconst 1) 1 186 := ⟨by decide +kernel, rfl⟩
theorem dk_163_186 : zz_d mm_163 186 .isub 1 187 := ⟨by decide +kernel, rfl⟩
theorem dk_163_187 : zz_d mm_163 187 .baload 1 188 := ⟨by decide +kernel, rfl⟩
theorem dk_163_188 : zz_d mm_163 188 (.ifCond .eq 26) 3 191 := ⟨by decide +kernel, rfl⟩
theorem dk_163_191 : zz_d mm_163 191 (.aload_n 0) 1 192 := ⟨by decide +kernel, rfl⟩
theorem dk_163_192 : zz_d mm_163 192 (.iload_n 3) 1 193 := ⟨by decide +kernel, rfl⟩
theorem dk_163_193 : zz_d mm_163 193 (.iload 4) 2 195 := ⟨by decide +kernel, rfl⟩
theorem dk_163_195 : zz_d mm_163 195 (.aload_n 0) 1 196 := ⟨by decide +kernel, rfl⟩
theorem dk_163_196 : zz_d mm_163 196 (.getfield 83) 3 199 := ⟨by decide +kernel, rfl⟩
theorem dk_163_199 : zz_d mm_163 199 (.iload 7) 2 201 := ⟨by decide +kernel, rfl⟩
theorem dk_163_201 : zz_d mm_163 201 (.iconst 1) 1 202 := ⟨by decide +kernel, rfl⟩
theorem dk_163_202 : zz_d mm_163 202 .isub 1 203 := ⟨by decide +kernel, rfl⟩
theorem dk_163_203 : zz_d mm_163 203 .iaload 1 204 := ⟨by decide +kernel, rfl⟩
theorem dk_163_204 : zz_d mm_163 204 (.invokevirtual 150) 3 207 := ⟨by decide +kernel, rfl⟩
theorem dk_163_207 : zz_d mm_163 207 (.ifCond .eq 7) 3 210 := ⟨by decide +kernel, rfl⟩
theorem dk_163_210 : zz_d mm_163 210 (.iconst 1) 1 211 := ⟨by decide +kernel, rfl⟩
theorem dk_163_211 : zz_d mm_163 211 (.goto 4) 3 214 := ⟨by decide +kernel, rfl⟩
theorem dk_163_214 : zz_d mm_163 214 (.iconst 0) 1 215 := ⟨by decide +kernel, rfl⟩
theorem dk_163_215 : zz_d mm_163 215 .bastore 1 216 := ⟨by decide +kernel, rfl⟩
theorem dk_163_216 : zz_d mm_163 216 (.iinc 7 1) 3 219 := ⟨by decide +kernel, rfl⟩
theorem dk_163_219 : zz_d mm_163 219 (.goto (-92)) 3 222 := ⟨by decide +kernel, rfl⟩
theorem dk_163_222 : zz_d mm_163 222 (.iconst 0) 1 223 := ⟨by decide +kernel, rfl⟩
theorem dk_163_223 : zz_d mm_163 223 (.istore 7) 2 225 := ⟨by decide +kernel, rfl⟩
theorem dk_163_225 : zz_d mm_163 225 (.iload 7) 2 227 := ⟨by decide +kernel, rfl⟩
theorem dk_163_227 : zz_d mm_163 227 (.aload_n 0) 1 228 := ⟨by decide +kernel, rfl⟩
theorem dk_163_228 : zz_d mm_163 228 (.getfield 143) 3 231 := ⟨by decide +kernel, rfl⟩
theorem dk_163_231 : zz_d mm_163 231 (.if_icmp .gt 23) 3 234 := ⟨by decide +kernel, rfl⟩
theorem dk_163_234 : zz_d mm_163 234 (.aload_n 0) 1 235 := ⟨by decide +kernel, rfl⟩
theorem dk_163_235 : zz_d mm_163 235 (.getfield 86) 3 238 := ⟨by decide +kernel, rfl⟩
theorem dk_163_238 : zz_d mm_163 238 (.iload 7) 2 240 := ⟨by decide +kernel, rfl⟩
theorem dk_163_240 : zz_d mm_163 240 (.aload_n 0) 1 241 := ⟨by decide +kernel, rfl⟩
theorem dk_163_241 : zz_d mm_163 241 (.getfield 89) 3 244 := ⟨by decide +kernel, rfl⟩
theorem dk_163_244 : zz_d mm_163 244 (.iload 7) 2 246 := ⟨by decide +kernel, rfl⟩
theorem dk_163_246 : zz_d mm_163 246 .baload 1 247 := ⟨by decide +kernel, rfl⟩
theorem dk_163_247 : zz_d mm_163 247 .bastore 1 248 := ⟨by decide +kernel, rfl⟩
theorem dk_163_248 : zz_d mm_163 248 (.iinc 7 1) 3 251 := ⟨by decide +kernel, rfl⟩
theorem dk_163_251 : zz_d mm_163 251 (.goto (-26)) 3 254 := ⟨by decide +kernel, rfl⟩
theorem dk_163_254 : zz_d mm_163 254 (.iload 4) 2 256 := ⟨by decide +kernel, rfl⟩
theorem dk_163_256 : zz_d mm_163 256 (.iconst 1) 1 257 := ⟨by decide +kernel, rfl⟩
theorem dk_163_257 : zz_d mm_163 257 .iadd 1 258 := ⟨by decide +kernel, rfl⟩
theorem dk_163_258 : zz_d mm_163 258 (.istore_n 3) 1 259 := ⟨by decide +kernel, rfl⟩
theorem dk_163_259 : zz_d mm_163 259 (.goto (-209)) 3 262 := ⟨by decide +kernel, rfl⟩
theorem dk_163_262 : zz_d mm_163 262 (.aload_n 0) 1 263 := ⟨by decide +kernel, rfl⟩
theorem dk_163_263 : zz_d mm_163 263 (.getfield 86) 3 266 := ⟨by decide +kernel, rfl⟩
theorem dk_163_266 : zz_d mm_163 266 (.aload_n 0) 1 267 := ⟨by decide +kernel, rfl⟩
theorem dk_163_267 : zz_d mm_163 267 (.getfield 143) 3 270 := ⟨by decide +kernel, rfl⟩
theorem dk_163_270 : zz_d mm_163 270 .baload 1 271 := ⟨by decide +kernel, rfl⟩
theorem dk_163_271 : zz_d mm_163 271 .ireturn 1 272 := ⟨by decide +kernel, rfl⟩
theorem dk_164_0 : zz_d mm_164 0 (.aload_n 0) 1 1 := ⟨by decide +kernel, rfl⟩
theorem dk_164_1 : zz_d mm_164 1 (.getfield 80) 3 4 := ⟨by decide +kernel, rfl⟩
theorem dk_164_4 : zz_d mm_164 4 (.iload_n 3) 1 5 := ⟨by decide +kernel, rfl⟩
theorem dk_164_5 : zz_d mm_164 5 .iaload 1 6 := ⟨by decide +kernel, rfl⟩
theorem dk_164_6 : zz_d mm_164 6 (.aload_n 0) 1 7 := ⟨by decide +kernel, rfl⟩
theorem dk_164_7 : zz_d mm_164 7 (.getfield 77) 3 10 := ⟨by decide +kernel, rfl⟩
theorem dk_164_10 : zz_d mm_164 10 (.iload_n 3) 1 11 := ⟨by decide +kernel, rfl⟩
theorem dk_164_11 : zz_d mm_164 11 .iaload 1 12 := ⟨by decide +kernel, rfl⟩
theorem dk_164_12 : zz_d mm_164 12 .isub 1 13 := ⟨by decide +kernel, rfl⟩
theorem dk_164_13 : zz_d mm_164 13 (.istore 4) 2 15 := ⟨by decide +kernel, rfl⟩
theorem dk_164_15 : zz_d mm_164 15 (.iconst 0) 1 16 := ⟨by decide +kernel, rfl⟩
theorem dk_164_16 : zz_d mm_164 16 (.istore 5) 2 18 := ⟨by decide +kernel, rfl⟩
theorem dk_164_18 : zz_d mm_164 18 (.iload 5) 2 20 := ⟨by decide +kernel, rfl⟩
theorem dk_164_20 : zz_d mm_164 20 (.iload 4) 2 22 := ⟨by decide +kernel, rfl⟩
theorem dk_164_22 : zz_d mm_164 22 (.if_icmp .gt 26) 3 25 := ⟨by decide +kernel, rfl⟩
theorem dk_164_25 : zz_d mm_164 25 (.aload_n 0) 1 26 := ⟨by decide +kernel, rfl⟩
theorem dk_164_26 : zz_d mm_164 26 (.getfield 92) 3 29 := ⟨by decide +kernel, rfl⟩
theorem dk_164_29 : zz_d mm_164 29 (.iload 5) 2 31 := ⟨by decide +kernel, rfl⟩
theorem dk_164_31 : zz_d mm_164 31 (.iload 5) 2 33 := ⟨by decide +kernel, rfl⟩
theorem dk_164_33 : zz_d mm_164 33 (.ifCond .ne 7) 3 36 := ⟨by decide +kernel, rfl⟩
theorem dk_164_36 : zz_d mm_164 36 (.iconst 1) 1 37 := ⟨by decide +kernel, rfl⟩
theorem dk_164_37 : zz_d mm_164 37 (.goto 4) 3 40 := ⟨by decide +kernel, rfl⟩
theorem dk_164_40 : zz_d mm_164 40 (.iconst 0) 1 41 := ⟨by decide +kernel, rfl⟩
theorem dk_164_41 : zz_d mm_164 41 .bastore 1 42 := ⟨by decide +kernel, rfl⟩
theorem dk_164_42 : zz_d mm_164 42 (.iinc 5 1) 3 45 := ⟨by decide +kernel, rfl⟩
theorem dk_164_45 : zz_d mm_164 45 (.goto (-27)) 3 48 := ⟨by decide +kernel, rfl⟩
theorem dk_164_48 : zz_d mm_164 48 (.iload_n 1) 1 49 := ⟨by decide +kernel, rfl⟩
theorem dk_164_49 : zz_d mm_164 49 (.istore 5) 2 51 := ⟨by decide +kernel, rfl⟩
theorem dk_164_51 : zz_d mm_164 51 (.iload 5) 2 53 := ⟨by decide +kernel, rfl⟩
theorem dk_164_53 : zz_d mm_164 53 (.iload_n 2) 1 54 := ⟨by decide +kernel, rfl⟩
theorem dk_164_54 : zz_d mm_164 54 (.if_icmp .ge 168) 3 57 := ⟨by decide +kernel, rfl⟩
theorem dk_164_57 : zz_d mm_164 57 (.iconst 0) 1 58 := ⟨by decide +kernel, rfl⟩
theorem dk_164_58 : zz_d mm_164 58 (.istore 6) 2 60 := ⟨by decide +kernel, rfl⟩
theorem dk_164_60 : zz_d mm_164 60 (.iconst 0) 1 61 := ⟨by decide +kernel, rfl⟩
theorem dk_164_61 : zz_d mm_164 61 (.istore 7) 2 63 := ⟨by decide +kernel, rfl⟩
theorem dk_164_63 : zz_d mm_164 63 (.iload 7) 2 65 := ⟨by decide +kernel, rfl⟩
theorem dk_164_65 : zz_d mm_164 65 (.iload 4) 2 67 := ⟨by decide +kernel, rfl⟩
theorem dk_164_67 : zz_d mm_164 67 (.if_icmp .gt 119) 3 70 := ⟨by decide +kernel, rfl⟩
theorem dk_164_70 : zz_d mm_164 70 (.iload 6) 2 72 := ⟨by decide +kernel, rfl⟩
theorem dk_164_72 : zz_d mm_164 72 (.ifCond .ne 13) 3 75 := ⟨by decide +kernel, rfl⟩
theorem dk_164_75 : zz_d mm_164 75 (.aload_n 0) 1 76 := ⟨by decide +kernel, rfl⟩
theorem dk_164_76 : zz_d mm_164 76 (.getfield 92) 3 79 := ⟨by decide +kernel, rfl⟩
theorem dk_164_79 : zz_d mm_164 79 (.iload 7) 2 81 := ⟨by decide +kernel, rfl⟩
theorem dk_164_81 : zz_d mm_164 81 .baload 1 82 := ⟨by decide +kernel, rfl⟩
theorem dk_164_82 : zz_d mm_164 82 (.ifCond .eq 7) 3 85 := ⟨by decide +kernel, rfl⟩
theorem dk_164_85 : zz_d mm_164 85 (.iconst 1) 1 86 := ⟨by decide +kernel, rfl⟩
theorem dk_164_86 : zz_d mm_164 86 (.goto 4) 3 89 := ⟨by decide +kernel, rfl⟩
theorem dk_164_89 : zz_d mm_164 89 (.iconst 0) 1 90 := ⟨by decide +kernel, rfl⟩
theorem dk_164_90 : zz_d mm_164 90 (.istore 6) 2 92 := ⟨by decide +kernel, rfl⟩
theorem dk_164_92 : zz_d mm_164 92 (.iload 7) 2 94 := ⟨by decide +kernel, rfl⟩
theorem dk_164_94 : zz_d mm_164 94 (.ifCond .le 57) 3 97 := ⟨by decide +kernel, rfl⟩
theorem dk_164_97 : zz_d mm_164 97 (.aload_n 0) 1 98 := ⟨by decide +kernel, rfl⟩
theorem dk_164_98 : zz_d mm_164 98 (.getfield 92) 3 101 := ⟨by decide +kernel, rfl⟩
theorem dk_164_101 : zz_d mm_164 101 (.iload 7) 2 103 := ⟨by decide +kernel, rfl⟩
theorem dk_164_103 : zz_d mm_164 103 (.iconst 1) 1 104 := ⟨by decide +kernel, rfl⟩
theorem dk_164_104 : zz_d mm_164 104 .isub 1 105 := ⟨by decide +kernel, rfl⟩
theorem dk_164_105 : zz_d mm_164 105 .baload 1 106 := ⟨by decide +kernel, rfl⟩
theorem dk_164_106 : zz_d mm_164 106 (.ifCond .eq 45) 3 109 := ⟨by decide +kernel, rfl⟩
theorem dk_164_109 : zz_d mm_164 109 (.aload_n 0) 1 110 := ⟨by decide +kernel, rfl⟩
theorem dk_164_110 : zz_d mm_164 110 (.getfield 98) 3 113 := ⟨by decide +kernel, rfl⟩
theorem dk_164_113 : zz_d mm_164 113 (.iload 5) 2 115 := ⟨by decide +kernel, rfl⟩
theorem dk_164_115 : zz_d mm_164 115 .iaload 1 116 := ⟨by decide +kernel, rfl⟩
theorem dk_164_116 : zz_d mm_164 116 (.bipush 63) 2 118 := ⟨by decide +kernel, rfl⟩
theorem dk_164_118 : zz_d mm_164 118 (.if_icmp .eq 29) 3 121 := ⟨by decide +kernel, rfl⟩
theorem dk_164_121 : zz_d mm_164 121 (.aload_n 0) 1 122 := ⟨by decide +kernel, rfl⟩
theorem dk_164_122 : zz_d mm_164 122 (.getfield 98) 3 125 := ⟨by decide +kernel, rfl⟩
theorem dk_164_125 : zz_d mm_164 125 (.iload 5) 2 127 := ⟨by decide +kernel, rfl⟩
theorem dk_164_127 : zz_d mm_164 127 .iaload 1 128 := ⟨by decide +kernel, rfl⟩
theorem dk_164_128 : zz_d mm_164 128 (.aload_n 0) 1 129 := ⟨by decide +kernel, rfl⟩
theorem dk_164_129 : zz_d mm_164 129 (.getfield 74) 3 132 := ⟨by decide +kernel, rfl⟩
theorem dk_164_132 : zz_d mm_164 132 (.aload_n 0) 1 133 := ⟨by decide +kernel, rfl⟩
theorem dk_164_133 : zz_d mm_164 133 (.getfield 77) 3 136 := ⟨by decide +kernel, rfl⟩
theorem dk_164_136 : zz_d mm_164 136 (.iload_n 3) 1 137 := ⟨by decide +kernel, rfl⟩
theorem dk_164_137 : zz_d mm_164 137 .iaload 1 138 := ⟨by decide +kernel, rfl⟩
theorem dk_164_138 : zz_d mm_164 138 (.iload 7) 2 140 := ⟨by decide +kernel, rfl⟩
theorem dk_164_140 : zz_d mm_164 140 .iadd 1 141 := ⟨by decide +kernel, rfl⟩
theorem dk_164_141 : zz_d mm_164 141 (.iconst 1) 1 142 := ⟨by decide +kernel, rfl⟩
theorem dk_164_142 : zz_d mm_164 142 .isub 1 143 := ⟨by decide +kernel, rfl⟩
theorem dk_164_143 : zz_d mm_164 143 .iaload 1 144 := ⟨by decide +kernel, rfl⟩
theorem dk_164_144 : zz_d mm_164 144 (.if_icmp .ne 7) 3 147 := ⟨by decide +kernel, rfl⟩
theorem dk_164_147 : zz_d mm_164 147 (.iconst 1) 1 148 := ⟨by decide +kernel, rfl⟩
theorem dk_164_148 : zz_d mm_164 148 (.goto 4) 3 151 := ⟨by decide +kernel, rfl⟩
theorem dk_164_151 : zz_d mm_164 151 (.iconst 0) 1 152 := ⟨by decide +kernel, rfl⟩
theorem dk_164_152 : zz_d mm_164 152 (.istore 8) 2 154 := ⟨by decide +kernel, rfl⟩
theorem dk_164_154 : zz_d mm_164 154 (.aload_n 0) 1 155 := ⟨by decide +kernel, rfl⟩
theorem dk_164_155 : zz_d mm_164 155 (.getfield 95) 3 158 := ⟨by decide +kernel, rfl⟩
theorem dk_164_158 : zz_d mm_164 158 (.iload 7) 2 160 := ⟨by decide +kernel, rfl⟩
theorem dk_164_160 : zz_d mm_164 160 (.aload_n 0) 1 161 := ⟨by decide +kernel, rfl⟩
theorem dk_164_161 : zz_d mm_164 161 (.getfield 98) 3 164 := ⟨by decide +kernel, rfl⟩
theorem dk_164_164 : zz_d mm_164 164 (.iload 5) 2 166 := ⟨by decide +kernel, rfl⟩
theorem dk_164_166 : zz_d mm_164 166 .iaload 1 167 := ⟨by decide +kernel, rfl⟩
theorem dk_164_167 : zz_d mm_164 167 (.bipush 42) 2 169 := ⟨by decide +kernel, rfl⟩
theorem dk_164_169 : zz_d mm_164 169 (.if_icmp .ne 8) 3 172 := ⟨by decide +kernel, rfl⟩
theorem dk_164_172 : zz_d mm_164 172 (.iload 6) 2 174 := ⟨by decide +kernel, rfl⟩
theorem dk_164_174 : zz_d mm_164 174 (.goto 5) 3 177 := ⟨by decide +kernel, rfl⟩
theorem dk_164_177 : zz_d mm_164 177 (.iload 8) 2 179 := ⟨by decide +kernel, rfl⟩
theorem dk_164_179 : zz_d mm_164 179 .bastore 1 180 := ⟨by decide +kernel, rfl⟩
theorem dk_164_180 : zz_d mm_164 180 (.iinc 7 1) 3 183 := ⟨by decide +kernel, rfl⟩
theorem dk_164_183 : zz_d mm_164 183 (.goto (-120)) 3 186 := ⟨by decide +kernel, rfl⟩
theorem dk_164_186 : zz_d mm_164 186 (.iconst 0) 1 187 := ⟨by decide +kernel, rfl⟩
theorem dk_164_187 : zz_d mm_164 187 (.istore 7) 2 189 := ⟨by decide +kernel, rfl⟩
theorem dk_164_189 : zz_d mm_164 189 (.iload 7) 2 191 := ⟨by decide +kernel, rfl⟩
theorem dk_164_191 : zz_d mm_164 191 (.iload 4) 2 193 := ⟨by decide +kernel, rfl⟩
theorem dk_164_193 : zz_d mm_164 193 (.if_icmp .gt 23) 3 196 := ⟨by decide +kernel, rfl⟩
theorem dk_164_196 : zz_d mm_164 196 (.aload_n 0) 1 197 := ⟨by decide +kernel, rfl⟩
theorem dk_164_197 : zz_d mm_164 197 (.getfield 92) 3 200 := ⟨by decide +kernel, rfl⟩
theorem dk_164_200 : zz_d mm_164 200 (.iload 7) 2 202 := ⟨by decide +kernel, rfl⟩
theorem dk_164_202 : zz_d mm_164 202 (.aload_n 0) 1 203 := ⟨by decide +kernel, rfl⟩
theorem dk_164_203 : zz_d mm_164 203 (.getfield 95) 3 206 := ⟨by decide +kernel, rfl⟩
theorem dk_164_206 : zz_d mm_164 206 (.iload 7) 2 208 := ⟨by decide +kernel, rfl⟩
theorem dk_164_208 : zz_d mm_164 208 .baload 1 209 := ⟨by decide +kernel, rfl⟩
theorem dk_164_209 : zz_d mm_164 209 .bastore 1 210 := ⟨by decide +kernel, rfl⟩
theorem dk_164_210 : zz_d mm_164 210 (.iinc 7 1) 3 213 := ⟨by decide +kernel, rfl⟩
theorem dk_164_213 : zz_d mm_164 213 (.goto (-24)) 3 216 := ⟨by decide +kernel, rfl⟩
theorem dk_164_216 : zz_d mm_164 216 (.iinc 5 1) 3 219 := ⟨by decide +kernel, rfl⟩
theorem dk_164_219 : zz_d mm_164 219 (.goto (-168)) 3 222 := ⟨by decide +kernel, rfl⟩
theorem dk_164_222 : zz_d mm_164 222 (.aload_n 0) 1 223 := ⟨by decide +kernel, rfl⟩
theorem dk_164_223 : zz_d mm_164 223 (.getfield 92) 3 226 := ⟨by decide +kernel, rfl⟩
theorem dk_164_226 : zz_d mm_164 226 (.iload 4) 2 228 := ⟨by decide +kernel, rfl⟩
theorem dk_164_228 : zz_d mm_164 228 .baload 1 229 := ⟨by decide +kernel, rfl⟩
theorem dk_164_229 : zz_d mm_164 229 .ireturn 1 230 := ⟨by decide +kernel, rfl⟩
theorem dk_165_0 : zz_d mm_165 0 (.aload_n 0) 1 1 := ⟨by decide +kernel, rfl⟩
theorem dk_165_1 : zz_d mm_165 1 (.getfield 252) 3 4 := ⟨by decide +kernel, rfl⟩
theorem dk_165_4 : zz_d mm_165 4 (.istore_n 1) 1 5 := ⟨by decide +kernel, rfl⟩
theorem dk_165_5 : zz_d mm_165 5 (.aload_n 0) 1 6 := ⟨by decide +kernel, rfl⟩
theorem dk_165_6 : zz_d mm_165 6 (.iconst 0) 1 7 := ⟨by decide +kernel, rfl⟩
theorem dk_165_7 : zz_d mm_165 7 (.putfield 252) 3 10 := ⟨by decide +kernel, rfl⟩
theorem dk_165_10 : zz_d mm_165 10 (.aload_n 0) 1 11 := ⟨by decide +kernel, rfl⟩
theorem dk_165_11 : zz_d mm_165 11 (.iconst (-1)) 1 12 := ⟨by decide +kernel, rfl⟩
theorem dk_165_12 : zz_d mm_165 12 (.putfield 125) 3 15 := ⟨by decide +kernel, rfl⟩
theorem dk_165_15 : zz_d mm_165 15 (.aload_n 0) 1 16 := ⟨by decide +kernel, rfl⟩
theorem dk_165_16 : zz_d mm_165 16 (.iconst 0) 1 17 := ⟨by decide +kernel, rfl⟩
theorem dk_165_17 : zz_d mm_165 17 (.putfield 227) 3 20 := ⟨by decide +kernel, rfl⟩
theorem dk_165_20 : zz_d mm_165 20 (.iload_n 1) 1 21 := ⟨by decide +kernel, rfl⟩
theorem dk_165_21 : zz_d mm_165 21 .ireturn 1 22 := ⟨by decide +kernel, rfl⟩
theorem dk_166_0 : zz_d mm_166 0 (.aload_n 0) 1 1 := ⟨by decide +kernel, rfl⟩
theorem dk_166_1 : zz_d mm_166 1 (.getfield 125) 3 4 := ⟨by decide +kernel, rfl⟩
theorem dk_166_4 : zz_d mm_166 4 (.ifCond .ge 7) 3 7 := ⟨by decide +kernel, rfl⟩
theorem dk_166_7 : zz_d mm_166 7 (.iconst (-1)) 1 8 := ⟨by decide +kernel, rfl⟩
theorem dk_166_8 : zz_d mm_166 8 (.goto 24) 3 11 := ⟨by decide +kernel, rfl⟩
theorem dk_166_11 : zz_d mm_166 11 (.aload_n 0) 1 12 := ⟨by decide +kernel, rfl⟩
theorem dk_166_12 : zz_d mm_166 12 (.getfield 227) 3 15 := ⟨by decide +kernel, rfl⟩
theorem dk_166_15 : zz_d mm_166 15 (.ifCond .eq 13) 3 18 := ⟨by decide +kernel, rfl⟩
theorem dk_166_18 : zz_d mm_166 18 (.aload_n 0) 1 19 := ⟨by decide +kernel, rfl⟩
theorem dk_166_19 : zz_d mm_166 19 (.getfield 125) 3 22 := ⟨by decide +kernel, rfl⟩
theorem dk_166_22 : zz_d mm_166 22 (.bipush 8) 2 24 := ⟨by decide +kernel, rfl⟩
theorem dk_166_24 : zz_d mm_166 24 .iadd 1 25 := ⟨by decide +kernel, rfl⟩
theorem dk_166_25 : zz_d mm_166 25 (.goto 7) 3 28 := ⟨by decide +kernel, rfl⟩
theorem dk_166_28 : zz_d mm_166 28 (.aload_n 0) 1 29 := ⟨by decide +kernel, rfl⟩
theorem dk_166_29 : zz_d mm_166 29 (.getfield 125) 3 32 := ⟨by decide +kernel, rfl⟩
theorem dk_166_32 : zz_d mm_166 32 .ireturn 1 33 := ⟨by decide +kernel, rfl⟩
theorem dk_167_0 : zz_d mm_167 0 (.iload_n 1) 1 1 := ⟨by decide +kernel, rfl⟩
theorem dk_167_1 : zz_d mm_167 1 (.ifCond .lt 11) 3 4 := ⟨by decide +kernel, rfl⟩
theorem dk_167_4 : zz_d mm_167 4 (.iload_n 1) 1 5 := ⟨by decide +kernel, rfl⟩
theorem dk_167_5 : zz_d mm_167 5 (.aload_n 0) 1 6 := ⟨by decide +kernel, rfl⟩
theorem dk_167_6 : zz_d mm_167 6 (.getfield 171) 3 9 := ⟨by decide +kernel, rfl⟩
theorem dk_167_9 : zz_d mm_167 9 (.if_icmp .lt 5) 3 12 := ⟨by decide +kernel, rfl⟩
theorem dk_167_12 : zz_d mm_167 12 (.iconst (-1)) 1 13 := ⟨by decide +kernel, rfl⟩
theorem dk_167_13 : zz_d mm_167 13 .ireturn 1 14 := ⟨by decide +kernel, rfl⟩
theorem dk_167_14 : zz_d mm_167 14 (.aload_n 0) 1 15 := ⟨by decide +kernel, rfl⟩
theorem dk_167_15 : zz_d mm_167 15 (.invokevirtual 255) 3 18 := ⟨by decide +kernel, rfl⟩
theorem dk_167_18 : zz_d mm_167 18 (.ifCond .ne 6) 3 21 := ⟨by decide +kernel, rfl⟩
theorem dk_167_21 : zz_d mm_167 21 (.bipush (-2)) 2 23 := ⟨by decide +kernel, rfl⟩
theorem dk_167_23 : zz_d mm_167 23 .ireturn 1 24 := ⟨by decide +kernel, rfl⟩
theorem dk_167_24 : zz_d mm_167 24 (.aload_n 0) 1 25 := ⟨by decide +kernel, rfl⟩
theorem dk_167_25 : zz_d mm_167 25 (.iload_n 1) 1 26 := ⟨by decide +kernel, rfl⟩
theorem dk_167_26 : zz_d mm_167 26 (.invokevirtual 261) 3 29 := ⟨by decide +kernel, rfl⟩
theorem dk_167_29 : zz_d mm_167 29 (.ifCond .eq 7) 3 32 := ⟨by decide +kernel, rfl⟩
theorem dk_167_32 : zz_d mm_167 32 (.iconst 1) 1 33 := ⟨by decide +kernel, rfl⟩
theorem dk_167_33 : zz_d mm_167 33 (.goto 4) 3 36 := ⟨by decide +kernel, rfl⟩
theorem dk_167_36 : zz_d mm_167 36 (.iconst 0) 1 37 := ⟨by decide +kernel, rfl⟩
theorem dk_167_37 : zz_d mm_167 37 .ireturn 1 38 := ⟨by decide +kernel, rfl⟩
theorem dk_168_0 : zz_d mm_168 0 (.aload_n 0) 1 1 := ⟨by decide +kernel, rfl⟩
theorem dk_168_1 : zz_d mm_168 1 (.iload_n 1) 1 2 := ⟨by decide +kernel, rfl⟩
theorem dk_168_2 : zz_d mm_168 2 (.invokevirtual 198) 3 5 := ⟨by decide +kernel, rfl⟩
theorem dk_168_5 : zz_d mm_168 5 (.ifCond .eq 21) 3 8 := ⟨by decide +kernel, rfl⟩
theorem dk_168_8 : zz_d mm_168 8 (.iload_n 2) 1 9 := ⟨by decide +kernel, rfl⟩
theorem dk_168_9 : zz_d mm_168 9 (.ifCond .lt 17) 3 12 := ⟨by decide +kernel, rfl⟩
theorem dk_168_12 : zz_d mm_168 12 (.iload_n 2) 1 13 := ⟨by decide +kernel, rfl⟩
theorem dk_168_13 : zz_d mm_168 13 (.iconst 1) 1 14 := ⟨by decide +kernel, rfl⟩
theorem dk_168_14 : zz_d mm_168 14 (.if_icmp .gt 12) 3 17 := ⟨by decide +kernel, rfl⟩
theorem dk_168_17 : zz_d mm_168 17 (.iload_n 3) 1 18 := ⟨by decide +kernel, rfl⟩
theorem dk_168_18 : zz_d mm_168 18 (.ifCond .lt 8) 3 21 := ⟨by decide +kernel, rfl⟩
theorem dk_168_21 : zz_d mm_168 21 (.iload_n 3) 1 22 := ⟨by decide +kernel, rfl⟩
theorem dk_168_22 : zz_d mm_168 22 (.iconst 2) 1 23 := ⟨by decide +kernel, rfl⟩
theorem dk_168_23 : zz_d mm_168 23 (.if_icmp .le 5) 3 26 := ⟨by decide +kernel, rfl⟩
theorem dk_168_26 : zz_d mm_168 26 (.iconst (-1)) 1 27 := ⟨by decide +kernel, rfl⟩
theorem dk_168_27 : zz_d mm_168 27 .ireturn 1 28 := ⟨by decide +kernel, rfl⟩
theorem dk_168_28 : zz_d mm_168 28 (.iconst 2) 1 29 := ⟨by decide +kernel, rfl⟩
theorem dk_168_29 : zz_d mm_168 29 (.iload_n 1) 1 30 := ⟨by decide +kernel, rfl⟩
theorem dk_168_30 : zz_d mm_168 30 .imul 1 31 := ⟨by decide +kernel, rfl⟩
theorem dk_168_31 : zz_d mm_168 31 (.istore 4) 2 33 := ⟨by decide +kernel, rfl⟩
theorem dk_168_33 : zz_d mm_168 33 (.iload 4) 2 35 := ⟨by decide +kernel, rfl⟩
theorem dk_168_35 : zz_d mm_168 35 (.iconst 1) 1 36 := ⟨by decide +kernel, rfl⟩
theorem dk_168_36 : zz_d mm_168 36 .iadd 1 37 := ⟨by decide +kernel, rfl⟩
theorem dk_168_37 : zz_d mm_168 37 (.istore 5) 2 39 := ⟨by decide +kernel, rfl⟩
theorem dk_168_39 : zz_d mm_168 39 (.aload_n 0) 1 40 := ⟨by decide +kernel, rfl⟩
theorem dk_168_40 : zz_d mm_168 40 (.iload 4) 2 42 := ⟨by decide +kernel, rfl⟩
theorem dk_168_42 : zz_d mm_168 42 (.invokevirtual 195) 3 45 := ⟨by decide +kernel, rfl⟩
theorem dk_168_45 : zz_d mm_168 45 (.ifCond .eq 7) 3 48 := ⟨by decide +kernel, rfl⟩
theorem dk_168_48 : zz_d mm_168 48 (.iconst 1) 1 49 := ⟨by decide +kernel, rfl⟩
theorem dk_168_49 : zz_d mm_168 49 (.goto 4) 3 52 := ⟨by decide +kernel, rfl⟩
theorem dk_168_52 : zz_d mm_168 52 (.iconst 0) 1 53 := ⟨by decide +kernel, rfl⟩
theorem dk_168_53 : zz_d mm_168 53 (.aload_n 0) 1 54 := ⟨by decide +kernel, rfl⟩
theorem dk_168_54 : zz_d mm_168 54 (.iload 5) 2 56 := ⟨by decide +kernel, rfl⟩
theorem dk_168_56 : zz_d mm_168 56 (.invokevirtual 195) 3 59 := ⟨by decide +kernel, rfl⟩
theorem dk_168_59 : zz_d mm_168 59 (.ifCond .eq 7) 3 62 := ⟨by decide +kernel, rfl⟩
theorem dk_168_62 : zz_d mm_168 62 (.iconst 1) 1 63 := ⟨by decide +kernel, rfl⟩
theorem dk_168_63 : zz_d mm_168 63 (.goto 4) 3 66 := ⟨by decide +kernel, rfl⟩
theorem dk_168_66 : zz_d mm_168 66 (.iconst 0) 1 67 := ⟨by decide +kernel, rfl⟩
theorem dk_168_67 : zz_d mm_168 67 .iadd 1 68 := ⟨by decide +kernel, rfl⟩
theorem dk_168_68 : zz_d mm_168 68 (.istore 6) 2 70 := ⟨by decide +kernel, rfl⟩
theorem dk_168_70 : zz_d mm_168 70 (.iload_n 2) 1 71 := ⟨by decide +kernel, rfl⟩
theorem dk_168_71 : zz_d mm_168 71 (.iload 6) 2 73 := ⟨by decide +kernel, rfl⟩
theorem dk_168_73 : zz_d mm_168 73 (.if_icmp .lt 5) 3 76 := ⟨by decide +kernel, rfl⟩
theorem dk_168_76 : zz_d mm_168 76 (.iconst (-1)) 1 77 := ⟨by decide +kernel, rfl⟩
theorem dk_168_77 : zz_d mm_168 77 .ireturn 1 78 := ⟨by decide +kernel, rfl⟩
theorem dk_168_78 : zz_d mm_168 78 (.iload 6) 2 80 := ⟨by decide +kernel, rfl⟩
theorem dk_168_80 : zz_d mm_168 80 (.iconst 2) 1 81 := ⟨by decide +kernel, rfl⟩
theorem dk_168_81 : zz_d mm_168 81 (.if_icmp .ne 28) 3 84 := ⟨by decide +kernel, rfl⟩
theorem dk_168_84 : zz_d mm_168 84 (.aload_n 0) 1 85 := ⟨by decide +kernel, rfl⟩
theorem dk_168_85 : zz_d mm_168 85 (.getfield 35) 3 88 := ⟨by decide +kernel, rfl⟩
theorem dk_168_88 : zz_d mm_168 88 (.iload 4) 2 90 := ⟨by decide +kernel, rfl⟩
theorem dk_168_90 : zz_d mm_168 90 .iaload 1 91 := ⟨by decide +kernel, rfl⟩
theorem dk_168_91 : zz_d mm_168 91 (.aload_n 0) 1 92 := ⟨by decide +kernel, rfl⟩
theorem dk_168_92 : zz_d mm_168 92 (.getfield 35) 3 95 := ⟨by decide +kernel, rfl⟩
theorem dk_168_95 : zz_d mm_168 95 (.iload 5) 2 97 := ⟨by decide +kernel, rfl⟩
theorem dk_168_97 : zz_d mm_168 97 .iaload 1 98 := ⟨by decide +kernel, rfl⟩
theorem dk_168_98 : zz_d mm_168 98 (.if_icmp .ge 7) 3 101 := ⟨by decide +kernel, rfl⟩
theorem dk_168_101 : zz_d mm_168 101 (.iconst 1) 1 102 := ⟨by decide +kernel, rfl⟩
theorem dk_168_102 : zz_d mm_168 102 (.goto 13) 3 105 := ⟨by decide +kernel, rfl⟩
theorem dk_168_105 : zz_d mm_168 105 (.iconst 0) 1 106 := ⟨by decide +kernel, rfl⟩
theorem dk_168_106 : zz_d mm_168 106 (.goto 9) 3 109 := ⟨by decide +kernel, rfl⟩
theorem dk_168_109 : zz_d mm_168 109 (.aload_n 0) 1 110 := ⟨by decide +kernel, rfl⟩
theorem dk_168_110 : zz_d mm_168 110 (.iload 4) 2 112 := ⟨by decide +kernel, rfl⟩
theorem dk_168_112 : zz_d mm_168 112 (.invokevirtual 195) 3 115 := ⟨by decide +kernel, rfl⟩
theorem dk_168_115 : zz_d mm_168 115 (.istore 7) 2 117 := ⟨by decide +kernel, rfl⟩
theorem dk_168_117 : zz_d mm_168 117 (.iload 7) 2 119 := ⟨by decide +kernel, rfl⟩
theorem dk_168_119 : zz_d mm_168 119 (.iload_n 2) 1 120 := ⟨by decide +kernel, rfl⟩
theorem dk_168_120 : zz_d mm_168 120 (.ifCond .ne 7) 3 123 := ⟨by decide +kernel, rfl⟩
theorem dk_168_123 : zz_d mm_168 123 (.iconst 1) 1 124 := ⟨by decide +kernel, rfl⟩
theorem dk_168_124 : zz_d mm_168 124 (.goto 4) 3 127 := ⟨by decide +kernel, rfl⟩
theorem dk_168_127 : zz_d mm_168 127 (.iconst 0) 1 128 := ⟨by decide +kernel, rfl⟩
theorem dk_168_128 : zz_d mm_168 128 (.if_icmp .ne 8) 3 131 := ⟨by decide +kernel, rfl⟩
theorem dk_168_131 : zz_d mm_168 131 (.iload 4) 2 133 := ⟨by decide +kernel, rfl⟩
theorem dk_168_133 : zz_d mm_168 133 (.goto 5) 3 136 := ⟨by decide +kernel, rfl⟩
theorem dk_168_136 : zz_d mm_168 136 (.iload 5) 2 138 := ⟨by decide +kernel, rfl⟩
theorem dk_168_138 : zz_d mm_168 138 (.istore 8) 2 140 := ⟨by decide +kernel, rfl⟩
theorem dk_168_140 : zz_d mm_168 140 (.iload_n 3) 1 141 := ⟨by decide +kernel, rfl⟩
theorem dk_168_141 : zz_d mm_168 141 (.ifCond .ne 13) 3 144 := ⟨by decide +kernel, rfl⟩
theorem dk_168_144 : zz_d mm_168 144 (.aload_n 0) 1 145 := ⟨by decide +kernel, rfl⟩
theorem dk_168_145 : zz_d mm_168 145 (.getfield 35) 3 148 := ⟨by decide +kernel, rfl⟩
theorem dk_168_148 : zz_d mm_168 148 (.iload 8) 2 150 := ⟨by decide +kernel, rfl⟩
theorem dk_168_150 : zz_d mm_168 150 .iaload 1 151 := ⟨by decide +kernel, rfl⟩
theorem dk_168_151 : zz_d mm_168 151 (.goto 33) 3 154 := ⟨by decide +kernel, rfl⟩
theorem dk_168_154 : zz_d mm_168 154 (.iload_n 3) 1 155 := ⟨by decide +kernel, rfl⟩
theorem dk_168_155 : zz_d mm_168 155 (.iconst 1) 1 156 := ⟨by decide +kernel, rfl⟩
theorem dk_168_156 : zz_d mm_168 156 (.if_icmp .ne 13) 3 159 := ⟨by decide +kernel, rfl⟩
theorem dk_168_159 : zz_d mm_168 159 (.aload_n 0) 1 160 := ⟨by decide +kernel, rfl⟩
theorem dk_168_160 : zz_d mm_168 160 (.getfield 38) 3 163 := ⟨by decide +kernel, rfl⟩
theorem dk_168_163 : zz_d mm_168 163 (.iload 8) 2 165 := ⟨by decide +kernel, rfl⟩
theorem dk_168_165 : zz_d mm_168 165 .iaload 1 166 := ⟨by decide +kernel, rfl⟩
theorem dk_168_166 : zz_d mm_168 166 (.goto 18) 3 169 := ⟨by decide +kernel, rfl⟩
theorem dk_168_169 : zz_d mm_168 169 (.aload_n 0) 1 170 := ⟨by decide +kernel, rfl⟩
theorem dk_168_170 : zz_d mm_168 170 (.getfield 41) 3 173 := ⟨by decide +kernel, rfl⟩
theorem dk_168_173 : zz_d mm_168 173 (.iload 8) 2 175 := ⟨by decide +kernel, rfl⟩
theorem dk_168_175 : zz_d mm_168 175 .baload 1 176 := ⟨by decide +kernel, rfl⟩
theorem dk_168_176 : zz_d mm_168 176 (.ifCond .eq 7) 3 179 := ⟨by decide +kernel, rfl⟩
theorem dk_168_179 : zz_d mm_168 179 (.iconst 1) 1 180 := ⟨by decide +kernel, rfl⟩
theorem dk_168_180 : zz_d mm_168 180 (.goto 4) 3 183 := ⟨by decide +kernel, rfl⟩
theorem dk_168_183 : zz_d mm_168 183 (.iconst 0) 1 184 := ⟨by decide +kernel, rfl⟩
theorem dk_168_184 : zz_d mm_168 184 .ireturn 1 185 := ⟨by decide +kernel, rfl⟩
theorem dk_169_0 : zz_d mm_169 0 (.aload_n 0) 1 1 := ⟨by decide +kernel, rfl⟩
theorem dk_169_1 : zz_d mm_169 1 (.iload_n 1) 1 2 := ⟨by decide +kernel, rfl⟩
theorem dk_169_2 : zz_d mm_169 2 (.invokevirtual 198) 3 5 := ⟨by decide +kernel, rfl⟩
theorem dk_169_5 : zz_d mm_169 5 (.ifCond .eq 21) 3 8 := ⟨by decide +kernel, rfl⟩
theorem dk_169_8 : zz_d mm_169 8 (.iload_n 2) 1 9 := ⟨by decide +kernel, rfl⟩
theorem dk_169_9 : zz_d mm_169 9 (.ifCond .lt 17) 3 12 := ⟨by decide +kernel, rfl⟩
theorem dk_169_12 : zz_d mm_169 12 (.iload_n 2) 1 13 := ⟨by decide +kernel, rfl⟩
theorem dk_169_13 : zz_d mm_169 13 (.iconst 1) 1 14 := ⟨by decide +kernel, rfl⟩
theorem dk_169_14 : zz_d mm_169 14 (.if_icmp .gt 12) 3 17 := ⟨by decide +kernel, rfl⟩
theorem dk_169_17 : zz_d mm_169 17 (.iload_n 3) 1 18 := ⟨by decide +kernel, rfl⟩
theorem dk_169_18 : zz_d mm_169 18 (.ifCond .lt 8) 3 21 := ⟨by decide +kernel, rfl⟩
theorem dk_169_21 : zz_d mm_169 21 (.iload_n 3) 1 22 := ⟨by decide +kernel, rfl⟩
theorem dk_169_22 : zz_d mm_169 22 (.iconst 1) 1 23 := ⟨by decide +kernel, rfl⟩
theorem dk_169_23 : zz_d mm_169 23 (.if_icmp .le 5) 3 26 := ⟨by decide +kernel, rfl⟩
theorem dk_169_26 : zz_d mm_169 26 (.iconst (-1)) 1 27 := ⟨by decide +kernel, rfl⟩
theorem dk_169_27 : zz_d mm_169 27 .ireturn 1 28 := ⟨by decide +kernel, rfl⟩
theorem dk_169_28 : zz_d mm_169 28 (.iconst 2) 1 29 := ⟨by decide +kernel, rfl⟩
theorem dk_169_29 : zz_d mm_169 29 (.iload_n 1) 1 30 := ⟨by decide +kernel, rfl⟩
theorem dk_169_30 : zz_d mm_169 30 .imul 1 31 := ⟨by decide +kernel, rfl⟩
theorem dk_169_31 : zz_d mm_169 31 (.istore 4) 2 33 := ⟨by decide +kernel, rfl⟩
theorem dk_169_33 : zz_d mm_169 33 (.iload 4) 2 35 := ⟨by decide +kernel, rfl⟩
theorem dk_169_35 : zz_d mm_169 35 (.iconst 1) 1 36 := ⟨by decide +kernel, rfl⟩
theorem dk_169_36 : zz_d mm_169 36 .iadd 1 37 := ⟨by decide +kernel, rfl⟩
theorem dk_169_37 : zz_d mm_169 37 (.istore 5) 2 39 := ⟨by decide +kernel, rfl⟩
theorem dk_169_39 : zz_d mm_169 39 (.aload_n 0) 1 40 := ⟨by decide +kernel, rfl⟩
theorem dk_169_40 : zz_d mm_169 40 (.getfield 50) 3 43 := ⟨by decide +kernel, rfl⟩
theorem dk_169_43 : zz_d mm_169 43 (.iload 4) 2 45 := ⟨by decide +kernel, rfl⟩
theorem dk_169_45 : zz_d mm_169 45 .baload 1 46 := ⟨by decide +kernel, rfl⟩
theorem dk_169_46 : zz_d mm_169 46 (.ifCond .eq 7) 3 49 := ⟨by decide +kernel, rfl⟩
theorem dk_169_49 : zz_d mm_169 49 (.iconst 1) 1 50 := ⟨by decide +kernel, rfl⟩
theorem dk_169_50 : zz_d mm_169 50 (.goto 4) 3 53 := ⟨by decide +kernel, rfl⟩
theorem dk_169_53 : zz_d mm_169 53 (.iconst 0) 1 54 := ⟨by decide +kernel, rfl⟩
theorem dk_169_54 : zz_d mm_169 54 (.aload_n 0) 1 55 := ⟨by decide +kernel, rfl⟩
theorem dk_169_55 : zz_d mm_169 55 (.getfield 50) 3 58 := ⟨by decide +kernel, rfl⟩
theorem dk_169_58 : zz_d mm_169 58 (.iload 5) 2 60 := ⟨by decide +kernel, rfl⟩
theorem dk_169_60 : zz_d mm_169 60 .baload 1 61 := ⟨by decide +kernel, rfl⟩
theorem dk_169_61 : zz_d mm_169 61 (.ifCond .eq 7) 3 64 := ⟨by decide +kernel, rfl⟩
theorem dk_169_64 : zz_d mm_169 64 (.iconst 1) 1 65 := ⟨by decide +kernel, rfl⟩
theorem dk_169_65 : zz_d mm_169 65 (.goto 4) 3 68 := ⟨by decide +kernel, rfl⟩
theorem dk_169_68 : zz_d mm_169 68 (.iconst 0) 1 69 := ⟨by decide +kernel, rfl⟩
theorem dk_169_69 : zz_d mm_169 69 .iadd 1 70 := ⟨by decide +kernel, rfl⟩
theorem dk_169_70 : zz_d mm_169 70 (.istore 6) 2 72 := ⟨by decide +kernel, rfl⟩
theorem dk_169_72 : zz_d mm_169 72 (.iload_n 2) 1 73 := ⟨by decide +kernel, rfl⟩
theorem dk_169_73 : zz_d mm_169 73 (.iload 6) 2 75 := ⟨by decide +kernel, rfl⟩
theorem dk_169_75 : zz_d mm_169 75 (.if_icmp .lt 5) 3 78 := ⟨by decide +kernel, rfl⟩
theorem dk_169_78 : zz_d mm_169 78 (.iconst (-1)) 1 79 := ⟨by decide +kernel, rfl⟩
theorem dk_169_79 : zz_d mm_169 79 .ireturn 1 80 := ⟨by decide +kernel, rfl⟩
theorem dk_169_80 : zz_d mm_169 80 (.iload 6) 2 82 := ⟨by decide +kernel, rfl⟩
theorem dk_169_82 : zz_d mm_169 82 (.iconst 2) 1 83 := ⟨by decide +kernel, rfl⟩
theorem dk_169_83 : zz_d mm_169 83 (.if_icmp .ne 28) 3 86 := ⟨by decide +kernel, rfl⟩
theorem dk_169_86 : zz_d mm_169 86 (.aload_n 0) 1 87 := ⟨by decide +kernel, rfl⟩
theorem dk_169_87 : zz_d mm_169 87 (.getfield 53) 3 90 := ⟨by decide +kernel, rfl⟩
theorem dk_169_90 : zz_d mm_169 90 (.iload 4) 2 92 := ⟨by decide +kernel, rfl⟩
theorem dk_169_92 : zz_d mm_169 92 .iaload 1 93 := ⟨by decide +kernel, rfl⟩
theorem dk_169_93 : zz_d mm_169 93 (.aload_n 0) 1 94 := ⟨by decide +kernel, rfl⟩
theorem dk_169_94 : zz_d mm_169 94 (.getfield 53) 3 97 := ⟨by decide +kernel, rfl⟩
theorem dk_169_97 : zz_d mm_169 97 (.iload 5) 2 99 := ⟨by decide +kernel, rfl⟩
theorem dk_169_99 : zz_d mm_169 99 .iaload 1 100 := ⟨by decide +kernel, rfl⟩
theorem dk_169_100 : zz_d mm_169 100 (.if_icmp .ge 7) 3 103 := ⟨by decide +kernel, rfl⟩
theorem dk_169_103 : zz_d mm_169 103 (.iconst 1) 1 104 := ⟨by decide +kernel, rfl⟩
theorem dk_169_104 : zz_d mm_169 104 (.goto 14) 3 107 := ⟨by decide +kernel, rfl⟩
theorem dk_169_107 : zz_d mm_169 107 (.iconst 0) 1 108 := ⟨by decide +kernel, rfl⟩
theorem dk_169_108 : zz_d mm_169 108 (.goto 10) 3 111 := ⟨by decide +kernel, rfl⟩
theorem dk_169_111 : zz_d mm_169 111 (.aload_n 0) 1 112 := ⟨by decide +kernel, rfl⟩
theorem dk_169_112 : zz_d mm_169 112 (.getfield 50) 3 115 := ⟨by decide +kernel, rfl⟩
theorem dk_169_115 : zz_d mm_169 115 (.iload 4) 2 117 := ⟨by decide +kernel, rfl⟩
theorem dk_169_117 : zz_d mm_169 117 .baload 1 118 := ⟨by decide +kernel, rfl⟩
theorem dk_169_118 : zz_d mm_169 118 (.istore 7) 2 120 := ⟨by decide +kernel, rfl⟩
theorem dk_169_120 : zz_d mm_169 120 (.iload 7) 2 122 := ⟨by decide +kernel, rfl⟩
theorem dk_169_122 : zz_d mm_169 122 (.iload_n 2) 1 123 := ⟨by decide +kernel, rfl⟩
theorem dk_169_123 : zz_d mm_169 123 (.ifCond .ne 7) 3 126 := ⟨by decide +kernel, rfl⟩
theorem dk_169_126 : zz_d mm_169 126 (.iconst 1) 1 127 := ⟨by decide +kernel, rfl⟩
theorem dk_169_127 : zz_d mm_169 127 (.goto 4) 3 130 := ⟨by decide +kernel, rfl⟩
theorem dk_169_130 : zz_d mm_169 130 (.iconst 0) 1 131 := ⟨by decide +kernel, rfl⟩
theorem dk_169_131 : zz_d mm_169 131 (.if_icmp .ne 8) 3 134 := ⟨by decide +kernel, rfl⟩
theorem dk_169_134 : zz_d mm_169 134 (.iload 4) 2 136 := ⟨by decide +kernel, rfl⟩
theorem dk_169_136 : zz_d mm_169 136 (.goto 5) 3 139 := ⟨by decide +kernel, rfl⟩
theorem dk_169_139 : zz_d mm_169 139 (.iload 5) 2 141 := ⟨by decide +kernel, rfl⟩
theorem dk_169_141 : zz_d mm_169 141 (.istore 8) 2 143 := ⟨by decide +kernel, rfl⟩
theorem dk_169_143 : zz_d mm_169 143 (.iload_n 3) 1 144 := ⟨by decide +kernel, rfl⟩
theorem dk_169_144 : zz_d mm_169 144 (.ifCond .ne 13) 3 147 := ⟨by decide +kernel, rfl⟩
theorem dk_169_147 : zz_d mm_169 147 (.aload_n 0) 1 148 := ⟨by decide +kernel, rfl⟩
theorem dk_169_148 : zz_d mm_169 148 (.getfield 53) 3 151 := ⟨by decide +kernel, rfl⟩
theorem dk_169_151 : zz_d mm_169 151 (.iload 8) 2 153 := ⟨by decide +kernel, rfl⟩
theorem dk_169_153 : zz_d mm_169 153 .iaload 1 154 := ⟨by decide +kernel, rfl⟩
theorem dk_169_154 : zz_d mm_169 154 (.goto 10) 3 157 := ⟨by decide +kernel, rfl⟩
theorem dk_169_157 : zz_d mm_169 157 (.aload_n 0) 1 158 := ⟨by decide +kernel, rfl⟩
theorem dk_169_158 : zz_d mm_169 158 (.getfield 56) 3 161 := ⟨by decide +kernel, rfl⟩
theorem dk_169_161 : zz_d mm_169 161 (.iload 8) 2 163 := ⟨by decide +kernel, rfl⟩
theorem dk_169_163 : zz_d mm_169 163 .iaload 1 164 := ⟨by decide +kernel, rfl⟩
theorem dk_169_164 : zz_d mm_169 164 .ireturn 1 165 := ⟨by decide +kernel, rfl⟩
theorem dk_170_0 : zz_d mm_170 0 (.aload_n 0) 1 1 := ⟨by decide +kernel, rfl⟩
theorem dk_170_1 : zz_d mm_170 1 (.iload_n 1) 1 2 := ⟨by decide +kernel, rfl⟩
theorem dk_170_2 : zz_d mm_170 2 (.invokevirtual 198) 3 5 := ⟨by decide +kernel, rfl⟩
theorem dk_170_5 : zz_d mm_170 5 (.ifCond .eq 12) 3 8 := ⟨by decide +kernel, rfl⟩
theorem dk_170_8 : zz_d mm_170 8 (.aload_n 0) 1 9 := ⟨by decide +kernel, rfl⟩
theorem dk_170_9 : zz_d mm_170 9 (.getfield 22) 3 12 := ⟨by decide +kernel, rfl⟩
theorem dk_170_12 : zz_d mm_170 12 (.iload_n 1) 1 13 := ⟨by decide +kernel, rfl⟩
theorem dk_170_13 : zz_d mm_170 13 .iaload 1 14 := ⟨by decide +kernel, rfl⟩
theorem dk_170_14 : zz_d mm_170 14 (.goto 4) 3 17 := ⟨by decide +kernel, rfl⟩
theorem dk_170_17 : zz_d mm_170 17 (.iconst 0) 1 18 := ⟨by decide +kernel, rfl⟩
theorem dk_170_18 : zz_d mm_170 18 .ireturn 1 19 := ⟨by decide +kernel, rfl⟩
theorem dk_171_0 : zz_d mm_171 0 (.iload_n 1) 1 1 := ⟨by decide +kernel, rfl⟩
theorem dk_171_1 : zz_d mm_171 1 (.tableswitch 78 0 6 #[43, 48, 53, 58, 63, 68, 73]) 43 44 := ⟨by decide +kernel, rfl⟩
theorem dk_171_44 : zz_d mm_171 44 (.aload_n 0) 1 45 := ⟨by decide +kernel, rfl⟩
theorem dk_171_45 : zz_d mm_171 45 (.getfield 264) 3 48 := ⟨by decide +kernel, rfl⟩
theorem dk_171_48 : zz_d mm_171 48 .ireturn 1 49 := ⟨by decide +kernel, rfl⟩
theorem dk_171_49 : zz_d mm_171 49 (.aload_n 0) 1 50 := ⟨by decide +kernel, rfl⟩
theorem dk_171_50 : zz_d mm_171 50 (.getfield 234) 3 53 := ⟨by decide +kernel, rfl⟩
theorem dk_171_53 : zz_d mm_171 53 .ireturn 1 54 := ⟨by decide +kernel, rfl⟩
theorem dk_171_54 : zz_d mm_171 54 (.aload_n 0) 1 55 := ⟨by decide +kernel, rfl⟩
theorem dk_171_55 : zz_d mm_171 55 (.getfield 237) 3 58 := ⟨by decide +kernel, rfl⟩
theorem dk_171_58 : zz_d mm_171 58 .ireturn 1 59 := ⟨by decide +kernel, rfl⟩
theorem dk_171_59 : zz_d mm_171 59 (.aload_n 0) 1 60 := ⟨by decide +kernel, rfl⟩
theorem dk_171_60 : zz_d mm_171 60 (.getfield 249) 3 63 := ⟨by decide +kernel, rfl⟩
theorem dk_171_63 : zz_d mm_171 63 .ireturn 1 64 := ⟨by decide +kernel, rfl⟩
theorem dk_171_64 : zz_d mm_171 64 (.aload_n 0) 1 65 := ⟨by decide +kernel, rfl⟩
theorem dk_171_65 : zz_d mm_171 65 (.getfield 201) 3 68 := ⟨by decide +kernel, rfl⟩
theorem dk_171_68 : zz_d mm_171 68 .ireturn 1 69 := ⟨by decide +kernel, rfl⟩
theorem dk_171_69 : zz_d mm_171 69 (.aload_n 0) 1 70 := ⟨by decide +kernel, rfl⟩
theorem dk_171_70 : zz_d mm_171 70 (.getfield 178) 3 73 := ⟨by decide +kernel, rfl⟩
theorem dk_171_73 : zz_d mm_171 73 .ireturn 1 74 := ⟨by decide +kernel, rfl⟩
theorem dk_171_74 : zz_d mm_171 74 (.aload_n 0) 1 75 := ⟨by decide +kernel, rfl⟩
theorem dk_171_75 : zz_d mm_171 75 (.getfield 192) 3 78 := ⟨by decide +kernel, rfl⟩
theorem dk_171_78 : zz_d mm_171 78 .ireturn 1 79 := ⟨by decide +kernel, rfl⟩
theorem dk_171_79 : zz_d mm_171 79 (.iconst (-1)) 1 80 := ⟨by decide +kernel, rfl⟩
theorem dk_171_80 : zz_d mm_171 80 .ireturn 1 81 := ⟨by decide +kernel, rfl⟩
theorem dk_law_0 : zz_d mm_law 0 (.new 7) 3 3 := ⟨by decide +kernel, rfl⟩
theorem dk_law_3 : zz_d mm_law 3 .dup 1 4 := ⟨by decide +kernel, rfl⟩
theorem dk_law_4 : zz_d mm_law 4 (.invokespecial 9) 3 7 := ⟨by decide +kernel, rfl⟩
theorem dk_law_7 : zz_d mm_law 7 (.astore_n 1) 1 8 := ⟨by decide +kernel, rfl⟩
theorem dk_law_8 : zz_d mm_law 8 (.new 10) 3 11 := ⟨by decide +kernel, rfl⟩
theorem dk_law_11 : zz_d mm_law 11 .dup 1 12 := ⟨by decide +kernel, rfl⟩
theorem dk_law_12 : zz_d mm_law 12 (.invokespecial 12) 3 15 := ⟨by decide +kernel, rfl⟩
theorem dk_law_15 : zz_d mm_law 15 (.astore_n 2) 1 16 := ⟨by decide +kernel, rfl⟩
theorem dk_law_16 : zz_d mm_law 16 (.iconst 0) 1 17 := ⟨by decide +kernel, rfl⟩
theorem dk_law_17 : zz_d mm_law 17 (.istore_n 3) 1 18 := ⟨by decide +kernel, rfl⟩
theorem dk_law_18 : zz_d mm_law 18 (.iload_n 3) 1 19 := ⟨by decide +kernel, rfl⟩
theorem dk_law_19 : zz_d mm_law 19 (.aload_n 0) 1 20 := ⟨by decide +kernel, rfl⟩
theorem dk_law_20 : zz_d mm_law 20 .arraylength 1 21 := ⟨by decide +kernel, rfl⟩
theorem dk_law_21 : zz_d mm_law 21 (.bipush 6) 2 23 := ⟨by decide +kernel, rfl⟩
theorem dk_law_23 : zz_d mm_law 23 .isub 1 24 := ⟨by decide +kernel, rfl⟩
theorem dk_law_24 : zz_d mm_law 24 (.if_icmp .gt 784) 3 27 := ⟨by decide +kernel, rfl⟩
theorem dk_law_27 : zz_d mm_law 27 (.aload_n 0) 1 28 := ⟨by decide +kernel, rfl⟩
theorem dk_law_28 : zz_d mm_law 28 (.iload_n 3) 1 29 := ⟨by decide +kernel, rfl⟩
theorem dk_law_29 : zz_d mm_law 29 .iaload 1 30 := ⟨by decide +kernel, rfl⟩
theorem dk_law_30 : zz_d mm_law 30 (.bipush 31) 2 32 := ⟨by decide +kernel, rfl⟩
theorem dk_law_32 : zz_d mm_law 32 .iand 1 33 := ⟨by decide +kernel, rfl⟩
theorem dk_law_33 : zz_d mm_law 33 (.tableswitch 769 0 19 #[95, 118, 129, 172, 205, 238, 281, 324, 367, 390, 459, 482, 545, 588, 601, 614, 637, 680, 723, 746]) 95 128 := ⟨by decide +kernel, rfl⟩
theorem dk_law_128 : zz_d mm_law 128 (.aload_n 1) 1 129 := ⟨by decide +kernel, rfl⟩
theorem dk_law_129 : zz_d mm_law 129 (.aload_n 0) 1 130 := ⟨by decide +kernel, rfl⟩
theorem dk_law_130 : zz_d mm_law 130 (.iload_n 3) 1 131 := ⟨by decide +kernel, rfl⟩
theorem dk_law_131 : zz_d mm_law 131 (.iconst 1) 1 132 := ⟨by decide +kernel, rfl⟩
theorem dk_law_132 : zz_d mm_law 132 .iadd 1 133 := ⟨by decide +kernel, rfl⟩
theorem dk_law_133 : zz_d mm_law 133 .iaload 1 134 := ⟨by decide +kernel, rfl⟩
theorem dk_law_134 : zz_d mm_law 134 (.invokevirtual 13) 3 137 := ⟨by decide +kernel, rfl⟩
theorem dk_law_137 : zz_d mm_law 137 (.aload_n 2) 1 138 := ⟨by decide +kernel, rfl⟩
theorem dk_law_138 : zz_d mm_law 138 (.aload_n 0) 1 139 := ⟨by decide +kernel, rfl⟩
theorem dk_law_139 : zz_d mm_law 139 (.iload_n 3) 1 140 := ⟨by decide +kernel, rfl⟩
theorem dk_law_140 : zz_d mm_law 140 (.iconst 1) 1 141 := ⟨by decide +kernel, rfl⟩
theorem dk_law_141 : zz_d mm_law 141 .iadd 1 142 := ⟨by decide +kernel, rfl⟩
theorem dk_law_142 : zz_d mm_law 142 .iaload 1 143 := ⟨by decide +kernel, rfl⟩
theorem dk_law_143 : zz_d mm_law 143 (.invokevirtual 17) 3 146 := ⟨by decide +kernel, rfl⟩
theorem dk_law_146 : zz_d mm_law 146 (.if_icmp .eq 656) 3 149 := ⟨by decide +kernel, rfl⟩
theorem dk_law_149 : zz_d mm_law 149 (.iconst 0) 1 150 := ⟨by decide +kernel, rfl⟩
theorem dk_law_150 : zz_d mm_law 150 .ireturn 1 151 := ⟨by decide +kernel, rfl⟩
theorem dk_law_151 : zz_d mm_law 151 (.aload_n 1) 1 152 := ⟨by decide +kernel, rfl⟩
theorem dk_law_152 : zz_d mm_law 152 (.invokevirtual 18) 3 155 := ⟨by decide +kernel, rfl⟩
theorem dk_law_155 : zz_d mm_law 155 (.aload_n 2) 1 156 := ⟨by decide +kernel, rfl⟩
theorem dk_law_156 : zz_d mm_law 156 (.invokevirtual 21) 3 159 := ⟨by decide +kernel, rfl⟩
theorem dk_law_159 : zz_d mm_law 159 (.goto 643) 3 162 := ⟨by decide +kernel, rfl⟩
theorem dk_law_162 : zz_d mm_law 162 (.aload_n 1) 1 163 := ⟨by decide +kernel, rfl⟩
theorem dk_law_163 : zz_d mm_law 163 (.aload_n 0) 1 164 := ⟨by decide +kernel, rfl⟩
theorem dk_law_164 : zz_d mm_law 164 (.iload_n 3) 1 165 := ⟨by decide +kernel, rfl⟩
theorem dk_law_165 : zz_d mm_law 165 (.iconst 1) 1 166 := ⟨by decide +kernel, rfl⟩
theorem dk_law_166 : zz_d mm_law 166 .iadd 1 167 := ⟨by decide +kernel, rfl⟩
theorem dk_law_167 : zz_d mm_law 167 .iaload 1 168 := ⟨by decide +kernel, rfl⟩
theorem dk_law_168 : zz_d mm_law 168 (.aload_n 0) 1 169 := ⟨by decide +kernel, rfl⟩
theorem dk_law_169 : zz_d mm_law 169 (.iload_n 3) 1 170 := ⟨by decide +kernel, rfl⟩
theorem dk_law_170 : zz_d mm_law 170 (.iconst 2) 1 171 := ⟨by decide +kernel, rfl⟩
theorem dk_law_171 : zz_d mm_law 171 .iadd 1 172 := ⟨by decide +kernel, rfl⟩
theorem dk_law_172 : zz_d mm_law 172 .iaload 1 173 := ⟨by decide +kernel, rfl⟩
theorem dk_law_173 : zz_d mm_law 173 (.aload_n 0) 1 174 := ⟨by decide +kernel, rfl⟩
theorem dk_law_174 : zz_d mm_law 174 (.iload_n 3) 1 175 := ⟨by decide +kernel, rfl⟩
theorem dk_law_175 : zz_d mm_law 175 (.iconst 3) 1 176 := ⟨by decide +kernel, rfl⟩
theorem dk_law_176 : zz_d mm_law 176 .iadd 1 177 := ⟨by decide +kernel, rfl⟩
theorem dk_law_177 : zz_d mm_law 177 .iaload 1 178 := ⟨by decide +kernel, rfl⟩
theorem dk_law_178 : zz_d mm_law 178 (.invokevirtual 22) 3 181 := ⟨by decide +kernel, rfl⟩
theorem dk_law_181 : zz_d mm_law 181 (.aload_n 2) 1 182 := ⟨by decide +kernel, rfl⟩
theorem dk_law_182 : zz_d mm_law 182 (.aload_n 0) 1 183 := ⟨by decide +kernel, rfl⟩
theorem dk_law_183 : zz_d mm_law 183 (.iload_n 3) 1 184 := ⟨by decide +kernel, rfl⟩
theorem dk_law_184 : zz_d mm_law 184 (.iconst 1) 1 185 := ⟨by decide +kernel, rfl⟩
theorem dk_law_185 : zz_d mm_law 185 .iadd 1 186 := ⟨by decide +kernel, rfl⟩
theorem dk_law_186 : zz_d mm_law 186 .iaload 1 187 := ⟨by decide +kernel, rfl⟩
theorem dk_law_187 : zz_d mm_law 187 (.aload_n 0) 1 188 := ⟨by decide +kernel, rfl⟩
theorem dk_law_188 : zz_d mm_law 188 (.iload_n 3) 1 189 := ⟨by decide +kernel, rfl⟩
theorem dk_law_189 : zz_d mm_law 189 (.iconst 2) 1 190 := ⟨by decide +kernel, rfl⟩
theorem dk_law_190 : zz_d mm_law 190 .iadd 1 191 := ⟨by decide +kernel, rfl⟩
theorem dk_law_191 : zz_d mm_law 191 .iaload 1 192 := ⟨by decide +kernel, rfl⟩
theorem dk_law_192 : zz_d mm_law 192 (.aload_n 0) 1 193 := ⟨by decide +kernel, rfl⟩
theorem dk_law_193 : zz_d mm_law 193 (.iload_n 3) 1 194 := ⟨by decide +kernel, rfl⟩
theorem dk_law_194 : zz_d mm_law 194 (.iconst 3) 1 195 := ⟨by decide +kernel, rfl⟩
theorem dk_law_195 : zz_d mm_law 195 .iadd 1 196 := ⟨by decide +kernel, rfl⟩
theorem dk_law_196 : zz_d mm_law 196 .iaload 1 197 := ⟨by decide +kernel, rfl⟩
theorem dk_law_197 : zz_d mm_law 197 (.invokevirtual 26) 3 200 := ⟨by decide +kernel, rfl⟩
theorem dk_law_200 : zz_d mm_law 200 (.if_icmp .eq 602) 3 203 := ⟨by decide +kernel, rfl⟩
theorem dk_law_203 : zz_d mm_law 203 (.iconst 0) 1 204 := ⟨by decide +kernel, rfl⟩
theorem dk_law_204 : zz_d mm_law 204 .ireturn 1 205 := ⟨by decide +kernel, rfl⟩
theorem dk_law_205 : zz_d mm_law 205 (.aload_n 1) 1 206 := ⟨by decide +kernel, rfl⟩
theorem dk_law_206 : zz_d mm_law 206 (.aload_n 0) 1 207 := ⟨by decide +kernel, rfl⟩
theorem dk_law_207 : zz_d mm_law 207 (.iload_n 3) 1 208 := ⟨by decide +kernel, rfl⟩
theorem dk_law_208 : zz_d mm_law 208 (.iconst 1) 1 209 := ⟨by decide +kernel, rfl⟩
theorem dk_law_209 : zz_d mm_law 209 .iadd 1 210 := ⟨by decide +kernel, rfl⟩
theorem dk_law_210 : zz_d mm_law 210 .iaload 1 211 := ⟨by decide +kernel, rfl⟩
theorem dk_law_211 : zz_d mm_law 211 (.aload_n 0) 1 212 := ⟨by decide +kernel, rfl⟩
theorem dk_law_212 : zz_d mm_law 212 (.iload_n 3) 1 213 := ⟨by decide +kernel, rfl⟩
theorem dk_law_213 : zz_d mm_law 213 (.iconst 2) 1 214 := ⟨by decide +kernel, rfl⟩
theorem dk_law_214 : zz_d mm_law 214 .iadd 1 215 := ⟨by decide +kernel, rfl⟩
theorem dk_law_215 : zz_d mm_law 215 .iaload 1 216 := ⟨by decide +kernel, rfl⟩
theorem dk_law_216 : zz_d mm_law 216 (.invokevirtual 27) 3 219 := ⟨by decide +kernel, rfl⟩
theorem dk_law_219 : zz_d mm_law 219 (.aload_n 2) 1 220 := ⟨by decide +kernel, rfl⟩
theorem dk_law_220 : zz_d mm_law 220 (.aload_n 0) 1 221 := ⟨by decide +kernel, rfl⟩
theorem dk_law_221 : zz_d mm_law 221 (.iload_n 3) 1 222 := ⟨by decide +kernel, rfl⟩
theorem dk_law_222 : zz_d mm_law 222 (.iconst 1) 1 223 := ⟨by decide +kernel, rfl⟩
theorem dk_law_223 : zz_d mm_law 223 .iadd 1 224 := ⟨by decide +kernel, rfl⟩
theorem dk_law_224 : zz_d mm_law 224 .iaload 1 225 := ⟨by decide +kernel, rfl⟩
theorem dk_law_225 : zz_d mm_law 225 (.aload_n 0) 1 226 := ⟨by decide +kernel, rfl⟩
theorem dk_law_226 : zz_d mm_law 226 (.iload_n 3) 1 227 := ⟨by decide +kernel, rfl⟩
theorem dk_law_227 : zz_d mm_law 227 (.iconst 2) 1 228 := ⟨by decide +kernel, rfl⟩
theorem dk_law_228 : zz_d mm_law 228 .iadd 1 229 := ⟨by decide +kernel, rfl⟩
theorem dk_law_229 : zz_d mm_law 229 .iaload 1 230 := ⟨by decide +kernel, rfl⟩
theorem dk_law_230 : zz_d mm_law 230 (.invokevirtual 31) 3 233 := ⟨by decide +kernel, rfl⟩
theorem dk_law_233 : zz_d mm_law 233 (.if_icmp .eq 569) 3 236 := ⟨by decide +kernel, rfl⟩
theorem dk_law_236 : zz_d mm_law 236 (.iconst 0) 1 237 := ⟨by decide +kernel, rfl⟩
theorem dk_law_237 : zz_d mm_law 237 .ireturn 1 238 := ⟨by decide +kernel, rfl⟩
theorem dk_law_238 : zz_d mm_law 238 (.aload_n 1) 1 239 := ⟨by decide +kernel, rfl⟩
theorem dk_law_239 : zz_d mm_law 239 (.aload_n 0) 1 240 := ⟨by decide +kernel, rfl⟩
theorem dk_law_240 : zz_d mm_law 240 (.iload_n 3) 1 241 := ⟨by decide +kernel, rfl⟩
theorem dk_law_241 : zz_d mm_law 241 (.iconst 1) 1 242 := ⟨by decide +kernel, rfl⟩
theorem dk_law_242 : zz_d mm_law 242 .iadd 1 243 := ⟨by decide +kernel, rfl⟩
theorem dk_law_243 : zz_d mm_law 243 .iaload 1 244 := ⟨by decide +kernel, rfl⟩
theorem dk_law_244 : zz_d mm_law 244 (.aload_n 0) 1 245 := ⟨by decide +kernel, rfl⟩
theorem dk_law_245 : zz_d mm_law 245 (.iload_n 3) 1 246 := ⟨by decide +kernel, rfl⟩
theorem dk_law_246 : zz_d mm_law 246 (.iconst 2) 1 247 := ⟨by decide +kernel, rfl⟩
theorem dk_law_247 : zz_d mm_law 247 .iadd 1 248 := ⟨by decide +kernel, rfl⟩
theorem dk_law_248 : zz_d mm_law 248 .iaload 1 249 := ⟨by decide +kernel, rfl⟩
theorem dk_law_249 : zz_d mm_law 249 (.invokevirtual 32) 3 252 := ⟨by decide +kernel, rfl⟩
theorem dk_law_252 : zz_d mm_law 252 (.aload_n 2) 1 253 := ⟨by decide +kernel, rfl⟩
theorem dk_law_253 : zz_d mm_law 253 (.aload_n 0) 1 254 := ⟨by decide +kernel, rfl⟩
theorem dk_law_254 : zz_d mm_law 254 (.iload_n 3) 1 255 := ⟨by decide +kernel, rfl⟩
theorem dk_law_255 : zz_d mm_law 255 (.iconst 1) 1 256 := ⟨by decide +kernel, rfl⟩
theorem dk_law_256 : zz_d mm_law 256 .iadd 1 257 := ⟨by decide +kernel, rfl⟩
theorem dk_law_257 : zz_d mm_law 257 .iaload 1 258 := ⟨by decide +kernel, rfl⟩
theorem dk_law_258 : zz_d mm_law 258 (.aload_n 0) 1 259 := ⟨by decide +kernel, rfl⟩
theorem dk_law_259 : zz_d mm_law 259 (.iload_n 3) 1 260 := ⟨by decide +kernel, rfl⟩
theorem dk_law_260 : zz_d mm_law 260 (.iconst 2) 1 261 := ⟨by decide +kernel, rfl⟩
theorem dk_law_261 : zz_d mm_law 261 .iadd 1 262 := ⟨by decide +kernel, rfl⟩
theorem dk_law_262 : zz_d mm_law 262 .iaload 1 263 := ⟨by decide +kernel, rfl⟩
theorem dk_law_263 : zz_d mm_law 263 (.invokevirtual 36) 3 266 := ⟨by decide +kernel, rfl⟩
theorem dk_law_266 : zz_d mm_law 266 (.if_icmp .eq 536) 3 269 := ⟨by decide +kernel, rfl⟩
theorem dk_law_269 : zz_d mm_law 269 (.iconst 0) 1 270 := ⟨by decide +kernel, rfl⟩
theorem dk_law_270 : zz_d mm_law 270 .ireturn 1 271 := ⟨by decide +kernel, rfl⟩
theorem dk_law_271 : zz_d mm_law 271 (.aload_n 1) 1 272 := ⟨by decide +kernel, rfl⟩
theorem dk_law_272 : zz_d mm_law 272 (.aload_n 0) 1 273 := ⟨by decide +kernel, rfl⟩
theorem dk_law_273 : zz_d mm_law 273 (.iload_n 3) 1 274 := ⟨by decide +kernel, rfl⟩
theorem dk_law_274 : zz_d mm_law 274 (.iconst 1) 1 275 := ⟨by decide +kernel, rfl⟩
theorem dk_law_275 : zz_d mm_law 275 .iadd 1 276 := ⟨by decide +kernel, rfl⟩
theorem dk_law_276 : zz_d mm_law 276 .iaload 1 277 := ⟨by decide +kernel, rfl⟩
theorem dk_law_277 : zz_d mm_law 277 (.aload_n 0) 1 278 := ⟨by decide +kernel, rfl⟩
theorem dk_law_278 : zz_d mm_law 278 (.iload_n 3) 1 279 := ⟨by decide +kernel, rfl⟩
theorem dk_law_279 : zz_d mm_law 279 (.iconst 2) 1 280 := ⟨by decide +kernel, rfl⟩
theorem dk_law_280 : zz_d mm_law 280 .iadd 1 281 := ⟨by decide +kernel, rfl⟩
theorem dk_law_281 : zz_d mm_law 281 .iaload 1 282 := ⟨by decide +kernel, rfl⟩
theorem dk_law_282 : zz_d mm_law 282 (.aload_n 0) 1 283 := ⟨by decide +kernel, rfl⟩
theorem dk_law_283 : zz_d mm_law 283 (.iload_n 3) 1 284 := ⟨by decide +kernel, rfl⟩
theorem dk_law_284 : zz_d mm_law 284 (.iconst 3) 1 285 := ⟨by decide +kernel, rfl⟩
theorem dk_law_285 : zz_d mm_law 285 .iadd 1 286 := ⟨by decide +kernel, rfl⟩
theorem dk_law_286 : zz_d mm_law 286 .iaload 1 287 := ⟨by decide +kernel, rfl⟩
theorem dk_law_287 : zz_d mm_law 287 (.invokevirtual 37) 3 290 := ⟨by decide +kernel, rfl⟩
theorem dk_law_290 : zz_d mm_law 290 (.aload_n 2) 1 291 := ⟨by decide +kernel, rfl⟩
theorem dk_law_291 : zz_d mm_law 291 (.aload_n 0) 1 292 := ⟨by decide +kernel, rfl⟩
theorem dk_law_292 : zz_d mm_law 292 (.iload_n 3) 1 293 := ⟨by decide +kernel, rfl⟩
theorem dk_law_293 : zz_d mm_law 293 (.iconst 1) 1 294 := ⟨by decide +kernel, rfl⟩
theorem dk_law_294 : zz_d mm_law 294 .iadd 1 295 := ⟨by decide +kernel, rfl⟩
theorem dk_law_295 : zz_d mm_law 295 .iaload 1 296 := ⟨by decide +kernel, rfl⟩
theorem dk_law_296 : zz_d mm_law 296 (.aload_n 0) 1 297 := ⟨by decide +kernel, rfl⟩
theorem dk_law_297 : zz_d mm_law 297 (.iload_n 3) 1 298 := ⟨by decide +kernel, rfl⟩
theorem dk_law_298 : zz_d mm_law 298 (.iconst 2) 1 299 := ⟨by decide +kernel, rfl⟩
theorem dk_law_299 : zz_d mm_law 299 .iadd 1 300 := ⟨by decide +kernel, rfl⟩
theorem dk_law_300 : zz_d mm_law 300 .iaload 1 301 := ⟨by decide +kernel, rfl⟩
theorem dk_law_301 : zz_d mm_law 301 (.aload_n 0) 1 302 := ⟨by decide +kernel, rfl⟩
theorem dk_law_302 : zz_d mm_law 302 (.iload_n 3) 1 303 := ⟨by decide +kernel, rfl⟩
theorem dk_law_303 : zz_d mm_law 303 (.iconst 3) 1 304 := ⟨by decide +kernel, rfl⟩
theorem dk_law_304 : zz_d mm_law 304 .iadd 1 305 := ⟨by decide +kernel, rfl⟩
theorem dk_law_305 : zz_d mm_law 305 .iaload 1 306 := ⟨by decide +kernel, rfl⟩
theorem dk_law_306 : zz_d mm_law 306 (.invokevirtual 40) 3 309 := ⟨by decide +kernel, rfl⟩
theorem dk_law_309 : zz_d mm_law 309 (.if_icmp .eq 493) 3 312 := ⟨by decide +kernel, rfl⟩
theorem dk_law_312 : zz_d mm_law 312 (.iconst 0) 1 313 := ⟨by decide +kernel, rfl⟩
theorem dk_law_313 : zz_d mm_law 313 .ireturn 1 314 := ⟨by decide +kernel, rfl⟩
theorem dk_law_314 : zz_d mm_law 314 (.aload_n 1) 1 315 := ⟨by decide +kernel, rfl⟩
theorem dk_law_315 : zz_d mm_law 315 (.aload_n 0) 1 316 := ⟨by decide +kernel, rfl⟩
theorem dk_law_316 : zz_d mm_law 316 (.iload_n 3) 1 317 := ⟨by decide +kernel, rfl⟩
theorem dk_law_317 : zz_d mm_law 317 (.iconst 1) 1 318 := ⟨by decide +kernel, rfl⟩
theorem dk_law_318 : zz_d mm_law 318 .iadd 1 319 := ⟨by decide +kernel, rfl⟩
theorem dk_law_319 : zz_d mm_law 319 .iaload 1 320 := ⟨by decide +kernel, rfl⟩
theorem dk_law_320 : zz_d mm_law 320 (.aload_n 0) 1 321 := ⟨by decide +kernel, rfl⟩
theorem dk_law_321 : zz_d mm_law 321 (.iload_n 3) 1 322 := ⟨by decide +kernel, rfl⟩
theorem dk_law_322 : zz_d mm_law 322 (.iconst 2) 1 323 := ⟨by decide +kernel, rfl⟩
theorem dk_law_323 : zz_d mm_law 323 .iadd 1 324 := ⟨by decide +kernel, rfl⟩
theorem dk_law_324 : zz_d mm_law 324 .iaload 1 325 := ⟨by decide +kernel, rfl⟩
theorem dk_law_325 : zz_d mm_law 325 (.aload_n 0) 1 326 := ⟨by decide +kernel, rfl⟩
theorem dk_law_326 : zz_d mm_law 326 (.iload_n 3) 1 327 := ⟨by decide +kernel, rfl⟩
theorem dk_law_327 : zz_d mm_law 327 (.iconst 3) 1 328 := ⟨by decide +kernel, rfl⟩
theorem dk_law_328 : zz_d mm_law 328 .iadd 1 329 := ⟨by decide +kernel, rfl⟩
theorem dk_law_329 : zz_d mm_law 329 .iaload 1 330 := ⟨by decide +kernel, rfl⟩
theorem dk_law_330 : zz_d mm_law 330 (.invokevirtual 41) 3 333 := ⟨by decide +kernel, rfl⟩
theorem dk_law_333 : zz_d mm_law 333 (.aload_n 2) 1 334 := ⟨by decide +kernel, rfl⟩
theorem dk_law_334 : zz_d mm_law 334 (.aload_n 0) 1 335 := ⟨by decide +kernel, rfl⟩
theorem dk_law_335 : zz_d mm_law 335 (.iload_n 3) 1 336 := ⟨by decide +kernel, rfl⟩
theorem dk_law_336 : zz_d mm_law 336 (.iconst 1) 1 337 := ⟨by decide +kernel, rfl⟩
theorem dk_law_337 : zz_d mm_law 337 .iadd 1 338 := ⟨by decide +kernel, rfl⟩
theorem dk_law_338 : zz_d mm_law 338 .iaload 1 339 := ⟨by decide +kernel, rfl⟩
theorem dk_law_339 : zz_d mm_law 339 (.aload_n 0) 1 340 := ⟨by decide +kernel, rfl⟩
end
section
theorem dk_law_340 : zz_d mm_law 340 (.iload_n 3) 1 341 := ⟨by decide +kernel, rfl⟩
theorem dk_law_341 : zz_d mm_law 341 (.iconst 2) 1 342 := ⟨by decide +kernel, rfl⟩
theorem dk_law_342 : zz_d mm_law 342 .iadd 1 343 := ⟨by decide +kernel, rfl⟩
theorem dk_law_343 : zz_d mm_law 343 .iaload 1 344 := ⟨by decide +kernel, rfl⟩
theorem dk_law_344 : zz_d mm_law 344 (.aload_n 0) 1 345 := ⟨by decide +kernel, rfl⟩
theorem dk_law_345 : zz_d mm_law 345 (.iload_n 3) 1 346 := ⟨by decide +kernel, rfl⟩
theorem dk_law_346 : zz_d mm_law 346 (.iconst 3) 1 347 := ⟨by decide +kernel, rfl⟩
theorem dk_law_347 : zz_d mm_law 347 .iadd 1 348 := ⟨by decide +kernel, rfl⟩
theorem dk_law_348 : zz_d mm_law 348 .iaload 1 349 := ⟨by decide +kernel, rfl⟩
theorem dk_law_349 : zz_d mm_law 349 (.invokevirtual 44) 3 352 := ⟨by decide +kernel, rfl⟩
theorem dk_law_352 : zz_d mm_law 352 (.if_icmp .eq 450) 3 355 := ⟨by decide +kernel, rfl⟩
theorem dk_law_355 : zz_d mm_law 355 (.iconst 0) 1 356 := ⟨by decide +kernel, rfl⟩
theorem dk_law_356 : zz_d mm_law 356 .ireturn 1 357 := ⟨by decide +kernel, rfl⟩
theorem dk_law_357 : zz_d mm_law 357 (.aload_n 1) 1 358 := ⟨by decide +kernel, rfl⟩
theorem dk_law_358 : zz_d mm_law 358 (.aload_n 0) 1 359 := ⟨by decide +kernel, rfl⟩
theorem dk_law_359 : zz_d mm_law 359 (.iload_n 3) 1 360 := ⟨by decide +kernel, rfl⟩
theorem dk_law_360 : zz_d mm_law 360 (.iconst 1) 1 361 := ⟨by decide +kernel, rfl⟩
theorem dk_law_361 : zz_d mm_law 361 .iadd 1 362 := ⟨by decide +kernel, rfl⟩
theorem dk_law_362 : zz_d mm_law 362 .iaload 1 363 := ⟨by decide +kernel, rfl⟩
theorem dk_law_363 : zz_d mm_law 363 (.aload_n 0) 1 364 := ⟨by decide +kernel, rfl⟩
theorem dk_law_364 : zz_d mm_law 364 (.iload_n 3) 1 365 := ⟨by decide +kernel, rfl⟩
theorem dk_law_365 : zz_d mm_law 365 (.iconst 2) 1 366 := ⟨by decide +kernel, rfl⟩
theorem dk_law_366 : zz_d mm_law 366 .iadd 1 367 := ⟨by decide +kernel, rfl⟩
theorem dk_law_367 : zz_d mm_law 367 .iaload 1 368 := ⟨by decide +kernel, rfl⟩
theorem dk_law_368 : zz_d mm_law 368 (.aload_n 0) 1 369 := ⟨by decide +kernel, rfl⟩
theorem dk_law_369 : zz_d mm_law 369 (.iload_n 3) 1 370 := ⟨by decide +kernel, rfl⟩
theorem dk_law_370 : zz_d mm_law 370 (.iconst 3) 1 371 := ⟨by decide +kernel, rfl⟩
theorem dk_law_371 : zz_d mm_law 371 .iadd 1 372 := ⟨by decide +kernel, rfl⟩
theorem dk_law_372 : zz_d mm_law 372 .iaload 1 373 := ⟨by decide +kernel, rfl⟩
theorem dk_law_373 : zz_d mm_law 373 (.invokevirtual 45) 3 376 := ⟨by decide +kernel, rfl⟩
theorem dk_law_376 : zz_d mm_law 376 (.aload_n 2) 1 377 := ⟨by decide +kernel, rfl⟩
theorem dk_law_377 : zz_d mm_law 377 (.aload_n 0) 1 378 := ⟨by decide +kernel, rfl⟩
theorem dk_law_378 : zz_d mm_law 378 (.iload_n 3) 1 379 := ⟨by decide +kernel, rfl⟩
theorem dk_law_379 : zz_d mm_law 379 (.iconst 1) 1 380 := ⟨by decide +kernel, rfl⟩
theorem dk_law_380 : zz_d mm_law 380 .iadd 1 381 := ⟨by decide +kernel, rfl⟩
theorem dk_law_381 : zz_d mm_law 381 .iaload 1 382 := ⟨by decide +kernel, rfl⟩
theorem dk_law_382 : zz_d mm_law 382 (.aload_n 0) 1 383 := ⟨by decide +kernel, rfl⟩
theorem dk_law_383 : zz_d mm_law 383 (.iload_n 3) 1 384 := ⟨by decide +kernel, rfl⟩
theorem dk_law_384 : zz_d mm_law 384 (.iconst 2) 1 385 := ⟨by decide +kernel, rfl⟩
theorem dk_law_385 : zz_d mm_law 385 .iadd 1 386 := ⟨by decide +kernel, rfl⟩
theorem dk_law_386 : zz_d mm_law 386 .iaload 1 387 := ⟨by decide +kernel, rfl⟩
theorem dk_law_387 : zz_d mm_law 387 (.aload_n 0) 1 388 := ⟨by decide +kernel, rfl⟩
theorem dk_law_388 : zz_d mm_law 388 (.iload_n 3) 1 389 := ⟨by decide +kernel, rfl⟩
theorem dk_law_389 : zz_d mm_law 389 (.iconst 3) 1 390 := ⟨by decide +kernel, rfl⟩
theorem dk_law_390 : zz_d mm_law 390 .iadd 1 391 := ⟨by decide +kernel, rfl⟩
theorem dk_law_391 : zz_d mm_law 391 .iaload 1 392 := ⟨by decide +kernel, rfl⟩
theorem dk_law_392 : zz_d mm_law 392 (.invokevirtual 49) 3 395 := ⟨by decide +kernel, rfl⟩
theorem dk_law_395 : zz_d mm_law 395 (.if_icmp .eq 407) 3 398 := ⟨by decide +kernel, rfl⟩
theorem dk_law_398 : zz_d mm_law 398 (.iconst 0) 1 399 := ⟨by decide +kernel, rfl⟩
theorem dk_law_399 : zz_d mm_law 399 .ireturn 1 400 := ⟨by decide +kernel, rfl⟩
theorem dk_law_400 : zz_d mm_law 400 (.aload_n 1) 1 401 := ⟨by decide +kernel, rfl⟩
theorem dk_law_401 : zz_d mm_law 401 (.aload_n 0) 1 402 := ⟨by decide +kernel, rfl⟩
theorem dk_law_402 : zz_d mm_law 402 (.iload_n 3) 1 403 := ⟨by decide +kernel, rfl⟩
theorem dk_law_403 : zz_d mm_law 403 (.iconst 1) 1 404 := ⟨by decide +kernel, rfl⟩
theorem dk_law_404 : zz_d mm_law 404 .iadd 1 405 := ⟨by decide +kernel, rfl⟩
theorem dk_law_405 : zz_d mm_law 405 .iaload 1 406 := ⟨by decide +kernel, rfl⟩
theorem dk_law_406 : zz_d mm_law 406 (.invokevirtual 50) 3 409 := ⟨by decide +kernel, rfl⟩
theorem dk_law_409 : zz_d mm_law 409 (.aload_n 2) 1 410 := ⟨by decide +kernel, rfl⟩
theorem dk_law_410 : zz_d mm_law 410 (.aload_n 0) 1 411 := ⟨by decide +kernel, rfl⟩
theorem dk_law_411 : zz_d mm_law 411 (.iload_n 3) 1 412 := ⟨by decide +kernel, rfl⟩
theorem dk_law_412 : zz_d mm_law 412 (.iconst 1) 1 413 := ⟨by decide +kernel, rfl⟩
theorem dk_law_413 : zz_d mm_law 413 .iadd 1 414 := ⟨by decide +kernel, rfl⟩
theorem dk_law_414 : zz_d mm_law 414 .iaload 1 415 := ⟨by decide +kernel, rfl⟩
theorem dk_law_415 : zz_d mm_law 415 (.invokevirtual 53) 3 418 := ⟨by decide +kernel, rfl⟩
theorem dk_law_418 : zz_d mm_law 418 (.if_icmp .eq 384) 3 421 := ⟨by decide +kernel, rfl⟩
theorem dk_law_421 : zz_d mm_law 421 (.iconst 0) 1 422 := ⟨by decide +kernel, rfl⟩
theorem dk_law_422 : zz_d mm_law 422 .ireturn 1 423 := ⟨by decide +kernel, rfl⟩
theorem dk_law_423 : zz_d mm_law 423 (.aload_n 1) 1 424 := ⟨by decide +kernel, rfl⟩
theorem dk_law_424 : zz_d mm_law 424 (.aload_n 0) 1 425 := ⟨by decide +kernel, rfl⟩
theorem dk_law_425 : zz_d mm_law 425 (.iload_n 3) 1 426 := ⟨by decide +kernel, rfl⟩
theorem dk_law_426 : zz_d mm_law 426 (.iconst 1) 1 427 := ⟨by decide +kernel, rfl⟩
theorem dk_law_427 : zz_d mm_law 427 .iadd 1 428 := ⟨by decide +kernel, rfl⟩
theorem dk_law_428 : zz_d mm_law 428 .iaload 1 429 := ⟨by decide +kernel, rfl⟩
theorem dk_law_429 : zz_d mm_law 429 (.aload_n 0) 1 430 := ⟨by decide +kernel, rfl⟩
theorem dk_law_430 : zz_d mm_law 430 (.iload_n 3) 1 431 := ⟨by decide +kernel, rfl⟩
theorem dk_law_431 : zz_d mm_law 431 (.iconst 2) 1 432 := ⟨by decide +kernel, rfl⟩
theorem dk_law_432 : zz_d mm_law 432 .iadd 1 433 := ⟨by decide +kernel, rfl⟩
theorem dk_law_433 : zz_d mm_law 433 .iaload 1 434 := ⟨by decide +kernel, rfl⟩
theorem dk_law_434 : zz_d mm_law 434 (.aload_n 0) 1 435 := ⟨by decide +kernel, rfl⟩
theorem dk_law_435 : zz_d mm_law 435 (.iload_n 3) 1 436 := ⟨by decide +kernel, rfl⟩
theorem dk_law_436 : zz_d mm_law 436 (.iconst 3) 1 437 := ⟨by decide +kernel, rfl⟩
theorem dk_law_437 : zz_d mm_law 437 .iadd 1 438 := ⟨by decide +kernel, rfl⟩
theorem dk_law_438 : zz_d mm_law 438 .iaload 1 439 := ⟨by decide +kernel, rfl⟩
theorem dk_law_439 : zz_d mm_law 439 (.aload_n 0) 1 440 := ⟨by decide +kernel, rfl⟩
theorem dk_law_440 : zz_d mm_law 440 (.iload_n 3) 1 441 := ⟨by decide +kernel, rfl⟩
theorem dk_law_441 : zz_d mm_law 441 (.iconst 4) 1 442 := ⟨by decide +kernel, rfl⟩
theorem dk_law_442 : zz_d mm_law 442 .iadd 1 443 := ⟨by decide +kernel, rfl⟩
theorem dk_law_443 : zz_d mm_law 443 .iaload 1 444 := ⟨by decide +kernel, rfl⟩
theorem dk_law_444 : zz_d mm_law 444 (.ifCond .eq 7) 3 447 := ⟨by decide +kernel, rfl⟩
theorem dk_law_447 : zz_d mm_law 447 (.iconst 1) 1 448 := ⟨by decide +kernel, rfl⟩
theorem dk_law_448 : zz_d mm_law 448 (.goto 4) 3 451 := ⟨by decide +kernel, rfl⟩
theorem dk_law_451 : zz_d mm_law 451 (.iconst 0) 1 452 := ⟨by decide +kernel, rfl⟩
theorem dk_law_452 : zz_d mm_law 452 (.invokevirtual 54) 3 455 := ⟨by decide +kernel, rfl⟩
theorem dk_law_455 : zz_d mm_law 455 (.aload_n 2) 1 456 := ⟨by decide +kernel, rfl⟩
theorem dk_law_456 : zz_d mm_law 456 (.aload_n 0) 1 457 := ⟨by decide +kernel, rfl⟩
theorem dk_law_457 : zz_d mm_law 457 (.iload_n 3) 1 458 := ⟨by decide +kernel, rfl⟩
theorem dk_law_458 : zz_d mm_law 458 (.iconst 1) 1 459 := ⟨by decide +kernel, rfl⟩
theorem dk_law_459 : zz_d mm_law 459 .iadd 1 460 := ⟨by decide +kernel, rfl⟩
theorem dk_law_460 : zz_d mm_law 460 .iaload 1 461 := ⟨by decide +kernel, rfl⟩
theorem dk_law_461 : zz_d mm_law 461 (.aload_n 0) 1 462 := ⟨by decide +kernel, rfl⟩
theorem dk_law_462 : zz_d mm_law 462 (.iload_n 3) 1 463 := ⟨by decide +kernel, rfl⟩
theorem dk_law_463 : zz_d mm_law 463 (.iconst 2) 1 464 := ⟨by decide +kernel, rfl⟩
theorem dk_law_464 : zz_d mm_law 464 .iadd 1 465 := ⟨by decide +kernel, rfl⟩
theorem dk_law_465 : zz_d mm_law 465 .iaload 1 466 := ⟨by decide +kernel, rfl⟩
theorem dk_law_466 : zz_d mm_law 466 (.aload_n 0) 1 467 := ⟨by decide +kernel, rfl⟩
theorem dk_law_467 : zz_d mm_law 467 (.iload_n 3) 1 468 := ⟨by decide +kernel, rfl⟩
theorem dk_law_468 : zz_d mm_law 468 (.iconst 3) 1 469 := ⟨by decide +kernel, rfl⟩
theorem dk_law_469 : zz_d mm_law 469 .iadd 1 470 := ⟨by decide +kernel, rfl⟩
theorem dk_law_470 : zz_d mm_law 470 .iaload 1 471 := ⟨by decide +kernel, rfl⟩
theorem dk_law_471 : zz_d mm_law 471 (.aload_n 0) 1 472 := ⟨by decide +kernel, rfl⟩
theorem dk_law_472 : zz_d mm_law 472 (.iload_n 3) 1 473 := ⟨by decide +kernel, rfl⟩
theorem dk_law_473 : zz_d mm_law 473 (.iconst 4) 1 474 := ⟨by decide +kernel, rfl⟩
theorem dk_law_474 : zz_d mm_law 474 .iadd 1 475 := ⟨by decide +kernel, rfl⟩
theorem dk_law_475 : zz_d mm_law 475 .iaload 1 476 := ⟨by decide +kernel, rfl⟩
theorem dk_law_476 : zz_d mm_law 476 (.ifCond .eq 7) 3 479 := ⟨by decide +kernel, rfl⟩
theorem dk_law_479 : zz_d mm_law 479 (.iconst 1) 1 480 := ⟨by decide +kernel, rfl⟩
theorem dk_law_480 : zz_d mm_law 480 (.goto 4) 3 483 := ⟨by decide +kernel, rfl⟩
theorem dk_law_483 : zz_d mm_law 483 (.iconst 0) 1 484 := ⟨by decide +kernel, rfl⟩
theorem dk_law_484 : zz_d mm_law 484 (.invokevirtual 58) 3 487 := ⟨by decide +kernel, rfl⟩
theorem dk_law_487 : zz_d mm_law 487 (.if_icmp .eq 315) 3 490 := ⟨by decide +kernel, rfl⟩
theorem dk_law_490 : zz_d mm_law 490 (.iconst 0) 1 491 := ⟨by decide +kernel, rfl⟩
theorem dk_law_491 : zz_d mm_law 491 .ireturn 1 492 := ⟨by decide +kernel, rfl⟩
theorem dk_law_492 : zz_d mm_law 492 (.aload_n 1) 1 493 := ⟨by decide +kernel, rfl⟩
theorem dk_law_493 : zz_d mm_law 493 (.aload_n 0) 1 494 := ⟨by decide +kernel, rfl⟩
theorem dk_law_494 : zz_d mm_law 494 (.iload_n 3) 1 495 := ⟨by decide +kernel, rfl⟩
theorem dk_law_495 : zz_d mm_law 495 (.iconst 1) 1 496 := ⟨by decide +kernel, rfl⟩
theorem dk_law_496 : zz_d mm_law 496 .iadd 1 497 := ⟨by decide +kernel, rfl⟩
theorem dk_law_497 : zz_d mm_law 497 .iaload 1 498 := ⟨by decide +kernel, rfl⟩
theorem dk_law_498 : zz_d mm_law 498 (.invokevirtual 59) 3 501 := ⟨by decide +kernel, rfl⟩
theorem dk_law_501 : zz_d mm_law 501 (.aload_n 2) 1 502 := ⟨by decide +kernel, rfl⟩
theorem dk_law_502 : zz_d mm_law 502 (.aload_n 0) 1 503 := ⟨by decide +kernel, rfl⟩
theorem dk_law_503 : zz_d mm_law 503 (.iload_n 3) 1 504 := ⟨by decide +kernel, rfl⟩
theorem dk_law_504 : zz_d mm_law 504 (.iconst 1) 1 505 := ⟨by decide +kernel, rfl⟩
theorem dk_law_505 : zz_d mm_law 505 .iadd 1 506 := ⟨by decide +kernel, rfl⟩
theorem dk_law_506 : zz_d mm_law 506 .iaload 1 507 := ⟨by decide +kernel, rfl⟩
theorem dk_law_507 : zz_d mm_law 507 (.invokevirtual 62) 3 510 := ⟨by decide +kernel, rfl⟩
theorem dk_law_510 : zz_d mm_law 510 (.if_icmp .eq 292) 3 513 := ⟨by decide +kernel, rfl⟩
theorem dk_law_513 : zz_d mm_law 513 (.iconst 0) 1 514 := ⟨by decide +kernel, rfl⟩
theorem dk_law_514 : zz_d mm_law 514 .ireturn 1 515 := ⟨by decide +kernel, rfl⟩
theorem dk_law_515 : zz_d mm_law 515 (.aload_n 1) 1 516 := ⟨by decide +kernel, rfl⟩
theorem dk_law_516 : zz_d mm_law 516 (.aload_n 0) 1 517 := ⟨by decide +kernel, rfl⟩
theorem dk_law_517 : zz_d mm_law 517 (.iload_n 3) 1 518 := ⟨by decide +kernel, rfl⟩
theorem dk_law_518 : zz_d mm_law 518 (.iconst 1) 1 519 := ⟨by decide +kernel, rfl⟩
theorem dk_law_519 : zz_d mm_law 519 .iadd 1 520 := ⟨by decide +kernel, rfl⟩
theorem dk_law_520 : zz_d mm_law 520 .iaload 1 521 := ⟨by decide +kernel, rfl⟩
theorem dk_law_521 : zz_d mm_law 521 (.aload_n 0) 1 522 := ⟨by decide +kernel, rfl⟩
theorem dk_law_522 : zz_d mm_law 522 (.iload_n 3) 1 523 := ⟨by decide +kernel, rfl⟩
theorem dk_law_523 : zz_d mm_law 523 (.iconst 2) 1 524 := ⟨by decide +kernel, rfl⟩
theorem dk_law_524 : zz_d mm_law 524 .iadd 1 525 := ⟨by decide +kernel, rfl⟩
theorem dk_law_525 : zz_d mm_law 525 .iaload 1 526 := ⟨by decide +kernel, rfl⟩
theorem dk_law_526 : zz_d mm_law 526 (.aload_n 0) 1 527 := ⟨by decide +kernel, rfl⟩
theorem dk_law_527 : zz_d mm_law 527 (.iload_n 3) 1 528 := ⟨by decide +kernel, rfl⟩
theorem dk_law_528 : zz_d mm_law 528 (.iconst 3) 1 529 := ⟨by decide +kernel, rfl⟩
theorem dk_law_529 : zz_d mm_law 529 .iadd 1 530 := ⟨by decide +kernel, rfl⟩
theorem dk_law_530 : zz_d mm_law 530 .iaload 1 531 := ⟨by decide +kernel, rfl⟩
theorem dk_law_531 : zz_d mm_law 531 (.aload_n 0) 1 532 := ⟨by decide +kernel, rfl⟩
theorem dk_law_532 : zz_d mm_law 532 (.iload_n 3) 1 533 := ⟨by decide +kernel, rfl⟩
theorem dk_law_533 : zz_d mm_law 533 (.iconst 4) 1 534 := ⟨by decide +kernel, rfl⟩
theorem dk_law_534 : zz_d mm_law 534 .iadd 1 535 := ⟨by decide +kernel, rfl⟩
theorem dk_law_535 : zz_d mm_law 535 .iaload 1 536 := ⟨by decide +kernel, rfl⟩
theorem dk_law_536 : zz_d mm_law 536 (.aload_n 0) 1 537 := ⟨by decide +kernel, rfl⟩
theorem dk_law_537 : zz_d mm_law 537 (.iload_n 3) 1 538 := ⟨by decide +kernel, rfl⟩
theorem dk_law_538 : zz_d mm_law 538 (.iconst 5) 1 539 := ⟨by decide +kernel, rfl⟩
theorem dk_law_539 : zz_d mm_law 539 .iadd 1 540 := ⟨by decide +kernel, rfl⟩
theorem dk_law_540 : zz_d mm_law 540 .iaload 1 541 := ⟨by decide +kernel, rfl⟩
theorem dk_law_541 : zz_d mm_law 541 (.invokevirtual 63) 3 544 := ⟨by decide +kernel, rfl⟩
theorem dk_law_544 : zz_d mm_law 544 (.aload_n 2) 1 545 := ⟨by decide +kernel, rfl⟩
theorem dk_law_545 : zz_d mm_law 545 (.aload_n 0) 1 546 := ⟨by decide +kernel, rfl⟩
theorem dk_law_546 : zz_d mm_law 546 (.iload_n 3) 1 547 := ⟨by decide +kernel, rfl⟩
theorem dk_law_547 : zz_d mm_law 547 (.iconst 1) 1 548 := ⟨by decide +kernel, rfl⟩
theorem dk_law_548 : zz_d mm_law 548 .iadd 1 549 := ⟨by decide +kernel, rfl⟩
theorem dk_law_549 : zz_d mm_law 549 .iaload 1 550 := ⟨by decide +kernel, rfl⟩
theorem dk_law_550 : zz_d mm_law 550 (.aload_n 0) 1 551 := ⟨by decide +kernel, rfl⟩
theorem dk_law_551 : zz_d mm_law 551 (.iload_n 3) 1 552 := ⟨by decide +kernel, rfl⟩
theorem dk_law_552 : zz_d mm_law 552 (.iconst 2) 1 553 := ⟨by decide +kernel, rfl⟩
theorem dk_law_553 : zz_d mm_law 553 .iadd 1 554 := ⟨by decide +kernel, rfl⟩
theorem dk_law_554 : zz_d mm_law 554 .iaload 1 555 := ⟨by decide +kernel, rfl⟩
theorem dk_law_555 : zz_d mm_law 555 (.aload_n 0) 1 556 := ⟨by decide +kernel, rfl⟩
theorem dk_law_556 : zz_d mm_law 556 (.iload_n 3) 1 557 := ⟨by decide +kernel, rfl⟩
theorem dk_law_557 : zz_d mm_law 557 (.iconst 3) 1 558 := ⟨by decide +kernel, rfl⟩
theorem dk_law_558 : zz_d mm_law 558 .iadd 1 559 := ⟨by decide +kernel, rfl⟩
theorem dk_law_559 : zz_d mm_law 559 .iaload 1 560 := ⟨by decide +kernel, rfl⟩
theorem dk_law_560 : zz_d mm_law 560 (.aload_n 0) 1 561 := ⟨by decide +kernel, rfl⟩
theorem dk_law_561 : zz_d mm_law 561 (.iload_n 3) 1 562 := ⟨by decide +kernel, rfl⟩
theorem dk_law_562 : zz_d mm_law 562 (.iconst 4) 1 563 := ⟨by decide +kernel, rfl⟩
theorem dk_law_563 : zz_d mm_law 563 .iadd 1 564 := ⟨by decide +kernel, rfl⟩
theorem dk_law_564 : zz_d mm_law 564 .iaload 1 565 := ⟨by decide +kernel, rfl⟩
theorem dk_law_565 : zz_d mm_law 565 (.aload_n 0) 1 566 := ⟨by decide +kernel, rfl⟩
theorem dk_law_566 : zz_d mm_law 566 (.iload_n 3) 1 567 := ⟨by decide +kernel, rfl⟩
theorem dk_law_567 : zz_d mm_law 567 (.iconst 5) 1 568 := ⟨by decide +kernel, rfl⟩
theorem dk_law_568 : zz_d mm_law 568 .iadd 1 569 := ⟨by decide +kernel, rfl⟩
theorem dk_law_569 : zz_d mm_law 569 .iaload 1 570 := ⟨by decide +kernel, rfl⟩
theorem dk_law_570 : zz_d mm_law 570 (.invokevirtual 67) 3 573 := ⟨by decide +kernel, rfl⟩
theorem dk_law_573 : zz_d mm_law 573 (.if_icmp .eq 229) 3 576 := ⟨by decide +kernel, rfl⟩
theorem dk_law_576 : zz_d mm_law 576 (.iconst 0) 1 577 := ⟨by decide +kernel, rfl⟩
theorem dk_law_577 : zz_d mm_law 577 .ireturn 1 578 := ⟨by decide +kernel, rfl⟩
theorem dk_law_578 : zz_d mm_law 578 (.aload_n 1) 1 579 := ⟨by decide +kernel, rfl⟩
theorem dk_law_579 : zz_d mm_law 579 (.aload_n 0) 1 580 := ⟨by decide +kernel, rfl⟩
theorem dk_law_580 : zz_d mm_law 580 (.iload_n 3) 1 581 := ⟨by decide +kernel, rfl⟩
theorem dk_law_581 : zz_d mm_law 581 (.iconst 1) 1 582 := ⟨by decide +kernel, rfl⟩
theorem dk_law_582 : zz_d mm_law 582 .iadd 1 583 := ⟨by decide +kernel, rfl⟩
theorem dk_law_583 : zz_d mm_law 583 .iaload 1 584 := ⟨by decide +kernel, rfl⟩
theorem dk_law_584 : zz_d mm_law 584 (.aload_n 0) 1 585 := ⟨by decide +kernel, rfl⟩
theorem dk_law_585 : zz_d mm_law 585 (.iload_n 3) 1 586 := ⟨by decide +kernel, rfl⟩
theorem dk_law_586 : zz_d mm_law 586 (.iconst 2) 1 587 := ⟨by decide +kernel, rfl⟩
theorem dk_law_587 : zz_d mm_law 587 .iadd 1 588 := ⟨by decide +kernel, rfl⟩
theorem dk_law_588 : zz_d mm_law 588 .iaload 1 589 := ⟨by decide +kernel, rfl⟩
theorem dk_law_589 : zz_d mm_law 589 (.aload_n 0) 1 590 := ⟨by decide +kernel, rfl⟩
theorem dk_law_590 : zz_d mm_law 590 (.iload_n 3) 1 591 := ⟨by decide +kernel, rfl⟩
theorem dk_law_591 : zz_d mm_law 591 (.iconst 3) 1 592 := ⟨by decide +kernel, rfl⟩
theorem dk_law_592 : zz_d mm_law 592 .iadd 1 593 := ⟨by decide +kernel, rfl⟩
theorem dk_law_593 : zz_d mm_law 593 .iaload 1 594 := ⟨by decide +kernel, rfl⟩
theorem dk_law_594 : zz_d mm_law 594 (.invokevirtual 68) 3 597 := ⟨by decide +kernel, rfl⟩
theorem dk_law_597 : zz_d mm_law 597 (.aload_n 2) 1 598 := ⟨by decide +kernel, rfl⟩
theorem dk_law_598 : zz_d mm_law 598 (.aload_n 0) 1 599 := ⟨by decide +kernel, rfl⟩
theorem dk_law_599 : zz_d mm_law 599 (.iload_n 3) 1 600 := ⟨by decide +kernel, rfl⟩
theorem dk_law_600 : zz_d mm_law 600 (.iconst 1) 1 601 := ⟨by decide +kernel, rfl⟩
theorem dk_law_601 : zz_d mm_law 601 .iadd 1 602 := ⟨by decide +kernel, rfl⟩
theorem dk_law_602 : zz_d mm_law 602 .iaload 1 603 := ⟨by decide +kernel, rfl⟩
theorem dk_law_603 : zz_d mm_law 603 (.aload_n 0) 1 604 := ⟨by decide +kernel, rfl⟩
theorem dk_law_604 : zz_d mm_law 604 (.iload_n 3) 1 605 := ⟨by decide +kernel, rfl⟩
theorem dk_law_605 : zz_d mm_law 605 (.iconst 2) 1 606 := ⟨by decide +kernel, rfl⟩
theorem dk_law_606 : zz_d mm_law 606 .iadd 1 607 := ⟨by decide +kernel, rfl⟩
theorem dk_law_607 : zz_d mm_law 607 .iaload 1 608 := ⟨by decide +kernel, rfl⟩
theorem dk_law_608 : zz_d mm_law 608 (.aload_n 0) 1 609 := ⟨by decide +kernel, rfl⟩
theorem dk_law_609 : zz_d mm_law 609 (.iload_n 3) 1 610 := ⟨by decide +kernel, rfl⟩
theorem dk_law_610 : zz_d mm_law 610 (.iconst 3) 1 611 := ⟨by decide +kernel, rfl⟩
theorem dk_law_611 : zz_d mm_law 611 .iadd 1 612 := ⟨by decide +kernel, rfl⟩
theorem dk_law_612 : zz_d mm_law 612 .iaload 1 613 := ⟨by decide +kernel, rfl⟩
theorem dk_law_613 : zz_d mm_law 613 (.invokevirtual 71) 3 616 := ⟨by decide +kernel, rfl⟩
theorem dk_law_616 : zz_d mm_law 616 (.if_icmp .eq 186) 3 619 := ⟨by decide +kernel, rfl⟩
theorem dk_law_619 : zz_d mm_law 619 (.iconst 0) 1 620 := ⟨by decide +kernel, rfl⟩
theorem dk_law_620 : zz_d mm_law 620 .ireturn 1 621 := ⟨by decide +kernel, rfl⟩
theorem dk_law_621 : zz_d mm_law 621 (.aload_n 1) 1 622 := ⟨by decide +kernel, rfl⟩
theorem dk_law_622 : zz_d mm_law 622 (.invokevirtual 72) 3 625 := ⟨by decide +kernel, rfl⟩
theorem dk_law_625 : zz_d mm_law 625 (.aload_n 2) 1 626 := ⟨by decide +kernel, rfl⟩
theorem dk_law_626 : zz_d mm_law 626 (.invokevirtual 76) 3 629 := ⟨by decide +kernel, rfl⟩
theorem dk_law_629 : zz_d mm_law 629 (.if_icmp .eq 173) 3 632 := ⟨by decide +kernel, rfl⟩
theorem dk_law_632 : zz_d mm_law 632 (.iconst 0) 1 633 := ⟨by decide +kernel, rfl⟩
theorem dk_law_633 : zz_d mm_law 633 .ireturn 1 634 := ⟨by decide +kernel, rfl⟩
theorem dk_law_634 : zz_d mm_law 634 (.aload_n 1) 1 635 := ⟨by decide +kernel, rfl⟩
theorem dk_law_635 : zz_d mm_law 635 (.invokevirtual 77) 3 638 := ⟨by decide +kernel, rfl⟩
theorem dk_law_638 : zz_d mm_law 638 (.aload_n 2) 1 639 := ⟨by decide +kernel, rfl⟩
theorem dk_law_639 : zz_d mm_law 639 (.invokevirtual 81) 3 642 := ⟨by decide +kernel, rfl⟩
theorem dk_law_642 : zz_d mm_law 642 (.if_icmp .eq 160) 3 645 := ⟨by decide +kernel, rfl⟩
theorem dk_law_645 : zz_d mm_law 645 (.iconst 0) 1 646 := ⟨by decide +kernel, rfl⟩
theorem dk_law_646 : zz_d mm_law 646 .ireturn 1 647 := ⟨by decide +kernel, rfl⟩
theorem dk_law_647 : zz_d mm_law 647 (.aload_n 1) 1 648 := ⟨by decide +kernel, rfl⟩
theorem dk_law_648 : zz_d mm_law 648 (.aload_n 0) 1 649 := ⟨by decide +kernel, rfl⟩
theorem dk_law_649 : zz_d mm_law 649 (.iload_n 3) 1 650 := ⟨by decide +kernel, rfl⟩
theorem dk_law_650 : zz_d mm_law 650 (.iconst 1) 1 651 := ⟨by decide +kernel, rfl⟩
theorem dk_law_651 : zz_d mm_law 651 .iadd 1 652 := ⟨by decide +kernel, rfl⟩
theorem dk_law_652 : zz_d mm_law 652 .iaload 1 653 := ⟨by decide +kernel, rfl⟩
theorem dk_law_653 : zz_d mm_law 653 (.invokevirtual 82) 3 656 := ⟨by decide +kernel, rfl⟩
theorem dk_law_656 : zz_d mm_law 656 (.aload_n 2) 1 657 := ⟨by decide +kernel, rfl⟩
theorem dk_law_657 : zz_d mm_law 657 (.aload_n 0) 1 658 := ⟨by decide +kernel, rfl⟩
theorem dk_law_658 : zz_d mm_law 658 (.iload_n 3) 1 659 := ⟨by decide +kernel, rfl⟩
theorem dk_law_659 : zz_d mm_law 659 (.iconst 1) 1 660 := ⟨by decide +kernel, rfl⟩
theorem dk_law_660 : zz_d mm_law 660 .iadd 1 661 := ⟨by decide +kernel, rfl⟩
theorem dk_law_661 : zz_d mm_law 661 .iaload 1 662 := ⟨by decide +kernel, rfl⟩
theorem dk_law_662 : zz_d mm_law 662 (.invokevirtual 86) 3 665 := ⟨by decide +kernel, rfl⟩
theorem dk_law_665 : zz_d mm_law 665 (.if_icmp .eq 137) 3 668 := ⟨by decide +kernel, rfl⟩
theorem dk_law_668 : zz_d mm_law 668 (.iconst 0) 1 669 := ⟨by decide +kernel, rfl⟩
theorem dk_law_669 : zz_d mm_law 669 .ireturn 1 670 := ⟨by decide +kernel, rfl⟩
theorem dk_law_670 : zz_d mm_law 670 (.aload_n 1) 1 671 := ⟨by decide +kernel, rfl⟩
theorem dk_law_671 : zz_d mm_law 671 (.aload_n 0) 1 672 := ⟨by decide +kernel, rfl⟩
theorem dk_law_672 : zz_d mm_law 672 (.iload_n 3) 1 673 := ⟨by decide +kernel, rfl⟩
theorem dk_law_673 : zz_d mm_law 673 (.iconst 1) 1 674 := ⟨by decide +kernel, rfl⟩
theorem dk_law_674 : zz_d mm_law 674 .iadd 1 675 := ⟨by decide +kernel, rfl⟩
theorem dk_law_675 : zz_d mm_law 675 .iaload 1 676 := ⟨by decide +kernel, rfl⟩
theorem dk_law_676 : zz_d mm_law 676 (.aload_n 0) 1 677 := ⟨by decide +kernel, rfl⟩
theorem dk_law_677 : zz_d mm_law 677 (.iload_n 3) 1 678 := ⟨by decide +kernel, rfl⟩
theorem dk_law_678 : zz_d mm_law 678 (.iconst 2) 1 679 := ⟨by decide +kernel, rfl⟩
theorem dk_law_679 : zz_d mm_law 679 .iadd 1 680 := ⟨by decide +kernel, rfl⟩
theorem dk_law_680 : zz_d mm_law 680 .iaload 1 681 := ⟨by decide +kernel, rfl⟩
theorem dk_law_681 : zz_d mm_law 681 (.aload_n 0) 1 682 := ⟨by decide +kernel, rfl⟩
theorem dk_law_682 : zz_d mm_law 682 (.iload_n 3) 1 683 := ⟨by decide +kernel, rfl⟩
theorem dk_law_683 : zz_d mm_law 683 (.iconst 3) 1 684 := ⟨by decide +kernel, rfl⟩
theorem dk_law_684 : zz_d mm_law 684 .iadd 1 685 := ⟨by decide +kernel, rfl⟩
theorem dk_law_685 : zz_d mm_law 685 .iaload 1 686 := ⟨by decide +kernel, rfl⟩
theorem dk_law_686 : zz_d mm_law 686 (.invokevirtual 87) 3 689 := ⟨by decide +kernel, rfl⟩
theorem dk_law_689 : zz_d mm_law 689 (.aload_n 2) 1 690 := ⟨by decide +kernel, rfl⟩
theorem dk_law_690 : zz_d mm_law 690 (.aload_n 0) 1 691 := ⟨by decide +kernel, rfl⟩
theorem dk_law_691 : zz_d mm_law 691 (.iload_n 3) 1 692 := ⟨by decide +kernel, rfl⟩
theorem dk_law_692 : zz_d mm_law 692 (.iconst 1) 1 693 := ⟨by decide +kernel, rfl⟩
theorem dk_law_693 : zz_d mm_law 693 .iadd 1 694 := ⟨by decide +kernel, rfl⟩
theorem dk_law_694 : zz_d mm_law 694 .iaload 1 695 := ⟨by decide +kernel, rfl⟩
theorem dk_law_695 : zz_d mm_law 695 (.aload_n 0) 1 696 := ⟨by decide +kernel, rfl⟩
theorem dk_law_696 : zz_d mm_law 696 (.iload_n 3) 1 697 := ⟨by decide +kernel, rfl⟩
theorem dk_law_697 : zz_d mm_law 697 (.iconst 2) 1 698 := ⟨by decide +kernel, rfl⟩
theorem dk_law_698 : zz_d mm_law 698 .iadd 1 699 := ⟨by decide +kernel, rfl⟩
theorem dk_law_699 : zz_d mm_law 699 .iaload 1 700 := ⟨by decide +kernel, rfl⟩
theorem dk_law_700 : zz_d mm_law 700 (.aload_n 0) 1 701 := ⟨by decide +kernel, rfl⟩
theorem dk_law_701 : zz_d mm_law 701 (.iload_n 3) 1 702 := ⟨by decide +kernel, rfl⟩
theorem dk_law_702 : zz_d mm_law 702 (.iconst 3) 1 703 := ⟨by decide +kernel, rfl⟩
theorem dk_law_703 : zz_d mm_law 703 .iadd 1 704 := ⟨by decide +kernel, rfl⟩
theorem dk_law_704 : zz_d mm_law 704 .iaload 1 705 := ⟨by decide +kernel, rfl⟩
theorem dk_law_705 : zz_d mm_law 705 (.invokevirtual 90) 3 708 := ⟨by decide +kernel, rfl⟩
theorem dk_law_708 : zz_d mm_law 708 (.if_icmp .eq 94) 3 711 := ⟨by decide +kernel, rfl⟩
theorem dk_law_711 : zz_d mm_law 711 (.iconst 0) 1 712 := ⟨by decide +kernel, rfl⟩
theorem dk_law_712 : zz_d mm_law 712 .ireturn 1 713 := ⟨by decide +kernel, rfl⟩
theorem dk_law_713 : zz_d mm_law 713 (.aload_n 1) 1 714 := ⟨by decide +kernel, rfl⟩
theorem dk_law_714 : zz_d mm_law 714 (.aload_n 0) 1 715 := ⟨by decide +kernel, rfl⟩
theorem dk_law_715 : zz_d mm_law 715 (.iload_n 3) 1 716 := ⟨by decide +kernel, rfl⟩
theorem dk_law_716 : zz_d mm_law 716 (.iconst 1) 1 717 := ⟨by decide +kernel, rfl⟩
theorem dk_law_717 : zz_d mm_law 717 .iadd 1 718 := ⟨by decide +kernel, rfl⟩
theorem dk_law_718 : zz_d mm_law 718 .iaload 1 719 := ⟨by decide +kernel, rfl⟩
theorem dk_law_719 : zz_d mm_law 719 (.aload_n 0) 1 720 := ⟨by decide +kernel, rfl⟩
theorem dk_law_720 : zz_d mm_law 720 (.iload_n 3) 1 721 := ⟨by decide +kernel, rfl⟩
theorem dk_law_721 : zz_d mm_law 721 (.iconst 2) 1 722 := ⟨by decide +kernel, rfl⟩
theorem dk_law_722 : zz_d mm_law 722 .iadd 1 723 := ⟨by decide +kernel, rfl⟩
theorem dk_law_723 : zz_d mm_law 723 .iaload 1 724 := ⟨by decide +kernel, rfl⟩
theorem dk_law_724 : zz_d mm_law 724 (.aload_n 0) 1 725 := ⟨by decide +kernel, rfl⟩
theorem dk_law_725 : zz_d mm_law 725 (.iload_n 3) 1 726 := ⟨by decide +kernel, rfl⟩
theorem dk_law_726 : zz_d mm_law 726 (.iconst 3) 1 727 := ⟨by decide +kernel, rfl⟩
theorem dk_law_727 : zz_d mm_law 727 .iadd 1 728 := ⟨by decide +kernel, rfl⟩
theorem dk_law_728 : zz_d mm_law 728 .iaload 1 729 := ⟨by decide +kernel, rfl⟩
theorem dk_law_729 : zz_d mm_law 729 (.invokevirtual 91) 3 732 := ⟨by decide +kernel, rfl⟩
theorem dk_law_732 : zz_d mm_law 732 (.aload_n 2) 1 733 := ⟨by decide +kernel, rfl⟩
theorem dk_law_733 : zz_d mm_law 733 (.aload_n 0) 1 734 := ⟨by decide +kernel, rfl⟩
theorem dk_law_734 : zz_d mm_law 734 (.iload_n 3) 1 735 := ⟨by decide +kernel, rfl⟩
theorem dk_law_735 : zz_d mm_law 735 (.iconst 1) 1 736 := ⟨by decide +kernel, rfl⟩
theorem dk_law_736 : zz_d mm_law 736 .iadd 1 737 := ⟨by decide +kernel, rfl⟩
theorem dk_law_737 : zz_d mm_law 737 .iaload 1 738 := ⟨by decide +kernel, rfl⟩
theorem dk_law_738 : zz_d mm_law 738 (.aload_n 0) 1 739 := ⟨by decide +kernel, rfl⟩
theorem dk_law_739 : zz_d mm_law 739 (.iload_n 3) 1 740 := ⟨by decide +kernel, rfl⟩
theorem dk_law_740 : zz_d mm_law 740 (.iconst 2) 1 741 := ⟨by decide +kernel, rfl⟩
theorem dk_law_741 : zz_d mm_law 741 .iadd 1 742 := ⟨by decide +kernel, rfl⟩
theorem dk_law_742 : zz_d mm_law 742 .iaload 1 743 := ⟨by decide +kernel, rfl⟩
theorem dk_law_743 : zz_d mm_law 743 (.aload_n 0) 1 744 := ⟨by decide +kernel, rfl⟩
theorem dk_law_744 : zz_d mm_law 744 (.iload_n 3) 1 745 := ⟨by decide +kernel, rfl⟩
theorem dk_law_745 : zz_d mm_law 745 (.iconst 3) 1 746 := ⟨by decide +kernel, rfl⟩
theorem dk_law_746 : zz_d mm_law 746 .iadd 1 747 := ⟨by decide +kernel, rfl⟩
theorem dk_law_747 : zz_d mm_law 747 .iaload 1 748 := ⟨by decide +kernel, rfl⟩
theorem dk_law_748 : zz_d mm_law 748 (.invokevirtual 94) 3 751 := ⟨by decide +kernel, rfl⟩
theorem dk_law_751 : zz_d mm_law 751 (.if_icmp .eq 51) 3 754 := ⟨by decide +kernel, rfl⟩
theorem dk_law_754 : zz_d mm_law 754 (.iconst 0) 1 755 := ⟨by decide +kernel, rfl⟩
theorem dk_law_755 : zz_d mm_law 755 .ireturn 1 756 := ⟨by decide +kernel, rfl⟩
theorem dk_law_756 : zz_d mm_law 756 (.aload_n 1) 1 757 := ⟨by decide +kernel, rfl⟩
theorem dk_law_757 : zz_d mm_law 757 (.aload_n 0) 1 758 := ⟨by decide +kernel, rfl⟩
theorem dk_law_758 : zz_d mm_law 758 (.iload_n 3) 1 759 := ⟨by decide +kernel, rfl⟩
theorem dk_law_759 : zz_d mm_law 759 (.iconst 1) 1 760 := ⟨by decide +kernel, rfl⟩
theorem dk_law_760 : zz_d mm_law 760 .iadd 1 761 := ⟨by decide +kernel, rfl⟩
theorem dk_law_761 : zz_d mm_law 761 .iaload 1 762 := ⟨by decide +kernel, rfl⟩
theorem dk_law_762 : zz_d mm_law 762 (.invokevirtual 95) 3 765 := ⟨by decide +kernel, rfl⟩
theorem dk_law_765 : zz_d mm_law 765 (.aload_n 2) 1 766 := ⟨by decide +kernel, rfl⟩
theorem dk_law_766 : zz_d mm_law 766 (.aload_n 0) 1 767 := ⟨by decide +kernel, rfl⟩
theorem dk_law_767 : zz_d mm_law 767 (.iload_n 3) 1 768 := ⟨by decide +kernel, rfl⟩
theorem dk_law_768 : zz_d mm_law 768 (.iconst 1) 1 769 := ⟨by decide +kernel, rfl⟩
theorem dk_law_769 : zz_d mm_law 769 .iadd 1 770 := ⟨by decide +kernel, rfl⟩
theorem dk_law_770 : zz_d mm_law 770 .iaload 1 771 := ⟨by decide +kernel, rfl⟩
theorem dk_law_771 : zz_d mm_law 771 (.invokevirtual 98) 3 774 := ⟨by decide +kernel, rfl⟩
theorem dk_law_774 : zz_d mm_law 774 (.if_icmp .eq 28) 3 777 := ⟨by decide +kernel, rfl⟩
theorem dk_law_777 : zz_d mm_law 777 (.iconst 0) 1 778 := ⟨by decide +kernel, rfl⟩
theorem dk_law_778 : zz_d mm_law 778 .ireturn 1 779 := ⟨by decide +kernel, rfl⟩
theorem dk_law_779 : zz_d mm_law 779 (.aload_n 1) 1 780 := ⟨by decide +kernel, rfl⟩
theorem dk_law_780 : zz_d mm_law 780 (.aload_n 0) 1 781 := ⟨by decide +kernel, rfl⟩
theorem dk_law_781 : zz_d mm_law 781 (.iload_n 3) 1 782 := ⟨by decide +kernel, rfl⟩
theorem dk_law_782 : zz_d mm_law 782 (.iconst 1) 1 783 := ⟨by decide +kernel, rfl⟩
theorem dk_law_783 : zz_d mm_law 783 .iadd 1 784 := ⟨by decide +kernel, rfl⟩
theorem dk_law_784 : zz_d mm_law 784 .iaload 1 785 := ⟨by decide +kernel, rfl⟩
theorem dk_law_785 : zz_d mm_law 785 (.invokevirtual 99) 3 788 := ⟨by decide +kernel, rfl⟩
theorem dk_law_788 : zz_d mm_law 788 (.aload_n 2) 1 789 := ⟨by decide +kernel, rfl⟩
theorem dk_law_789 : zz_d mm_law 789 (.aload_n 0) 1 790 := ⟨by decide +kernel, rfl⟩
theorem dk_law_790 : zz_d mm_law 790 (.iload_n 3) 1 791 := ⟨by decide +kernel, rfl⟩
theorem dk_law_791 : zz_d mm_law 791 (.iconst 1) 1 792 := ⟨by decide +kernel, rfl⟩
theorem dk_law_792 : zz_d mm_law 792 .iadd 1 793 := ⟨by decide +kernel, rfl⟩
theorem dk_law_793 : zz_d mm_law 793 .iaload 1 794 := ⟨by decide +kernel, rfl⟩
theorem dk_law_794 : zz_d mm_law 794 (.invokevirtual 102) 3 797 := ⟨by decide +kernel, rfl⟩
theorem dk_law_797 : zz_d mm_law 797 (.if_icmp .eq 5) 3 800 := ⟨by decide +kernel, rfl⟩
theorem dk_law_800 : zz_d mm_law 800 (.iconst 0) 1 801 := ⟨by decide +kernel, rfl⟩
theorem dk_law_801 : zz_d mm_law 801 .ireturn 1 802 := ⟨by decide +kernel, rfl⟩
theorem dk_law_802 : zz_d mm_law 802 (.iinc 3 6) 3 805 := ⟨by decide +kernel, rfl⟩
theorem dk_law_805 : zz_d mm_law 805 (.goto (-787)) 3 808 := ⟨by decide +kernel, rfl⟩
theorem dk_law_808 : zz_d mm_law 808 (.iconst 1) 1 809 := ⟨by decide +kernel, rfl⟩
theorem dk_law_809 : zz_d mm_law 809 .ireturn 1 810 := ⟨by decide +kernel, rfl⟩
end
section
/-! what the library's own methods need besides: class objects, constants, arraycopy -/
section ZK
variable {X : zz_X} {M : zz_M} {d kc ks pc q n : Nat} {Q : Option Value → Nat → zz_H → Prop} {ls ls' : List (Option Value)} {st : List Value} {h : zz_H}
theorem zj_ldc {ix : Nat} {v : Int32} {z : Int} (hd : zz_d M pc (.ldc ix) 2 q) (hw : Cond.constant M.1.cls ix v ∈ zz_ws) (hz : v = Int32.ofInt z) (k : zz_Z X M d Q kc ks q ls (zv z :: st) n h) : zz_Z X M d Q kc ks pc ls st n h := by
  obtain ⟨hd, rfl⟩ := hd
  subst hz
  intro p e R s m args below meth c Qf H locs cells slots A C Re T S L hc hs
  exact lv_ldc C.x C.b C.ow (C.ts _ hw) hd (k p e R s m args below meth c Qf H locs cells slots A C Re T S L hc hs)
theorem zi_ldcM {ix : Nat} (hd : zz_d M pc (.ldc ix) 2 q) (hw : Cond.classLink M.1.cls ix "[Ljava/lang/Object;" ∈ zz_ws) (k : zz_Z X M d Q kc ks q ls (.ref (zz_mi X) :: st) n h) : zz_Z X M d Q kc ks pc ls st n h := by
  obtain ⟨hd, rfl⟩ := hd
  intro p e R s m args below meth c Qf H locs cells slots A C Re T S L hc hs
  exact va_ldcM C.x C.b C.ow (C.ts _ hw) C.k.2.2.2.2.2.1 hd (k p e R s m args below meth c Qf H locs cells slots A C Re T S L hc hs)
theorem zi_getC {ix a : Nat} {x : vp_A} (hd : zz_d M pc (.invokevirtual ix) 3 q) (hl : Cond.methodLink M.1.cls ix ⟨"java/lang/Object", "getClass", "()Ljava/lang/Class;"⟩ ∈ zz_ws) (ha : h a = some (.inl (3, x))) (hw : (st.map fun v => v.category).sum ≤ 8) (hdd : 1 ≤ d) (k : zz_Z X M d Q kc ks q ls (.ref (zz_mi X) :: st) n h) : zz_Z X M d Q kc ks pc ls (.ref a :: st) n h := by
  obtain ⟨hd, rfl⟩ := hd
  intro p e R s m args below meth c Qf H locs cells slots A C Re T S L hc hs
  have hcell : H[a]? = some (vp_cell (zz_a X 3) x) := (T.2.2 a _ ha).1
  have hnm := va_nmO (nm := "[Ljava/lang/Object;") (C.k.1.2 3 (zz_a X 3, .object "java/lang/Object") rfl).2 rfl
  have hr : ∃ cell : Cell, H[a]? = some cell ∧ cell.vm.isStatics = false ∧ s.vm.findClass "[Ljava/lang/Object;" = some cell.cls := by
    refine ⟨_, hcell, ?_, ?_⟩
    · obtain ⟨y, z⟩ := x
      rcases z with z | z | z | z | z <;> rfl
    · rw [hnm]
      obtain ⟨y, z⟩ := x
      rcases z with z | z | z | z | z <;> rfl
  have hlw := C.w
  have hlf := C.f
  exact va_getC C.x C.b (by rw [C.ml]; exact L.1.symm) C.ow (C.ts _ hl) (va_Dc.use C.k.2.2.2.2.2.2) (C.ts _ zw_1160) (C.ts _ zw_357) (C.ts _ zw_373) C.k.2.2.2.2.2.1 hr (by omega) (by omega) hd (k p e R s m args below meth c Qf H locs cells slots A C Re T S L hc hs)
theorem zn_nn {z : Int32} (hz : ¬ z < 0) : z.toInt = (z.toNatClampNeg : Int) := by
  have hz0 : (0 : Int) ≤ z.toInt := by
    have := Int32.not_lt.mp hz
    simpa using Int32.le_iff_toInt_le.mp this
  show z.toInt = ((z.toInt.toNat : Nat) : Int)
  omega
theorem zi_acopy {ix a0 a n0 n1 : Nat} {f g : Nat → Option Nat} {sp dp y : Int32} (hd : zz_d M pc (.invokestatic ix) 3 q) (hl : Cond.methodLink M.1.cls ix arraycopyName ∈ zz_ws)
    (ha0 : h a0 = some (.inl (3, n0, .inr (.inr (.inr (.inr f)))))) (ha : h a = some (.inl (3, n1, .inr (.inr (.inr (.inr g))))))
    (h1 : ¬ sp < 0) (h2 : ¬ dp < 0) (h3 : ¬ y < 0) (h4 : sp.toNatClampNeg + y.toNatClampNeg ≤ n0) (h5 : dp.toNatClampNeg + y.toNatClampNeg ≤ n1) (hel : ∀ i : Nat, i < y.toNatClampNeg → ∀ v : Nat, f (sp.toNatClampNeg + i) = some v → zz_el h v)
    (hw : (st.map fun v => v.category).sum ≤ 8) (hdd : 1 ≤ d) (kk : zz_Z X M d Q kc ks q ls st n (zz_up h a (.inl (3, n1, .inr (.inr (.inr (.inr (va_cpy f g sp.toNatClampNeg dp.toNatClampNeg y.toNatClampNeg)))))))) :
    zz_Z X M d Q kc ks pc ls (.int y :: .int dp :: .ref a :: .int sp :: .ref a0 :: st) n h := by
  obtain ⟨hd, rfl⟩ := hd
  intro p e R s m args below meth c Qf H locs cells slots A C Re T S L hc hs
  obtain ⟨hat, hbase⟩ := T.2.2 a _ ha
  have hb : zz_b X ≤ a := zz_wr hbase (fun x hx => by cases hx)
  have hc0 : H[a0]? = some (vp_cell (zz_a X 3) (n0, .inr (.inr (.inr (.inr f))))) := (T.2.2 a0 _ ha0).1
  have hc1 : H[a]? = some (vp_cell (zz_a X 3) (n1, .inr (.inr (.inr (.inr g))))) := hat
  have hK3 := C.k.1.2 3 (zz_a X 3, .object "java/lang/Object") rfl
  obtain ⟨-, k0, hk0, cm0, hkk0⟩ := hK3.1 n0 (fun j => va_rf (f j))
  obtain ⟨-, k1, hk1, cm1, hkk1⟩ := hK3.1 n1 (fun j => va_rf (g j))
  have hlw := C.w
  have hlf := C.f
  intro T0 hT X0
  obtain ⟨vm', X', step⟩ := X0.arraycopy C.x C.ow (C.ts _ hl) (C.ts _ zw_385) (C.ts _ zw_384) (C.ts _ zw_17) (src := a0) (dst := a) (cs := vp_cell (zz_a X 3) (n0, .inr (.inr (.inr (.inr f))))) (cd := vp_cell (zz_a X 3) (n1, .inr (.inr (.inr (.inr g))))) (srcPos := sp) (destPos := dp) (n := y) (by rw [hT]; exact hc0) (by rw [hT]; exact hc1)
    (fun _ hx => by cases hx) (fun _ hx => by cases hx) (fun hx => by cases hx) (fun hx => by cases hx) hk0 hk1 hkk0 hkk1 rfl h1 h2 h3
    (by rw [zn_nn h1, zn_nn h3]; show ¬ _ > ((arrV (zz_a X 3) n0 (fun j => va_rf (f j))).slots.size : Int); rw [arrV_size]; omega)
    (by rw [zn_nn h2, zn_nn h3]; show ¬ _ > ((arrV (zz_a X 3) n1 (fun j => va_rf (g j))).slots.size : Int); rw [arrV_size]; omega)
    (fun vm₁ hal i hi => by
      have e : (vp_cell (zz_a X 3) (n0, .inr (.inr (.inr (.inr f))))).slots.getD (sp.toNatClampNeg + i) .null = va_rf (f (sp.toNatClampNeg + i)) := by
        show (arrV (zz_a X 3) n0 (fun j => va_rf (f j))).slots.getD _ _ = _
        rw [Array.getD_eq_getD_getElem?, arrV_read _ _ (by omega)]
        rfl
      rw [e]
      cases hy : f (sp.toNatClampNeg + i) with
      | none => exact ⟨rfl, trivial⟩
      | some v =>
        obtain ⟨cellV, g1, g2, ⟨kC, hkC⟩, hasg⟩ := (hel i hi v hy).any C.k T
        obtain ⟨kA, comp, r1, r2, r3, -⟩ := hK3.2
        cases hk1.symm.trans r1
        cases hkk1.symm.trans r2
        obtain ⟨kE, hkE, -⟩ := Vm.findClass_spec r3
        obtain ⟨kC', hkC', -⟩ := hal.2.2 _ _ hkC
        obtain ⟨kE', hkE', -⟩ := hal.2.2 _ _ hkE
        refine ⟨rfl, cellV, (show T0.heap[v]? = some cellV by rw [hT]; exact g1), (fun x hx => by rw [hx] at g2; cases g2), ⟨kC', hkC'⟩, ?_, ?_⟩
        · exact ⟨kE', hkE'⟩
        · show vm₁.assignable _ _ = true
          rw [hal.assignable]
          exact hasg _ r3)
    (g := F0 m pc A (.int y :: .int dp :: .ref a :: .int sp :: .ref a0 :: st)) rfl (by rw [C.ml]; exact L.1) (rest := st) rfl (by rw [C.b]; exact hd) (by omega) (by show 2 * 0 + _ + (nativeFrameWords "java/lang/System" "arraycopy" 5 + 11) ≤ _; have hq5 : nativeFrameWords "java/lang/System" "arraycopy" 5 ≤ 16 := (by decide); omega)
  have e1 : copied (vp_cell (zz_a X 3) (n0, .inr (.inr (.inr (.inr f))))) (vp_cell (zz_a X 3) (n1, .inr (.inr (.inr (.inr g))))) sp dp y = vp_cell (zz_a X 3) (n1, .inr (.inr (.inr (.inr (va_cpy f g sp.toNatClampNeg dp.toNatClampNeg y.toNatClampNeg))))) := by
    rw [vp_cell_q, vp_cell_q, vp_cell_q]
    exact va_copied (fun z => va_rf z) (zz_a X 3) (zz_a X 3) f g h4
  rw [e1] at X' step
  have hlt : a < H.size := (Array.getElem?_eq_some_iff.mp hc1).1
  have hheap : ((T0.setVm vm').setCell a (vp_cell (zz_a X 3) (n1, .inr (.inr (.inr (.inr (va_cpy f g sp.toNatClampNeg dp.toNatClampNeg y.toNatClampNeg))))))).heap = H.setIfInBounds a (vp_cell (zz_a X 3) (n1, .inr (.inr (.inr (.inr (va_cpy f g sp.toNatClampNeg dp.toNatClampNeg y.toNatClampNeg)))))) := by rw [← hT]; rfl
  have oq : ∀ z : Nat, z ≠ a → (H.setIfInBounds a (vp_cell (zz_a X 3) (n1, .inr (.inr (.inr (.inr (va_cpy f g sp.toNatClampNeg dp.toNatClampNeg y.toNatClampNeg)))))))[z]? = H[z]? := fun z hz => by simp [Array.getElem?_setIfInBounds, Ne.symm hz]
  obtain ⟨t, a1, b1⟩ := kk p e R s m args below meth c Qf _ _ cells slots A C Re (T.put hb (show (H.setIfInBounds a _)[a]? = some _ by simp [Array.getElem?_setIfInBounds, hlt]) (by simp) oq) ⟨by simp; exact S.1, fun z g1 g2 => by
      rw [oq z (fun e => g2 (by rw [e]; exact hb))]
      exact S.2.1 z g1 g2, fun z hz => by
      rcases List.mem_append.mp hz with g | g
      · exact S.2.2 z g
      · obtain ⟨w, -, hw'⟩ := List.mem_map.mp g
        rw [← hw']
        exact hb⟩ L hc hs _ hheap X'
  exact ⟨t, step t a1, b1⟩
theorem zj_acopy {ix a0 a n0 n1 : Nat} {f g : Nat → Option Nat} {sp dp y : Int} (hd : zz_d M pc (.invokestatic ix) 3 q) (hl : Cond.methodLink M.1.cls ix arraycopyName ∈ zz_ws)
    (ha0 : h a0 = some (zQ 3 n0 f)) (ha : h a = some (zQ 3 n1 g)) (hb : 0 ≤ sp ∧ 0 ≤ dp ∧ 0 ≤ y ∧ sp + y ≤ (n0 : Int) ∧ dp + y ≤ (n1 : Int) ∧ n0 < 2147483648 ∧ n1 < 2147483648) (hel : ∀ i : Nat, i < y.toNat → ∀ v : Nat, f (sp.toNat + i) = some v → zz_el h v)
    (hw : (st.map fun v => v.category).sum ≤ 8) (hdd : 1 ≤ d) (kk : zz_Z X M d Q kc ks q ls st n (zz_up h a (zQ 3 n1 (va_cpy f g sp.toNat dp.toNat y.toNat)))) :
    zz_Z X M d Q kc ks pc ls (zv y :: zv dp :: .ref a :: zv sp :: .ref a0 :: st) n h := by
  have r1 := zn_cl (i := sp) (by omega)
  have r2 := zn_cl (i := dp) (by omega)
  have r3 := zn_cl (i := y) (by omega)
  refine zi_acopy hd hl ha0 ha (by rw [zn_z, zn_lt (by omega) (by omega)]; omega) (by rw [zn_z, zn_lt (by omega) (by omega)]; omega) (by rw [zn_z, zn_lt (by omega) (by omega)]; omega) (by rw [r1, r3]; omega) (by rw [r2, r3]; omega) ?_ hw hdd ?_
  · rw [r1, r3]; exact hel
  · rw [r1, r2, r3]; exact kk
theorem zj_mmax {ix : Nat} {x y : Int} (hd : zz_d M pc (.invokestatic ix) 3 q) (hl : Cond.methodLink M.1.cls ix Lib.Math.max.name ∈ zz_ws) (hr : (-2147483648 ≤ x ∧ x < 2147483648) ∧ -2147483648 ≤ y ∧ y < 2147483648) (hw : (st.map fun v => v.category).sum ≤ 8) (hdd : 1 ≤ d) (k : zz_Z X M d Q kc ks q ls (zv (if x < y then y else x) :: st) n h) : zz_Z X M d Q kc ks pc ls (zv y :: zv x :: st) n h := by
  obtain ⟨hd, rfl⟩ := hd
  intro p e R s m args below meth c Qf H locs cells slots A C Re T S L hc hs
  have hlw := C.w
  have hlf := C.f
  refine va_mmax C.x C.b (by rw [C.ml]; exact L.1.symm) C.ow (C.ts _ hl) (C.ts _ zw_347) (C.ts _ zw_15) (C.ts _ zw_348) (by omega) (by omega) (by omega) (by omega) hd ?_
  have e1 : Value.int (if (Int32.ofInt x) < (Int32.ofInt y) then (Int32.ofInt y) else (Int32.ofInt x)) = zv (if x < y then y else x) := by
    unfold zv
    by_cases hxy : x < y
    · rw [if_pos hxy, if_pos ((zn_lt hr.1 hr.2).mpr hxy)]
    · rw [if_neg hxy, if_neg (fun z => hxy ((zn_lt hr.1 hr.2).mp z))]
  rw [e1]
  exact k p e R s m args below meth c Qf H locs cells slots A C Re T S L hc hs
theorem zj_mmin {ix : Nat} {x y : Int} (hd : zz_d M pc (.invokestatic ix) 3 q) (hl : Cond.methodLink M.1.cls ix Lib.Math.min.name ∈ zz_ws) (hr : (-2147483648 ≤ x ∧ x < 2147483648) ∧ -2147483648 ≤ y ∧ y < 2147483648) (hw : (st.map fun v => v.category).sum ≤ 8) (hdd : 1 ≤ d) (k : zz_Z X M d Q kc ks q ls (zv (if y < x then y else x) :: st) n h) : zz_Z X M d Q kc ks pc ls (zv y :: zv x :: st) n h := by
  obtain ⟨hd, rfl⟩ := hd
  intro p e R s m args below meth c Qf H locs cells slots A C Re T S L hc hs
  have hlw := C.w
  have hlf := C.f
  refine va_mmin C.x C.b (by rw [C.ml]; exact L.1.symm) C.ow (C.ts _ hl) (C.ts _ zw_381) (C.ts _ zw_15) (C.ts _ zw_382) (by omega) (by omega) (by omega) (by omega) hd ?_
  have e1 : Value.int (if (Int32.ofInt y) < (Int32.ofInt x) then (Int32.ofInt y) else (Int32.ofInt x)) = zv (if y < x then y else x) := by
    unfold zv
    by_cases hxy : y < x
    · rw [if_pos hxy, if_pos ((zn_lt hr.2 hr.1).mpr hxy)]
    · rw [if_neg hxy, if_neg (fun z => hxy ((zn_lt hr.2 hr.1).mp z))]
  rw [e1]
  exact k p e R s m args below meth c Qf H locs cells slots A C Re T S L hc hs
end ZK
end
section
/-! Pure: texts, the pieces of a path, its plain form -/
/-- the first place from i on, k places at most, with the character c -/
def sp_find (g : Int → Int) (c : Int) : Nat → Int → Int
  | 0, i => i
  | k + 1, i => if g i = c then i else sp_find g c k (i + 1)
theorem sp_find_ge (g : Int → Int) (c : Int) : ∀ (k : Nat) (i : Int), i ≤ sp_find g c k i ∧ sp_find g c k i ≤ i + k
  | 0, i => by simp [sp_find]
  | k + 1, i => by
    unfold sp_find
    have := sp_find_ge g c k (i + 1)
    split <;> omega
theorem sp_find_not (g : Int → Int) (c : Int) : ∀ (k : Nat) (i j : Int), i ≤ j → j < sp_find g c k i → g j ≠ c
  | 0, i, j, h1, h2 => by simp only [sp_find] at h2; omega
  | k + 1, i, j, h1, h2 => by
    unfold sp_find at h2
    split at h2
    · omega
    · rename_i hne
      by_cases hj : j = i
      · rw [hj]; exact hne
      · exact sp_find_not g c k (i + 1) j (by omega) h2
theorem sp_find_at (g : Int → Int) (c : Int) : ∀ (k : Nat) (i : Int), sp_find g c k i < i + k → g (sp_find g c k i) = c
  | 0, i, h => by simp only [sp_find] at h; omega
  | k + 1, i, h => by
    unfold sp_find at h ⊢
    split
    · assumption
    · rename_i hne
      rw [if_neg hne] at h
      exact sp_find_at g c k (i + 1) (by omega)
theorem sp_find_uniq (g : Int → Int) (c : Int) (k : Nat) (i j : Int) (h1 : i ≤ j) (h2 : j ≤ i + k) (h3 : ∀ x, i ≤ x → x < j → g x ≠ c) (h4 : j < i + k → g j = c) : sp_find g c k i = j := by
  have a1 := sp_find_ge g c k i
  rcases Int.lt_trichotomy (sp_find g c k i) j with h | h | h
  · exact absurd (sp_find_at g c k i (by omega)) (h3 _ (by omega) h)
  · exact h
  · exact absurd (h4 (by omega)) (sp_find_not g c k i j h1 h)
theorem sp_find_congr (g g' : Int → Int) (c : Int) : ∀ (k : Nat) (i : Int), (∀ x, i ≤ x → x < i + k → g x = g' x) → sp_find g c k i = sp_find g' c k i
  | 0, i, _ => rfl
  | k + 1, i, h => by
    unfold sp_find
    rw [h i (by omega) (by omega), sp_find_congr g g' c k (i + 1) (fun x h1 h2 => h x (by omega) (by omega))]
/-- a digit's value, or -1 -/
def sp_dig (c : Int) : Int := if 48 ≤ c ∧ c ≤ 57 then c - 48 else if 97 ≤ c ∧ c ≤ 102 then c - 87 else if 65 ≤ c ∧ c ≤ 70 then c - 55 else -1
/-- the code of two digits, or -1 -/
def sp_code (a b : Int) : Int :=
  if sp_dig a = -1 ∨ sp_dig b = -1 then -1
  else if (33 ≤ 16 * sp_dig a + sp_dig b ∧ 16 * sp_dig a + sp_dig b ≤ 126) ∧ 16 * sp_dig a + sp_dig b ≠ 47 ∧ 16 * sp_dig a + sp_dig b ≠ 92 ∧ 16 * sp_dig a + sp_dig b ≠ 37 ∧ 16 * sp_dig a + sp_dig b ≠ 59 then 16 * sp_dig a + sp_dig b else -1
/-- what the characters from i on, before q and before a semicolon, mean; none if they are bad -/
def sp_dec (f : Int → Int) (q : Int) : Nat → Int → Option (List Int)
  | 0, _ => some []
  | k + 1, i => if q ≤ i then some [] else if f i = 59 then some [] else
    if f i = 37 then (if i + 2 < q then (if sp_code (f (i + 1)) (f (i + 2)) = -1 then none else (sp_dec f q k (i + 3)).map (fun l => sp_code (f (i + 1)) (f (i + 2)) :: l)) else none)
    else (sp_dec f q k (i + 1)).map (fun l => f i :: l)
/-- a segment comes behind those that are kept; none if that makes the path bad -/
def sp_plc (last : Bool) (w : List Int) (acc : List (List Int)) : Option (List (List Int)) :=
  if w = [] then (if last then some acc else none) else if w = [46] then some acc else if w = [46, 46] then (if acc = [] then none else some acc.dropLast) else some (acc ++ [w])
/-- the next end of a piece -/
def sp_nx (f : Int → Int) (len i : Int) : Int := sp_find f 47 (len - i).toNat i
def sp_rd (f : Int → Int) (len : Int) : Nat → Int → List (List Int) → Option (List (List Int))
  | 0, _, acc => some acc
  | k + 1, p, acc => match sp_dec f (sp_nx f len p) 41 p with
    | none => none
    | some w => match sp_plc (decide (sp_nx f len p = len)) w acc with
      | none => none
      | some acc' => if sp_nx f len p = len then some acc' else sp_rd f len k (sp_nx f len p + 1) acc'
/-- the plain form of the path in the buffer -/
def sp_read (f : Int → Int) (len : Int) : Option (List (List Int)) :=
  if len = 0 ∨ f 0 ≠ 47 then none else if sp_find f 92 len.toNat 0 < len then none else sp_rd f len 41 1 []
/-! the same in two goes: all pieces first, then what falls out -/
def sp_ds (f : Int → Int) (len : Int) : Nat → Int → Option (List (List Int))
  | 0, _ => some []
  | k + 1, p => match sp_dec f (sp_nx f len p) 41 p with
    | none => none
    | some w => if sp_nx f len p = len then some [w] else (sp_ds f len k (sp_nx f len p + 1)).map (fun D => w :: D)
def sp_fold : List (List Int) → List (List Int) → Option (List (List Int))
  | [], acc => some acc
  | [w], acc => sp_plc true w acc
  | w :: w2 :: r, acc => (sp_plc false w acc).bind (sp_fold (w2 :: r))
def sp_dot (w : List Int) (acc : List (List Int)) : Option (List (List Int)) := if w = [46] then some acc else if w = [46, 46] then (if acc = [] then none else some acc.dropLast) else some (acc ++ [w])
def sp_dots : List (List Int) → List (List Int) → Option (List (List Int))
  | [], acc => some acc
  | w :: r, acc => (sp_dot w acc).bind (sp_dots r)
def sp_trim : List (List Int) → List (List Int)
  | [] => []
  | [w] => if w = [] then [] else [w]
  | w :: w2 :: r => w :: sp_trim (w2 :: r)
theorem sp_plc_dot {last : Bool} {w : List Int} {acc : List (List Int)} (hw : ¬ w = []) : sp_plc last w acc = sp_dot w acc := by
  unfold sp_plc sp_dot
  rw [if_neg hw]
theorem sp_fold_eq : ∀ (D acc : List (List Int)), sp_fold D acc = if (sp_trim D).any (fun w => decide (w = [])) = true then none else sp_dots (sp_trim D) acc
  | [], acc => by simp [sp_fold, sp_trim, sp_dots]
  | [w], acc => by
    by_cases hw : w = []
    · subst hw
      simp [sp_fold, sp_trim, sp_dots, sp_plc]
    · simp only [sp_fold, sp_trim, if_neg hw, sp_plc_dot hw, sp_dots]
      simp [hw]
  | w :: w2 :: r, acc => by
    by_cases hw : w = []
    · subst hw
      simp [sp_fold, sp_trim, sp_plc]
    · simp only [sp_fold, sp_trim, sp_plc_dot hw, sp_dots]
      simp only [List.any_cons, hw, decide_false, Bool.false_or]
      cases sp_dot w acc with
      | none => simp
      | some a =>
        simp only [Option.bind_some]
        exact sp_fold_eq (w2 :: r) a
theorem sp_ds_ne (f : Int → Int) (len : Int) (k : Nat) (p : Int) (D : List (List Int)) (h : sp_ds f len (k + 1) p = some D) : D ≠ [] := by
  unfold sp_ds at h
  split at h
  · cases h
  · split at h
    · cases h; simp
    · rw [Option.map_eq_some_iff] at h
      obtain ⟨D', -, rfl⟩ := h
      simp
theorem sp_rd_ds (f : Int → Int) (len : Int) : ∀ (k : Nat) (p : Int) (acc : List (List Int)), p ≤ len → len < p + k → sp_rd f len k p acc = (sp_ds f len k p).bind (fun D => sp_fold D acc)
  | 0, p, acc, _, _ => by simp [sp_rd, sp_ds, sp_fold]
  | k + 1, p, acc, hp, hk => by
    have hge := sp_find_ge f 47 (len - p).toNat p
    unfold sp_rd sp_ds
    cases h1 : sp_dec f (sp_nx f len p) 41 p with
    | none => rfl
    | some w =>
      by_cases hl : sp_nx f len p = len
      · simp only [hl, decide_true, if_true, Option.bind_some, sp_fold]
        cases sp_plc true w acc <;> rfl
      · simp only [if_neg hl, decide_eq_false hl]
        have hk0 : k ≠ 0 := by
          intro h0
          subst h0
          apply hl
          unfold sp_nx
          omega
        obtain ⟨k', rfl⟩ : ∃ k', k = k' + 1 := ⟨k - 1, by omega⟩
        have ih := sp_rd_ds f len (k' + 1) (sp_nx f len p + 1)
        have hlt : sp_nx f len p < len := by unfold sp_nx at hl ⊢; omega
        have hgp : p ≤ sp_nx f len p := hge.1
        cases h2 : sp_ds f len (k' + 1) (sp_nx f len p + 1) with
        | none =>
          cases h3 : sp_plc false w acc with
          | none => rfl
          | some a =>
            exact (ih a (by omega) (by omega)).trans (by rw [h2]; rfl)
        | some D =>
          have hD := sp_ds_ne _ _ _ _ _ h2
          obtain ⟨w2, r, rfl⟩ : ∃ w2 r, D = w2 :: r := by
            cases D with
            | nil => exact absurd rfl hD
            | cons a b => exact ⟨a, b, rfl⟩
          simp only [Option.map_some, Option.bind_some, sp_fold]
          cases h3 : sp_plc false w acc with
          | none => rfl
          | some a =>
            exact (ih a (by omega) (by omega)).trans (by rw [h2]; rfl)
end
section
/-! Text, and what it needs of the heap -/
abbrev zp (r0 : Option Value) (n0 : Nat) (h0 : zz_H) : Option Value → Nat → zz_H → Prop := fun r n h => r = r0 ∧ n = n0 ∧ h = h0
theorem zz_ne1 {h : zz_H} {a b kd N : Nat} {x : Nat × List Value} {g : Int → Int} (h1 : h a = some (.inr x)) (h2 : h b = some (zA kd N g)) : a ≠ b := fun e => by
  unfold zA at h2
  rw [e, h2] at h1
  cases h1
/-- the character at i of a text, or 0 -/
def tx_at (len : Int) (f : Int → Int) (i : Int) : Int := if 0 ≤ i ∧ i < len then f i else 0
theorem ct_14 {X : zz_X} {d n : Nat} {h : zz_H} {c : Int} (hc : -2147483648 ≤ c ∧ c < 2147483648) : zz_Ct X mm_14 d 0 0 [zv c] n h (zp (some (zv (if 33 ≤ c ∧ c ≤ 126 then 1 else 0))) n h) := by
  refine zz_start (by decide) (ls := [some (zv c)]) rfl ?_
  refine zj_iload_n dk_14_0 rfl ?_
  refine zj_bipush dk_14_1 (by decide) ?_
  refine zj_icmp_lt (t := 16) dk_14_3 rfl (by omega) (fun c3 => ?_) (fun c3 => ?_)
  · skip
    refine zj_iconst dk_14_16 ?_
    refine zj_zreturn dk_14_17 rfl (by omega) ⟨by first | rw [if_pos (by omega)] | rw [if_neg (by omega)], rfl, rfl⟩
  · skip
    refine zj_iload_n dk_14_6 rfl ?_
    refine zj_bipush dk_14_7 (by decide) ?_
    refine zj_icmp_gt (t := 16) dk_14_9 rfl (by omega) (fun c9 => ?_) (fun c9 => ?_)
    · skip
      refine zj_iconst dk_14_16 ?_
      refine zj_zreturn dk_14_17 rfl (by omega) ⟨by first | rw [if_pos (by omega)] | rw [if_neg (by omega)], rfl, rfl⟩
    · skip
      refine zj_iconst dk_14_12 ?_
      refine zi_goto (t := 17) dk_14_13 rfl ?_
      refine zj_zreturn dk_14_17 rfl (by omega) ⟨by first | rw [if_pos (by omega)] | rw [if_neg (by omega)], rfl, rfl⟩

theorem ct_25 {X : zz_X} {d n : Nat} {h : zz_H} {t ca : Nat} {len : Int} {f : Int → Int} (h1 : h t = some (.inr (1, [.ref ca, zv len]))) (h2 : h ca = some (zA 1 40 f)) (hl : 0 ≤ len ∧ len ≤ 40) (hf : ∀ i, 0 ≤ i → i < len → 0 ≤ f i ∧ f i < 65536) {i : Int} (hi : -2147483648 ≤ i ∧ i < 2147483648) : zz_Ct X mm_25 d 0 0 [.ref t, zv i] n h (zp (some (zv (tx_at len f i))) n h) := by
  refine zz_start (by decide) (ls := [some (.ref t), some (zv i)]) rfl ?_
  refine zj_iload_n dk_25_0 rfl ?_
  refine zj_if_lt (t := 21) dk_25_1 rfl (by omega) (fun c1 => ?_) (fun c1 => ?_)
  · skip
    refine zj_iconst dk_25_21 ?_
    refine zj_creturn dk_25_22 rfl (by omega) ⟨by unfold tx_at; first | rw [if_pos (by omega)] | rw [if_neg (by omega)], rfl, rfl⟩
  · skip
    refine zj_iload_n dk_25_4 rfl ?_
    refine zi_aload_n dk_25_5 rfl rfl ?_
    refine zi_getf dk_25_6 fl_1_19 (by first | assumption | exact zz_up_eq _ _ _ | omega | exact Ne.symm (by assumption) | (refine (zz_up_ne ?_).trans ?_ <;> first | assumption | exact zz_up_eq _ _ _ | omega | exact Ne.symm (by assumption) | (refine (zz_up_ne ?_).trans ?_ <;> first | assumption | exact zz_up_eq _ _ _ | omega | exact Ne.symm (by assumption) | (refine (zz_up_ne ?_).trans ?_ <;> first | assumption | exact zz_up_eq _ _ _ | omega | exact Ne.symm (by assumption))))) rfl ?_
    refine zj_icmp_ge (t := 21) dk_25_9 rfl (by omega) (fun c9 => ?_) (fun c9 => ?_)
    · skip
      refine zj_iconst dk_25_21 ?_
      refine zj_creturn dk_25_22 rfl (by omega) ⟨by unfold tx_at; first | rw [if_pos (by omega)] | rw [if_neg (by omega)], rfl, rfl⟩
    · skip
      refine zi_aload_n dk_25_12 rfl rfl ?_
      refine zi_getf dk_25_13 fl_1_9 (by first | assumption | exact zz_up_eq _ _ _ | omega | exact Ne.symm (by assumption) | (refine (zz_up_ne ?_).trans ?_ <;> first | assumption | exact zz_up_eq _ _ _ | omega | exact Ne.symm (by assumption) | (refine (zz_up_ne ?_).trans ?_ <;> first | assumption | exact zz_up_eq _ _ _ | omega | exact Ne.symm (by assumption) | (refine (zz_up_ne ?_).trans ?_ <;> first | assumption | exact zz_up_eq _ _ _ | omega | exact Ne.symm (by assumption))))) rfl ?_
      refine zj_iload_n dk_25_16 rfl ?_
      refine zj_cald dk_25_17 (by first | assumption | exact zz_up_eq _ _ _ | omega | exact Ne.symm (by assumption) | (refine (zz_up_ne ?_).trans ?_ <;> first | assumption | exact zz_up_eq _ _ _ | omega | exact Ne.symm (by assumption) | (refine (zz_up_ne ?_).trans ?_ <;> first | assumption | exact zz_up_eq _ _ _ | omega | exact Ne.symm (by assumption) | (refine (zz_up_ne ?_).trans ?_ <;> first | assumption | exact zz_up_eq _ _ _ | omega | exact Ne.symm (by assumption))))) (by omega) ?_
      have hfi := hf i (by omega) (by omega)
      refine zi_goto (t := 22) dk_25_18 rfl ?_
      refine zj_creturn dk_25_22 rfl (by omega) ⟨by unfold tx_at; first | rw [if_pos (by omega)] | rw [if_neg (by omega)], rfl, rfl⟩

theorem ct_16 {X : zz_X} {d n : Nat} {h : zz_H} {t ca : Nat} {len : Int} {f : Int → Int} (h1 : h t = some (.inr (1, [.ref ca, zv len]))) (h2 : h ca = some (zA 1 40 f)) (hl : 0 ≤ len ∧ len ≤ 40) (hf : ∀ i, 0 ≤ i → i < len → 0 ≤ f i ∧ f i < 65536) : zz_Ct X mm_16 d 0 0 [.ref t] n h (zp none n (zz_up h t (.inr (1, [.ref ca, zv 0])))) := by
  refine zz_start (by decide) (ls := [some (.ref t)]) rfl ?_
  refine zi_aload_n dk_16_0 rfl rfl ?_
  refine zj_iconst dk_16_1 ?_
  refine zj_putI dk_16_2 fp_16_19 (by first | assumption | exact zz_up_eq _ _ _ | omega | exact Ne.symm (by assumption) | (refine (zz_up_ne ?_).trans ?_ <;> first | assumption | exact zz_up_eq _ _ _ | omega | exact Ne.symm (by assumption) | (refine (zz_up_ne ?_).trans ?_ <;> first | assumption | exact zz_up_eq _ _ _ | omega | exact Ne.symm (by assumption) | (refine (zz_up_ne ?_).trans ?_ <;> first | assumption | exact zz_up_eq _ _ _ | omega | exact Ne.symm (by assumption))))) rfl ?_
  refine zi_return dk_16_5 rfl ⟨rfl, rfl, rfl⟩

theorem ct_13 {X : zz_X} {d n : Nat} {h : zz_H} (hd : 1 ≤ d) {t ca : Nat} {len : Int} {f : Int → Int} (h1 : h t = some (.inr (1, [.ref ca, zv len]))) (h2 : h ca = some (zA 1 40 f)) (hl : 0 ≤ len ∧ len ≤ 40) (hf : ∀ i, 0 ≤ i → i < len → 0 ≤ f i ∧ f i < 65536) {c : Int} (hc : -2147483648 ≤ c ∧ c < 2147483648) : zz_Ct X mm_13 d 0 0 [.ref t, zv c] n h (fun r n' h' => n' = n ∧ (((33 ≤ c ∧ c ≤ 126 ∧ len < 40) ∧ r = some (zv 1) ∧ h' = zz_up (zz_up h ca (zA 1 40 (zU f len c))) t (.inr (1, [.ref ca, zv (len + 1)]))) ∨ (¬ (33 ≤ c ∧ c ≤ 126 ∧ len < 40) ∧ r = some (zv 0) ∧ h' = h))) := by
  refine zz_start (by decide) (ls := [some (.ref t), some (zv c)]) rfl ?_
  have hne := zz_ne1 h1 h2
  refine zj_iload_n dk_13_0 rfl ?_
  refine zi_invS dk_13_1 ml_1_15 is_14 (ct_14 (d := d - 1) hc) rfl rfl (by decide) (by omega) rfl rfl (fun r n' h' hq => ?_)
  obtain ⟨rfl, rfl, rfl⟩ := hq
  show zz_Z _ _ _ _ _ _ _ _ [zv _] _ _
  refine zj_if_eq (t := 16) dk_13_4 rfl (by split <;> omega) (fun c4 => ?_) (fun c4 => ?_)
  · skip
    refine zj_iconst dk_13_16 ?_
    refine zj_zreturn dk_13_17 rfl (by omega) ⟨rfl, Or.inr ⟨by split at c4 <;> omega, rfl, rfl⟩⟩
  · skip
    refine zi_aload_n dk_13_7 rfl rfl ?_
    refine zi_getf dk_13_8 fl_1_19 (by first | assumption | exact zz_up_eq _ _ _ | omega | exact Ne.symm (by assumption) | (refine (zz_up_ne ?_).trans ?_ <;> first | assumption | exact zz_up_eq _ _ _ | omega | exact Ne.symm (by assumption) | (refine (zz_up_ne ?_).trans ?_ <;> first | assumption | exact zz_up_eq _ _ _ | omega | exact Ne.symm (by assumption) | (refine (zz_up_ne ?_).trans ?_ <;> first | assumption | exact zz_up_eq _ _ _ | omega | exact Ne.symm (by assumption))))) rfl ?_
    refine zj_bipush dk_13_11 (by decide) ?_
    refine zj_icmp_lt (t := 18) dk_13_13 rfl (by omega) (fun c13 => ?_) (fun c13 => ?_)
    · skip
      refine zi_aload_n dk_13_18 rfl rfl ?_
      refine zi_getf dk_13_19 fl_1_9 (by first | assumption | exact zz_up_eq _ _ _ | omega | exact Ne.symm (by assumption) | (refine (zz_up_ne ?_).trans ?_ <;> first | assumption | exact zz_up_eq _ _ _ | omega | exact Ne.symm (by assumption) | (refine (zz_up_ne ?_).trans ?_ <;> first | assumption | exact zz_up_eq _ _ _ | omega | exact Ne.symm (by assumption) | (refine (zz_up_ne ?_).trans ?_ <;> first | assumption | exact zz_up_eq _ _ _ | omega | exact Ne.symm (by assumption))))) rfl ?_
      refine zi_aload_n dk_13_22 rfl rfl ?_
      refine zi_getf dk_13_23 fl_1_19 (by first | assumption | exact zz_up_eq _ _ _ | omega | exact Ne.symm (by assumption) | (refine (zz_up_ne ?_).trans ?_ <;> first | assumption | exact zz_up_eq _ _ _ | omega | exact Ne.symm (by assumption) | (refine (zz_up_ne ?_).trans ?_ <;> first | assumption | exact zz_up_eq _ _ _ | omega | exact Ne.symm (by assumption) | (refine (zz_up_ne ?_).trans ?_ <;> first | assumption | exact zz_up_eq _ _ _ | omega | exact Ne.symm (by assumption))))) rfl ?_
      refine zj_iload_n dk_13_26 rfl ?_
      refine zj_i2c dk_13_27 (by split at c4 <;> omega) ?_
      refine zj_cast dk_13_28 (by first | assumption | exact zz_up_eq _ _ _ | omega | exact Ne.symm (by assumption) | (refine (zz_up_ne ?_).trans ?_ <;> first | assumption | exact zz_up_eq _ _ _ | omega | exact Ne.symm (by assumption) | (refine (zz_up_ne ?_).trans ?_ <;> first | assumption | exact zz_up_eq _ _ _ | omega | exact Ne.symm (by assumption) | (refine (zz_up_ne ?_).trans ?_ <;> first | assumption | exact zz_up_eq _ _ _ | omega | exact Ne.symm (by assumption))))) (by omega) (by split at c4 <;> omega) ?_
      refine zi_aload_n dk_13_29 rfl rfl ?_
      refine zi_dup dk_13_30 rfl ?_
      refine zi_getf dk_13_31 fl_1_19 (by first | assumption | exact zz_up_eq _ _ _ | omega | exact Ne.symm (by assumption) | (refine (zz_up_ne ?_).trans ?_ <;> first | assumption | exact zz_up_eq _ _ _ | omega | exact Ne.symm (by assumption) | (refine (zz_up_ne ?_).trans ?_ <;> first | assumption | exact zz_up_eq _ _ _ | omega | exact Ne.symm (by assumption) | (refine (zz_up_ne ?_).trans ?_ <;> first | assumption | exact zz_up_eq _ _ _ | omega | exact Ne.symm (by assumption))))) rfl ?_
      refine zj_iconst dk_13_34 ?_
      refine zj_iadd dk_13_35 ?_
      refine zj_putI dk_13_36 fp_13_19 (by first | assumption | exact zz_up_eq _ _ _ | omega | exact Ne.symm (by assumption) | (refine (zz_up_ne ?_).trans ?_ <;> first | assumption | exact zz_up_eq _ _ _ | omega | exact Ne.symm (by assumption) | (refine (zz_up_ne ?_).trans ?_ <;> first | assumption | exact zz_up_eq _ _ _ | omega | exact Ne.symm (by assumption) | (refine (zz_up_ne ?_).trans ?_ <;> first | assumption | exact zz_up_eq _ _ _ | omega | exact Ne.symm (by assumption))))) rfl ?_
      refine zj_iconst dk_13_39 ?_
      refine zj_zreturn dk_13_40 rfl (by omega) ⟨rfl, Or.inl ⟨by split at c4 <;> omega, rfl, rfl⟩⟩
    · skip
      refine zj_iconst dk_13_16 ?_
      refine zj_zreturn dk_13_17 rfl (by omega) ⟨rfl, Or.inr ⟨by split at c4 <;> omega, rfl, rfl⟩⟩

theorem lp_27 {X : zz_X} {d n : Nat} {h : zz_H} (hd : 1 ≤ d) {t ca : Nat} {len : Int} {f : Int → Int} (h1 : h t = some (.inr (1, [.ref ca, zv len]))) (h2 : h ca = some (zA 1 40 f)) (hl : 0 ≤ len ∧ len ≤ 40) (hf : ∀ i, 0 ≤ i → i < len → 0 ≤ f i ∧ f i < 65536) {c to : Int} (hc : 0 ≤ c ∧ c < 65536) (ht : to ≤ 40) {Q : Option Value → Nat → zz_H → Prop} (fr : Int) : ∀ (k : Nat) (i : Int), i + k = to → 0 ≤ i → Q (some (zv (sp_find (tx_at len f) c k i))) n h →
    zz_Z X mm_27 d Q 0 0 3 [some (.ref t), some (zv c), some (zv fr), some (zv to), some (zv i)] [] n h := by
  intro k
  induction k with
  | zero =>
    intro i hi h0 hQ
    have hg : sp_find (tx_at len f) c 0 i = to := by show i = to; omega
    rw [hg] at hQ
    refine zj_iload dk_27_3 rfl ?_
    refine zj_iload_n dk_27_5 rfl ?_
    refine zj_icmp_ge (t := 28) dk_27_6 rfl (by omega) (fun c6 => ?_) (fun c6 => ?_)
    · skip
      refine zj_iload_n dk_27_28 rfl ?_
      refine zj_ireturn dk_27_29 rfl hQ
    · omega
  | succ k ih =>
    intro i hi h0 hQ
    have hat : 0 ≤ tx_at len f i ∧ tx_at len f i < 65536 := by
      unfold tx_at
      split
      · exact hf i (by omega) (by omega)
      · omega
    unfold sp_find at hQ
    refine zj_iload dk_27_3 rfl ?_
    refine zj_iload_n dk_27_5 rfl ?_
    refine zj_icmp_ge (t := 28) dk_27_6 rfl (by omega) (fun c6 => ?_) (fun c6 => ?_)
    · omega
    · skip
      refine zi_aload_n dk_27_9 rfl rfl ?_
      refine zj_iload dk_27_10 rfl ?_
      refine zi_invV dk_27_12 ml_1_23 iv_25 (ct_25 (d := d - 1) h1 h2 hl hf (by omega)) (by first | assumption | exact zz_up_eq _ _ _ | omega | exact Ne.symm (by assumption) | (refine (zz_up_ne ?_).trans ?_ <;> first | assumption | exact zz_up_eq _ _ _ | omega | exact Ne.symm (by assumption) | (refine (zz_up_ne ?_).trans ?_ <;> first | assumption | exact zz_up_eq _ _ _ | omega | exact Ne.symm (by assumption) | (refine (zz_up_ne ?_).trans ?_ <;> first | assumption | exact zz_up_eq _ _ _ | omega | exact Ne.symm (by assumption))))) rfl rfl rfl (by decide) (by omega) rfl rfl (fun r n' h' hq => ?_)
      obtain ⟨rfl, rfl, rfl⟩ := hq
      refine zj_iload_n dk_27_15 rfl ?_
      refine zj_icmp_ne (t := 22) dk_27_16 rfl (by omega) (fun c16 => ?_) (fun c16 => ?_)
      · skip
        refine zj_iinc dk_27_22 rfl rfl ?_
        refine zi_goto (t := 3) dk_27_25 rfl ?_
        exact ih (i + 1) (by omega) (by omega) (by rw [if_neg c16] at hQ; exact hQ)
      · skip
        refine zj_iload dk_27_19 rfl ?_
        refine zj_ireturn dk_27_21 rfl (by rw [if_pos c16] at hQ; exact hQ)
end
section
theorem ct_27 {X : zz_X} {d n : Nat} {h : zz_H} (hd : 1 ≤ d) {t ca : Nat} {len : Int} {f : Int → Int} (h1 : h t = some (.inr (1, [.ref ca, zv len]))) (h2 : h ca = some (zA 1 40 f)) (hl : 0 ≤ len ∧ len ≤ 40) (hf : ∀ i, 0 ≤ i → i < len → 0 ≤ f i ∧ f i < 65536) {c fr to : Int} (hc : 0 ≤ c ∧ c < 65536) (hfr : 0 ≤ fr ∧ fr ≤ to ∧ to ≤ 40) : zz_Ct X mm_27 d 0 0 [.ref t, zv c, zv fr, zv to] n h (zp (some (zv (sp_find (tx_at len f) c (to - fr).toNat fr))) n h) := by
  refine zz_start (by decide) (ls := [some (.ref t), some (zv c), some (zv fr), some (zv to), none]) rfl ?_
  refine zj_iload_n dk_27_0 rfl ?_
  refine zj_istore dk_27_1 rfl ?_
  exact lp_27 hd h1 h2 hl hf hc (by omega) fr (to - fr).toNat fr (by omega) (by omega) ⟨rfl, rfl, rfl⟩

theorem ct_26 {X : zz_X} {d n : Nat} {h : zz_H} (hd : 2 ≤ d) {t ca : Nat} {len : Int} {f : Int → Int} (h1 : h t = some (.inr (1, [.ref ca, zv len]))) (h2 : h ca = some (zA 1 40 f)) (hl : 0 ≤ len ∧ len ≤ 40) (hf : ∀ i, 0 ≤ i → i < len → 0 ≤ f i ∧ f i < 65536) {c : Int} (hc : 0 ≤ c ∧ c < 65536) : zz_Ct X mm_26 d 0 0 [.ref t, zv c] n h (zp (some (zv (if sp_find (tx_at len f) c len.toNat 0 < len then 1 else 0))) n h) := by
  refine zz_start (by decide) (ls := [some (.ref t), some (zv c)]) rfl ?_
  have hge := sp_find_ge (tx_at len f) c len.toNat 0
  have h0 : (len - 0).toNat = len.toNat := by omega
  refine zi_aload_n dk_26_0 rfl rfl ?_
  refine zj_iload_n dk_26_1 rfl ?_
  refine zj_iconst dk_26_2 ?_
  refine zi_aload_n dk_26_3 rfl rfl ?_
  refine zi_getf dk_26_4 fl_1_19 (by first | assumption | exact zz_up_eq _ _ _ | omega | exact Ne.symm (by assumption) | (refine (zz_up_ne ?_).trans ?_ <;> first | assumption | exact zz_up_eq _ _ _ | omega | exact Ne.symm (by assumption) | (refine (zz_up_ne ?_).trans ?_ <;> first | assumption | exact zz_up_eq _ _ _ | omega | exact Ne.symm (by assumption) | (refine (zz_up_ne ?_).trans ?_ <;> first | assumption | exact zz_up_eq _ _ _ | omega | exact Ne.symm (by assumption))))) rfl ?_
  refine zi_invV dk_26_7 ml_1_27 iv_27 (ct_27 (d := d - 1) (by omega) h1 h2 hl hf hc (by omega)) (by first | assumption | exact zz_up_eq _ _ _ | omega | exact Ne.symm (by assumption) | (refine (zz_up_ne ?_).trans ?_ <;> first | assumption | exact zz_up_eq _ _ _ | omega | exact Ne.symm (by assumption) | (refine (zz_up_ne ?_).trans ?_ <;> first | assumption | exact zz_up_eq _ _ _ | omega | exact Ne.symm (by assumption) | (refine (zz_up_ne ?_).trans ?_ <;> first | assumption | exact zz_up_eq _ _ _ | omega | exact Ne.symm (by assumption))))) rfl rfl rfl (Nat.le_of_ble_eq_true rfl) (by omega) rfl rfl (fun r n' h' hq => ?_)
  obtain ⟨rfl, rfl, rfl⟩ := hq
  rw [h0]
  refine zi_aload_n dk_26_10 rfl rfl ?_
  refine zi_getf dk_26_11 fl_1_19 (by first | assumption | exact zz_up_eq _ _ _ | omega | exact Ne.symm (by assumption) | (refine (zz_up_ne ?_).trans ?_ <;> first | assumption | exact zz_up_eq _ _ _ | omega | exact Ne.symm (by assumption) | (refine (zz_up_ne ?_).trans ?_ <;> first | assumption | exact zz_up_eq _ _ _ | omega | exact Ne.symm (by assumption) | (refine (zz_up_ne ?_).trans ?_ <;> first | assumption | exact zz_up_eq _ _ _ | omega | exact Ne.symm (by assumption))))) rfl ?_
  refine zj_icmp_ge (t := 21) dk_26_14 rfl (by omega) (fun c14 => ?_) (fun c14 => ?_)
  · skip
    refine zj_iconst dk_26_21 ?_
    refine zj_zreturn dk_26_22 rfl (by omega) ⟨by first | rw [if_pos (by omega)] | rw [if_neg (by omega)], rfl, rfl⟩
  · skip
    refine zj_iconst dk_26_17 ?_
    refine zi_goto (t := 22) dk_26_18 rfl ?_
    refine zj_zreturn dk_26_22 rfl (by omega) ⟨by first | rw [if_pos (by omega)] | rw [if_neg (by omega)], rfl, rfl⟩

theorem tx_rg {len : Int} {f : Int → Int} (hf : ∀ i, 0 ≤ i → i < len → 0 ≤ f i ∧ f i < 65536) (i : Int) : 0 ≤ tx_at len f i ∧ tx_at len f i < 65536 := by
  unfold tx_at
  split
  · exact hf i (by omega) (by omega)
  · omega
theorem ct_28 {X : zz_X} {d n : Nat} {h : zz_H} (hd : 1 ≤ d) {t ca : Nat} {len : Int} {f : Int → Int} (h1 : h t = some (.inr (1, [.ref ca, zv len]))) (h2 : h ca = some (zA 1 40 f)) (hl : 0 ≤ len ∧ len ≤ 40) (hf : ∀ i, 0 ≤ i → i < len → 0 ≤ f i ∧ f i < 65536) {i : Int} (hi : -2147483648 ≤ i ∧ i < 2147483648) : zz_Ct X mm_28 d 0 0 [.ref t, zv i] n h (zp (some (zv (if i = len ∨ tx_at len f i = 47 then 1 else 0))) n h) := by
  refine zz_start (by decide) (ls := [some (.ref t), some (zv i)]) rfl ?_
  have hat := tx_rg hf i
  refine zj_iload_n dk_28_0 rfl ?_
  refine zi_aload_n dk_28_1 rfl rfl ?_
  refine zi_getf dk_28_2 fl_1_19 (by first | assumption | exact zz_up_eq _ _ _ | omega | exact Ne.symm (by assumption) | (refine (zz_up_ne ?_).trans ?_ <;> first | assumption | exact zz_up_eq _ _ _ | omega | exact Ne.symm (by assumption) | (refine (zz_up_ne ?_).trans ?_ <;> first | assumption | exact zz_up_eq _ _ _ | omega | exact Ne.symm (by assumption) | (refine (zz_up_ne ?_).trans ?_ <;> first | assumption | exact zz_up_eq _ _ _ | omega | exact Ne.symm (by assumption))))) rfl ?_
  refine zj_icmp_eq (t := 18) dk_28_5 rfl (by omega) (fun c5 => ?_) (fun c5 => ?_)
  · skip
    refine zj_iconst dk_28_18 ?_
    refine zi_goto (t := 23) dk_28_19 rfl ?_
    refine zj_zreturn dk_28_23 rfl (by omega) ⟨by first | rw [if_pos (by omega)] | rw [if_neg (by omega)], rfl, rfl⟩
  · skip
    refine zi_aload_n dk_28_8 rfl rfl ?_
    refine zj_iload_n dk_28_9 rfl ?_
    refine zi_invV dk_28_10 ml_1_23 iv_25 (ct_25 (d := d - 1) h1 h2 hl hf (by omega)) (by first | assumption | exact zz_up_eq _ _ _ | omega | exact Ne.symm (by assumption) | (refine (zz_up_ne ?_).trans ?_ <;> first | assumption | exact zz_up_eq _ _ _ | omega | exact Ne.symm (by assumption) | (refine (zz_up_ne ?_).trans ?_ <;> first | assumption | exact zz_up_eq _ _ _ | omega | exact Ne.symm (by assumption) | (refine (zz_up_ne ?_).trans ?_ <;> first | assumption | exact zz_up_eq _ _ _ | omega | exact Ne.symm (by assumption))))) rfl rfl rfl (Nat.le_of_ble_eq_true rfl) (by omega) rfl rfl (fun r n' h' hq => ?_)
    obtain ⟨rfl, rfl, rfl⟩ := hq
    refine zj_bipush dk_28_13 (by decide) ?_
    refine zj_icmp_ne (t := 22) dk_28_15 rfl (by omega) (fun c15 => ?_) (fun c15 => ?_)
    · skip
      refine zj_iconst dk_28_22 ?_
      refine zj_zreturn dk_28_23 rfl (by omega) ⟨by first | rw [if_pos (by omega)] | rw [if_neg (by omega)], rfl, rfl⟩
    · skip
      refine zj_iconst dk_28_18 ?_
      refine zi_goto (t := 23) dk_28_19 rfl ?_
      refine zj_zreturn dk_28_23 rfl (by omega) ⟨by first | rw [if_pos (by omega)] | rw [if_neg (by omega)], rfl, rfl⟩
end
section
/-! the library: lists -/
theorem zz_ne2 {h : zz_H} {a b kd N : Nat} {x : Nat × List Value} {g : Nat → Option Nat} (h1 : h a = some (.inr x)) (h2 : h b = some (zQ kd N g)) : a ≠ b := fun e => by
  unfold zQ at h2
  rw [e, h2] at h1
  cases h1
theorem ct_59 {X : zz_X} {d n : Nat} {h : zz_H} {i m : Int} (hi : 0 ≤ i ∧ i < m) (hm : m < 2147483648) : zz_Ct X mm_59 d 0 0 [zv i, zv m, .null] n h (zp (some (zv i)) n h) := by
  refine zz_start (by decide) (ls := [some (zv i), some (zv m), some (.null)]) rfl ?_
  refine zj_iload_n dk_59_0 rfl ?_
  refine zj_if_lt (t := 9) dk_59_1 rfl (by omega) (fun c1 => ?_) (fun c1 => ?_)
  · omega
  · skip
    refine zj_iload_n dk_59_4 rfl ?_
    refine zj_iload_n dk_59_5 rfl ?_
    refine zj_icmp_lt (t := 16) dk_59_6 rfl (by omega) (fun c6 => ?_) (fun c6 => ?_)
    · skip
      refine zj_iload_n dk_59_16 rfl ?_
      refine zj_ireturn dk_59_17 rfl ⟨rfl, rfl, rfl⟩
    · omega

theorem ct_58 {X : zz_X} {d n : Nat} {h : zz_H} (hd : 1 ≤ d) {i m : Int} (hi : 0 ≤ i ∧ i < m) (hm : m < 2147483648) : zz_Ct X mm_58 d 0 0 [zv i, zv m] n h (zp (some (zv i)) n h) := by
  refine zz_start (by decide) (ls := [some (zv i), some (zv m)]) rfl ?_
  refine zj_iload_n dk_58_0 rfl ?_
  refine zj_iload_n dk_58_1 rfl ?_
  refine zi_null dk_58_2 ?_
  refine zi_invS dk_58_3 ml_java_util_Objects_105 is_59 (ct_59 (d := d - 1) hi hm) rfl rfl (Nat.le_of_ble_eq_true rfl) (by omega) rfl rfl (fun r n' h' hq => ?_)
  obtain ⟨rfl, rfl, rfl⟩ := hq
  refine zj_ireturn dk_58_6 rfl ⟨rfl, rfl, rfl⟩

theorem ct_60 {X : zz_X} {d n : Nat} {h : zz_H} {a ea N : Nat} {f : Nat → Option Nat} {sz mc : Int} (h1 : h a = some (.inr (12, [.ref ea, zv sz, zv mc]))) (h2 : h ea = some (zQ 3 N f)) {i : Int} {v : Nat} (hi : 0 ≤ i ∧ i < (N : Int) ∧ N < 2147483648) (hv : f i.toNat = some v) : zz_Ct X mm_60 d 0 0 [.ref a, zv i] n h (zp (some (.ref v)) n h) := by
  refine zz_start (by decide) (ls := [some (.ref a), some (zv i)]) rfl ?_
  refine zi_aload_n dk_60_0 rfl rfl ?_
  refine zi_getf dk_60_1 fl_12_9 (by first | assumption | exact zz_up_eq _ _ _ | omega | exact Ne.symm (by assumption) | (refine (zz_up_ne ?_).trans ?_ <;> first | assumption | exact zz_up_eq _ _ _ | omega | exact Ne.symm (by assumption) | (refine (zz_up_ne ?_).trans ?_ <;> first | assumption | exact zz_up_eq _ _ _ | omega | exact Ne.symm (by assumption) | (refine (zz_up_ne ?_).trans ?_ <;> first | assumption | exact zz_up_eq _ _ _ | omega | exact Ne.symm (by assumption))))) rfl ?_
  refine zj_iload_n dk_60_4 rfl ?_
  refine zj_aald dk_60_5 h2 (by omega) (by rw [hv]; try rfl) ?_
  refine zi_areturn dk_60_6 rfl (Or.inl ⟨_, rfl⟩) rfl ⟨rfl, rfl, rfl⟩

theorem ct_57 {X : zz_X} {d n : Nat} {h : zz_H} (hd : 2 ≤ d) {a ea N : Nat} {f : Nat → Option Nat} {sz mc : Int} (h1 : h a = some (.inr (12, [.ref ea, zv sz, zv mc]))) (h2 : h ea = some (zQ 3 N f)) {i : Int} {v : Nat} (hi : 0 ≤ i ∧ i < sz ∧ sz ≤ (N : Int) ∧ N < 2147483648) (hv : f i.toNat = some v) : zz_Ct X mm_57 d 0 0 [.ref a, zv i] n h (zp (some (.ref v)) n h) := by
  refine zz_start (by decide) (ls := [some (.ref a), some (zv i)]) rfl ?_
  refine zj_iload_n dk_57_0 rfl ?_
  refine zi_aload_n dk_57_1 rfl rfl ?_
  refine zi_getf dk_57_2 fl_12_48 (by first | assumption | exact zz_up_eq _ _ _ | omega | exact Ne.symm (by assumption) | (refine (zz_up_ne ?_).trans ?_ <;> first | assumption | exact zz_up_eq _ _ _ | omega | exact Ne.symm (by assumption) | (refine (zz_up_ne ?_).trans ?_ <;> first | assumption | exact zz_up_eq _ _ _ | omega | exact Ne.symm (by assumption) | (refine (zz_up_ne ?_).trans ?_ <;> first | assumption | exact zz_up_eq _ _ _ | omega | exact Ne.symm (by assumption))))) rfl ?_
  refine zi_invS dk_57_5 ml_12_118 is_58 (ct_58 (d := d - 1) (by omega) (by omega) (by omega)) rfl rfl (Nat.le_of_ble_eq_true rfl) (by omega) rfl rfl (fun r n' h' hq => ?_)
  obtain ⟨rfl, rfl, rfl⟩ := hq
  refine zi_pop dk_57_8 rfl ?_
  refine zi_aload_n dk_57_9 rfl rfl ?_
  refine zj_iload_n dk_57_10 rfl ?_
  refine zi_invV dk_57_11 ml_12_123 iv_60 (ct_60 (d := d - 1) h1 h2 (by omega) hv) (by first | assumption | exact zz_up_eq _ _ _ | omega | exact Ne.symm (by assumption) | (refine (zz_up_ne ?_).trans ?_ <;> first | assumption | exact zz_up_eq _ _ _ | omega | exact Ne.symm (by assumption) | (refine (zz_up_ne ?_).trans ?_ <;> first | assumption | exact zz_up_eq _ _ _ | omega | exact Ne.symm (by assumption) | (refine (zz_up_ne ?_).trans ?_ <;> first | assumption | exact zz_up_eq _ _ _ | omega | exact Ne.symm (by assumption))))) rfl rfl rfl (Nat.le_of_ble_eq_true rfl) (by omega) rfl rfl (fun r n' h' hq => ?_)
  obtain ⟨rfl, rfl, rfl⟩ := hq
  refine zi_areturn dk_57_14 rfl (Or.inl ⟨_, rfl⟩) rfl ⟨rfl, rfl, rfl⟩

theorem ct_23 {X : zz_X} {d n : Nat} {h : zz_H} {a ea N : Nat} {f : Nat → Option Nat} {sz mc : Int} (h1 : h a = some (.inr (12, [.ref ea, zv sz, zv mc]))) : zz_Ct X mm_23 d 0 0 [.ref a] n h (zp (some (zv sz)) n h) := by
  refine zz_start (by decide) (ls := [some (.ref a)]) rfl ?_
  refine zi_aload_n dk_23_0 rfl rfl ?_
  refine zi_getf dk_23_1 fl_12_48 (by first | assumption | exact zz_up_eq _ _ _ | omega | exact Ne.symm (by assumption) | (refine (zz_up_ne ?_).trans ?_ <;> first | assumption | exact zz_up_eq _ _ _ | omega | exact Ne.symm (by assumption) | (refine (zz_up_ne ?_).trans ?_ <;> first | assumption | exact zz_up_eq _ _ _ | omega | exact Ne.symm (by assumption) | (refine (zz_up_ne ?_).trans ?_ <;> first | assumption | exact zz_up_eq _ _ _ | omega | exact Ne.symm (by assumption))))) rfl ?_
  refine zj_ireturn dk_23_4 rfl ⟨rfl, rfl, rfl⟩

theorem ct_10 {X : zz_X} {d n : Nat} {h : zz_H} (hd : 1 ≤ d) {a : Nat} : zz_Ct X mm_10 d 0 0 [.ref a] n h (zp none n h) := by
  refine zz_start (by decide) (ls := [some (.ref a)]) rfl ?_
  refine zi_aload_n dk_10_0 rfl rfl ?_
  refine zi_objI dk_10_1 zw_144 zo_i zo_c (Nat.le_of_ble_eq_true rfl) (by omega) ?_
  refine zi_return dk_10_4 rfl ⟨rfl, rfl, rfl⟩

theorem ct_9 {X : zz_X} {d n : Nat} {h : zz_H} (hd : 2 ≤ d) {a : Nat} {v w u : Value} (h1 : h a = some (.inr (12, [v, w, u]))) : zz_Ct X mm_9 d 0 0 [.ref a] n h (zp none n (zz_up h a (.inr (12, [v, w, zv 0])))) := by
  refine zz_start (by decide) (ls := [some (.ref a)]) rfl ?_
  refine zi_aload_n dk_9_0 rfl rfl ?_
  refine zi_invI dk_9_1 ml_java_util_AbstractList_1 ii_10 (ct_10 (d := d - 1) (by omega)) rfl rfl (Nat.le_of_ble_eq_true rfl) (by omega) rfl rfl (fun r n' h' hq => ?_)
  obtain ⟨rfl, rfl, rfl⟩ := hq
  refine zi_aload_n dk_9_4 rfl rfl ?_
  refine zj_iconst dk_9_5 ?_
  refine zj_putI dk_9_6 fp_9_7 (by first | assumption | exact zz_up_eq _ _ _ | omega | exact Ne.symm (by assumption) | (refine (zz_up_ne ?_).trans ?_ <;> first | assumption | exact zz_up_eq _ _ _ | omega | exact Ne.symm (by assumption) | (refine (zz_up_ne ?_).trans ?_ <;> first | assumption | exact zz_up_eq _ _ _ | omega | exact Ne.symm (by assumption) | (refine (zz_up_ne ?_).trans ?_ <;> first | assumption | exact zz_up_eq _ _ _ | omega | exact Ne.symm (by assumption))))) rfl ?_
  refine zi_return dk_9_9 rfl ⟨rfl, rfl, rfl⟩

theorem ct_8 {X : zz_X} {d n : Nat} {h : zz_H} (hd : 3 ≤ d) {a : Nat} {v w u : Value} (h1 : h a = some (.inr (12, [v, w, u]))) : zz_Ct X mm_8 d 0 0 [.ref a] n h (zp none n (zz_up h a (.inr (12, [.ref (zz_e X), w, zv 0])))) := by
  refine zz_start (by decide) (ls := [some (.ref a)]) rfl ?_
  refine zi_aload_n dk_8_0 rfl rfl ?_
  refine zi_invI dk_8_1 ml_12_1 ii_9 (ct_9 (d := d - 1) (by omega) h1) rfl rfl (Nat.le_of_ble_eq_true rfl) (by omega) rfl rfl (fun r n' h' hq => ?_)
  obtain ⟨rfl, rfl, rfl⟩ := hq
  refine zi_aload_n dk_8_4 rfl rfl ?_
  refine zi_gets dk_8_5 zw_145 ?_
  refine zj_putR dk_8_8 fp_8_9 (by first | assumption | exact zz_up_eq _ _ _ | omega | exact Ne.symm (by assumption) | (refine (zz_up_ne ?_).trans ?_ <;> first | assumption | exact zz_up_eq _ _ _ | omega | exact Ne.symm (by assumption) | (refine (zz_up_ne ?_).trans ?_ <;> first | assumption | exact zz_up_eq _ _ _ | omega | exact Ne.symm (by assumption) | (refine (zz_up_ne ?_).trans ?_ <;> first | assumption | exact zz_up_eq _ _ _ | omega | exact Ne.symm (by assumption))))) rfl ?_
  refine zi_return dk_8_11 rfl ⟨rfl, rfl, zz_up_up _ _ _ _⟩

theorem ct_37 {X : zz_X} {d n : Nat} {h : zz_H} (hd : 1 ≤ d) {a b c : Int} (ha : 0 ≤ a ∧ 0 < b ∧ b ≤ c ∧ a ≤ 1000 ∧ c ≤ 1000) : zz_Ct X mm_37 d 0 0 [zv a, zv b, zv c] n h (zp (some (zv (a + c))) n h) := by
  refine zz_start (by decide) (ls := [some (zv a), some (zv b), some (zv c), none]) rfl ?_
  refine zj_iload_n dk_37_0 rfl ?_
  refine zj_iload_n dk_37_1 rfl ?_
  refine zj_iload_n dk_37_2 rfl ?_
  refine zj_mmax dk_37_3 zw_346 (by omega) (Nat.le_of_ble_eq_true rfl) (by omega) ?_
  rw [show (if b < c then c else b) = c by split <;> omega]
  refine zj_iadd dk_37_6 ?_
  refine zj_istore_n dk_37_7 rfl ?_
  refine zj_iconst dk_37_8 ?_
  refine zj_iload_n dk_37_9 rfl ?_
  refine zj_icmp_ge (t := 21) dk_37_10 rfl (by omega) (fun c10 => ?_) (fun c10 => ?_)
  · omega
  · skip
    refine zj_iload_n dk_37_13 rfl ?_
    refine zj_ldc (z := 2147483639) dk_37_14 zw_349 rfl ?_
    refine zj_icmp_gt (t := 21) dk_37_16 rfl (by omega) (fun c16 => ?_) (fun c16 => ?_)
    · omega
    · skip
      refine zj_iload_n dk_37_19 rfl ?_
      refine zj_ireturn dk_37_20 rfl ⟨rfl, rfl, rfl⟩
end
