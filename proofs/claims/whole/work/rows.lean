section
-- ===== PART A: goes FIRST, ahead of the names: the tables' words, and 'selects' of the private methods out of them =====
/-- a private method of a class that the tables say can be made, by its rows of tables_1 -/
def lw_okq (q : MethodName × Nat) : Prop := (q.1.cls ≠ "java/lang/invoke/MethodHandle" ∧ q.1.cls ≠ "java/lang/invoke/VarHandle") ∧ Cond.instantiable q.1.cls q.2 ∈ tables_1 ∧ Cond.privateMethod q.1 ∈ tables_1 ∧ Cond.instanceMethod q.1 ∈ tables_1
theorem lw_p0 : lw_okq (⟨"CousinsByAgreement", "refuse", "(I)I"⟩, 15) := ⟨⟨by decide +kernel, by decide +kernel⟩, List.mem_of_getElem? (i := 19) (by decide +kernel), List.mem_of_getElem? (i := 218) (by decide +kernel), List.mem_of_getElem? (i := 219) (by decide +kernel)⟩
theorem lw_p1 : lw_okq (⟨"CousinsByAgreement$Letters", "lengthFrom", "(I)I"⟩, 2) := ⟨⟨by decide +kernel, by decide +kernel⟩, List.mem_of_getElem? (i := 68) (by decide +kernel), List.mem_of_getElem? (i := 235) (by decide +kernel), List.mem_of_getElem? (i := 236) (by decide +kernel)⟩
theorem lw_p2 : lw_okq (⟨"CousinsByAgreement$Letters", "at", "(I)I"⟩, 2) := ⟨⟨by decide +kernel, by decide +kernel⟩, List.mem_of_getElem? (i := 68) (by decide +kernel), List.mem_of_getElem? (i := 239) (by decide +kernel), List.mem_of_getElem? (i := 240) (by decide +kernel)⟩
theorem lw_p3 : lw_okq (⟨"CousinsByAgreement$Letters", "badWithin", "(II)I"⟩, 2) := ⟨⟨by decide +kernel, by decide +kernel⟩, List.mem_of_getElem? (i := 68) (by decide +kernel), List.mem_of_getElem? (i := 243) (by decide +kernel), List.mem_of_getElem? (i := 244) (by decide +kernel)⟩
theorem lw_p4 : lw_okq (⟨"CousinsByAgreement$Letters", "kindAt", "(I)I"⟩, 2) := ⟨⟨by decide +kernel, by decide +kernel⟩, List.mem_of_getElem? (i := 68) (by decide +kernel), List.mem_of_getElem? (i := 247) (by decide +kernel), List.mem_of_getElem? (i := 248) (by decide +kernel)⟩
theorem lw_p5 : lw_okq (⟨"CousinsByAgreement$Letters", "tellOne", "(LCousinsByAgreement$County;I)Z"⟩, 2) := ⟨⟨by decide +kernel, by decide +kernel⟩, List.mem_of_getElem? (i := 68) (by decide +kernel), List.mem_of_getElem? (i := 352) (by decide +kernel), List.mem_of_getElem? (i := 353) (by decide +kernel)⟩
theorem lw_p6 : lw_okq (⟨"CousinsByAgreement$Letters", "digitAt", "(I)I"⟩, 2) := ⟨⟨by decide +kernel, by decide +kernel⟩, List.mem_of_getElem? (i := 68) (by decide +kernel), List.mem_of_getElem? (i := 356) (by decide +kernel), List.mem_of_getElem? (i := 357) (by decide +kernel)⟩
theorem lw_p7 : lw_okq (⟨"CousinsByAgreement$Letters", "numberAt", "(I)I"⟩, 2) := ⟨⟨by decide +kernel, by decide +kernel⟩, List.mem_of_getElem? (i := 68) (by decide +kernel), List.mem_of_getElem? (i := 360) (by decide +kernel), List.mem_of_getElem? (i := 361) (by decide +kernel)⟩
theorem lw_p8 : lw_okq (⟨"CousinsByAgreement$County", "pay", "(II)V"⟩, 7) := ⟨⟨by decide +kernel, by decide +kernel⟩, List.mem_of_getElem? (i := 27) (by decide +kernel), List.mem_of_getElem? (i := 430) (by decide +kernel), List.mem_of_getElem? (i := 431) (by decide +kernel)⟩
theorem lw_p9 : lw_okq (⟨"CousinsByAgreement", "nobody", "(I)I"⟩, 15) := ⟨⟨by decide +kernel, by decide +kernel⟩, List.mem_of_getElem? (i := 19) (by decide +kernel), List.mem_of_getElem? (i := 448) (by decide +kernel), List.mem_of_getElem? (i := 449) (by decide +kernel)⟩
theorem lw_p10 : lw_okq (⟨"CousinsByAgreement", "notTwo", "(II)I"⟩, 15) := ⟨⟨by decide +kernel, by decide +kernel⟩, List.mem_of_getElem? (i := 19) (by decide +kernel), List.mem_of_getElem? (i := 467) (by decide +kernel), List.mem_of_getElem? (i := 468) (by decide +kernel)⟩
theorem lw_p11 : lw_okq (⟨"CousinsByAgreement", "thinkAhead", "(I)V"⟩, 15) := ⟨⟨by decide +kernel, by decide +kernel⟩, List.mem_of_getElem? (i := 19) (by decide +kernel), List.mem_of_getElem? (i := 514) (by decide +kernel), List.mem_of_getElem? (i := 515) (by decide +kernel)⟩
theorem lw_p12 : lw_okq (⟨"CousinsByAgreement", "steadyAfter", "()I"⟩, 15) := ⟨⟨by decide +kernel, by decide +kernel⟩, List.mem_of_getElem? (i := 19) (by decide +kernel), List.mem_of_getElem? (i := 535) (by decide +kernel), List.mem_of_getElem? (i := 536) (by decide +kernel)⟩
theorem lw_p13 : lw_okq (⟨"CousinsByAgreement", "firstRuin", "(I)I"⟩, 15) := ⟨⟨by decide +kernel, by decide +kernel⟩, List.mem_of_getElem? (i := 19) (by decide +kernel), List.mem_of_getElem? (i := 543) (by decide +kernel), List.mem_of_getElem? (i := 544) (by decide +kernel)⟩
theorem lw_p14 : lw_okq (⟨"CousinsByAgreement$Ties", "spread", "(I)I"⟩, 2) := ⟨⟨by decide +kernel, by decide +kernel⟩, List.mem_of_getElem? (i := 82) (by decide +kernel), List.mem_of_getElem? (i := 564) (by decide +kernel), List.mem_of_getElem? (i := 565) (by decide +kernel)⟩
theorem lw_p15 : lw_okq (⟨"CousinsByAgreement$Ties", "isClan", "(I)Z"⟩, 2) := ⟨⟨by decide +kernel, by decide +kernel⟩, List.mem_of_getElem? (i := 82) (by decide +kernel), List.mem_of_getElem? (i := 608) (by decide +kernel), List.mem_of_getElem? (i := 609) (by decide +kernel)⟩
def lw_privs_1 : List (MethodName × Nat) := [(⟨"CousinsByAgreement", "refuse", "(I)I"⟩, 15), (⟨"CousinsByAgreement$Letters", "lengthFrom", "(I)I"⟩, 2), (⟨"CousinsByAgreement$Letters", "at", "(I)I"⟩, 2), (⟨"CousinsByAgreement$Letters", "badWithin", "(II)I"⟩, 2), (⟨"CousinsByAgreement$Letters", "kindAt", "(I)I"⟩, 2), (⟨"CousinsByAgreement$Letters", "tellOne", "(LCousinsByAgreement$County;I)Z"⟩, 2), (⟨"CousinsByAgreement$Letters", "digitAt", "(I)I"⟩, 2), (⟨"CousinsByAgreement$Letters", "numberAt", "(I)I"⟩, 2), (⟨"CousinsByAgreement$County", "pay", "(II)V"⟩, 7), (⟨"CousinsByAgreement", "nobody", "(I)I"⟩, 15), (⟨"CousinsByAgreement", "notTwo", "(II)I"⟩, 15), (⟨"CousinsByAgreement", "thinkAhead", "(I)V"⟩, 15), (⟨"CousinsByAgreement", "steadyAfter", "()I"⟩, 15), (⟨"CousinsByAgreement", "firstRuin", "(I)I"⟩, 15), (⟨"CousinsByAgreement$Ties", "spread", "(I)I"⟩, 2), (⟨"CousinsByAgreement$Ties", "isClan", "(I)Z"⟩, 2)]
theorem lw_r1 : ∀ q ∈ lw_privs_1, lw_okq q := List.forall_mem_cons.mpr ⟨lw_p0, List.forall_mem_cons.mpr ⟨lw_p1, List.forall_mem_cons.mpr ⟨lw_p2, List.forall_mem_cons.mpr ⟨lw_p3, List.forall_mem_cons.mpr ⟨lw_p4, List.forall_mem_cons.mpr ⟨lw_p5, List.forall_mem_cons.mpr ⟨lw_p6, List.forall_mem_cons.mpr ⟨lw_p7, List.forall_mem_cons.mpr ⟨lw_p8, List.forall_mem_cons.mpr ⟨lw_p9, List.forall_mem_cons.mpr ⟨lw_p10, List.forall_mem_cons.mpr ⟨lw_p11, List.forall_mem_cons.mpr ⟨lw_p12, List.forall_mem_cons.mpr ⟨lw_p13, List.forall_mem_cons.mpr ⟨lw_p14, List.forall_mem_cons.mpr ⟨lw_p15, fun _ h => absurd h List.not_mem_nil⟩⟩⟩⟩⟩⟩⟩⟩⟩⟩⟩⟩⟩⟩⟩⟩
theorem lw_p16 : lw_okq (⟨"CousinsByAgreement", "bestChange", "(III)I"⟩, 15) := ⟨⟨by decide +kernel, by decide +kernel⟩, List.mem_of_getElem? (i := 19) (by decide +kernel), List.mem_of_getElem? (i := 616) (by decide +kernel), List.mem_of_getElem? (i := 617) (by decide +kernel)⟩
theorem lw_p17 : lw_okq (⟨"CousinsByAgreement", "mayChange", "(III)Z"⟩, 15) := ⟨⟨by decide +kernel, by decide +kernel⟩, List.mem_of_getElem? (i := 19) (by decide +kernel), List.mem_of_getElem? (i := 620) (by decide +kernel), List.mem_of_getElem? (i := 621) (by decide +kernel)⟩
theorem lw_p18 : lw_okq (⟨"CousinsByAgreement", "makeChange", "(III)V"⟩, 15) := ⟨⟨by decide +kernel, by decide +kernel⟩, List.mem_of_getElem? (i := 19) (by decide +kernel), List.mem_of_getElem? (i := 624) (by decide +kernel), List.mem_of_getElem? (i := 625) (by decide +kernel)⟩
theorem lw_p19 : lw_okq (⟨"CousinsByAgreement$County", "changeIn", "([III)V"⟩, 7) := ⟨⟨by decide +kernel, by decide +kernel⟩, List.mem_of_getElem? (i := 27) (by decide +kernel), List.mem_of_getElem? (i := 632) (by decide +kernel), List.mem_of_getElem? (i := 633) (by decide +kernel)⟩
theorem lw_p20 : lw_okq (⟨"CousinsByAgreement", "wealthWithFeud", "(IIZI)I"⟩, 15) := ⟨⟨by decide +kernel, by decide +kernel⟩, List.mem_of_getElem? (i := 19) (by decide +kernel), List.mem_of_getElem? (i := 646) (by decide +kernel), List.mem_of_getElem? (i := 647) (by decide +kernel)⟩
theorem lw_p21 : lw_okq (⟨"CousinsByAgreement$Seats", "seatFrom", "(III)Z"⟩, 3) := ⟨⟨by decide +kernel, by decide +kernel⟩, List.mem_of_getElem? (i := 95) (by decide +kernel), List.mem_of_getElem? (i := 672) (by decide +kernel), List.mem_of_getElem? (i := 673) (by decide +kernel)⟩
theorem lw_p22 : lw_okq (⟨"CousinsByAgreement$Pairs", "mostOf", "(I)I"⟩, 4) := ⟨⟨by decide +kernel, by decide +kernel⟩, List.mem_of_getElem? (i := 111) (by decide +kernel), List.mem_of_getElem? (i := 697) (by decide +kernel), List.mem_of_getElem? (i := 698) (by decide +kernel)⟩
theorem lw_p23 : lw_okq (⟨"CousinsByAgreement$Pairs", "leastIn", "(I)I"⟩, 4) := ⟨⟨by decide +kernel, by decide +kernel⟩, List.mem_of_getElem? (i := 111) (by decide +kernel), List.mem_of_getElem? (i := 701) (by decide +kernel), List.mem_of_getElem? (i := 702) (by decide +kernel)⟩
theorem lw_p24 : lw_okq (⟨"CousinsByAgreement$Pairs", "choose", "(I)V"⟩, 4) := ⟨⟨by decide +kernel, by decide +kernel⟩, List.mem_of_getElem? (i := 111) (by decide +kernel), List.mem_of_getElem? (i := 707) (by decide +kernel), List.mem_of_getElem? (i := 708) (by decide +kernel)⟩
theorem lw_p25 : lw_okq (⟨"CousinsByAgreement$Pairs", "leastPartner", "(II)I"⟩, 4) := ⟨⟨by decide +kernel, by decide +kernel⟩, List.mem_of_getElem? (i := 111) (by decide +kernel), List.mem_of_getElem? (i := 712) (by decide +kernel), List.mem_of_getElem? (i := 713) (by decide +kernel)⟩
theorem lw_p26 : lw_okq (⟨"CousinsByAgreement$Odds", "waysFrom", "(I)J"⟩, 6) := ⟨⟨by decide +kernel, by decide +kernel⟩, List.mem_of_getElem? (i := 130) (by decide +kernel), List.mem_of_getElem? (i := 746) (by decide +kernel), List.mem_of_getElem? (i := 747) (by decide +kernel)⟩
theorem lw_p27 : lw_okq (⟨"CousinsByAgreement", "goesAsTold", "(I)Z"⟩, 15) := ⟨⟨by decide +kernel, by decide +kernel⟩, List.mem_of_getElem? (i := 19) (by decide +kernel), List.mem_of_getElem? (i := 774) (by decide +kernel), List.mem_of_getElem? (i := 775) (by decide +kernel)⟩
theorem lw_p28 : lw_okq (⟨"CousinsByAgreement", "drawSignings", "(I)I"⟩, 15) := ⟨⟨by decide +kernel, by decide +kernel⟩, List.mem_of_getElem? (i := 19) (by decide +kernel), List.mem_of_getElem? (i := 794) (by decide +kernel), List.mem_of_getElem? (i := 795) (by decide +kernel)⟩
theorem lw_p29 : lw_okq (⟨"CousinsByAgreementModel", "no", "(I)I"⟩, 28) := ⟨⟨by decide +kernel, by decide +kernel⟩, List.mem_of_getElem? (i := 821) (by decide +kernel), List.mem_of_getElem? (i := 919) (by decide +kernel), List.mem_of_getElem? (i := 920) (by decide +kernel)⟩
theorem lw_p30 : lw_okq (⟨"CousinsByAgreementModel", "statement", "()Z"⟩, 28) := ⟨⟨by decide +kernel, by decide +kernel⟩, List.mem_of_getElem? (i := 821) (by decide +kernel), List.mem_of_getElem? (i := 927) (by decide +kernel), List.mem_of_getElem? (i := 928) (by decide +kernel)⟩
theorem lw_p31 : lw_okq (⟨"CousinsByAgreementModel", "next", "()I"⟩, 28) := ⟨⟨by decide +kernel, by decide +kernel⟩, List.mem_of_getElem? (i := 821) (by decide +kernel), List.mem_of_getElem? (i := 931) (by decide +kernel), List.mem_of_getElem? (i := 932) (by decide +kernel)⟩
def lw_privs_2 : List (MethodName × Nat) := [(⟨"CousinsByAgreement", "bestChange", "(III)I"⟩, 15), (⟨"CousinsByAgreement", "mayChange", "(III)Z"⟩, 15), (⟨"CousinsByAgreement", "makeChange", "(III)V"⟩, 15), (⟨"CousinsByAgreement$County", "changeIn", "([III)V"⟩, 7), (⟨"CousinsByAgreement", "wealthWithFeud", "(IIZI)I"⟩, 15), (⟨"CousinsByAgreement$Seats", "seatFrom", "(III)Z"⟩, 3), (⟨"CousinsByAgreement$Pairs", "mostOf", "(I)I"⟩, 4), (⟨"CousinsByAgreement$Pairs", "leastIn", "(I)I"⟩, 4), (⟨"CousinsByAgreement$Pairs", "choose", "(I)V"⟩, 4), (⟨"CousinsByAgreement$Pairs", "leastPartner", "(II)I"⟩, 4), (⟨"CousinsByAgreement$Odds", "waysFrom", "(I)J"⟩, 6), (⟨"CousinsByAgreement", "goesAsTold", "(I)Z"⟩, 15), (⟨"CousinsByAgreement", "drawSignings", "(I)I"⟩, 15), (⟨"CousinsByAgreementModel", "no", "(I)I"⟩, 28), (⟨"CousinsByAgreementModel", "statement", "()Z"⟩, 28), (⟨"CousinsByAgreementModel", "next", "()I"⟩, 28)]
theorem lw_r2 : ∀ q ∈ lw_privs_2, lw_okq q := List.forall_mem_cons.mpr ⟨lw_p16, List.forall_mem_cons.mpr ⟨lw_p17, List.forall_mem_cons.mpr ⟨lw_p18, List.forall_mem_cons.mpr ⟨lw_p19, List.forall_mem_cons.mpr ⟨lw_p20, List.forall_mem_cons.mpr ⟨lw_p21, List.forall_mem_cons.mpr ⟨lw_p22, List.forall_mem_cons.mpr ⟨lw_p23, List.forall_mem_cons.mpr ⟨lw_p24, List.forall_mem_cons.mpr ⟨lw_p25, List.forall_mem_cons.mpr ⟨lw_p26, List.forall_mem_cons.mpr ⟨lw_p27, List.forall_mem_cons.mpr ⟨lw_p28, List.forall_mem_cons.mpr ⟨lw_p29, List.forall_mem_cons.mpr ⟨lw_p30, List.forall_mem_cons.mpr ⟨lw_p31, fun _ h => absurd h List.not_mem_nil⟩⟩⟩⟩⟩⟩⟩⟩⟩⟩⟩⟩⟩⟩⟩⟩
theorem lw_p32 : lw_okq (⟨"CousinsByAgreementModel", "readsAll", "(II)Z"⟩, 28) := ⟨⟨by decide +kernel, by decide +kernel⟩, List.mem_of_getElem? (i := 821) (by decide +kernel), List.mem_of_getElem? (i := 935) (by decide +kernel), List.mem_of_getElem? (i := 936) (by decide +kernel)⟩
theorem lw_p33 : lw_okq (⟨"CousinsByAgreementModel", "readsOne", "(I)Z"⟩, 28) := ⟨⟨by decide +kernel, by decide +kernel⟩, List.mem_of_getElem? (i := 821) (by decide +kernel), List.mem_of_getElem? (i := 939) (by decide +kernel), List.mem_of_getElem? (i := 940) (by decide +kernel)⟩
theorem lw_p34 : lw_okq (⟨"CousinsByAgreementModel", "readsDigits", "(II)Z"⟩, 28) := ⟨⟨by decide +kernel, by decide +kernel⟩, List.mem_of_getElem? (i := 821) (by decide +kernel), List.mem_of_getElem? (i := 946) (by decide +kernel), List.mem_of_getElem? (i := 947) (by decide +kernel)⟩
theorem lw_p35 : lw_okq (⟨"CousinsByAgreementModel", "passesAll", "(IZ)V"⟩, 28) := ⟨⟨by decide +kernel, by decide +kernel⟩, List.mem_of_getElem? (i := 821) (by decide +kernel), List.mem_of_getElem? (i := 953) (by decide +kernel), List.mem_of_getElem? (i := 954) (by decide +kernel)⟩
theorem lw_p36 : lw_okq (⟨"CousinsByAgreementModel", "passes", "([I)V"⟩, 28) := ⟨⟨by decide +kernel, by decide +kernel⟩, List.mem_of_getElem? (i := 821) (by decide +kernel), List.mem_of_getElem? (i := 957) (by decide +kernel), List.mem_of_getElem? (i := 958) (by decide +kernel)⟩
theorem lw_p37 : lw_okq (⟨"CousinsByAgreementModel", "passOne", "(I)I"⟩, 28) := ⟨⟨by decide +kernel, by decide +kernel⟩, List.mem_of_getElem? (i := 821) (by decide +kernel), List.mem_of_getElem? (i := 961) (by decide +kernel), List.mem_of_getElem? (i := 962) (by decide +kernel)⟩
theorem lw_p38 : lw_okq (⟨"CousinsByAgreementModel", "comes", "(I)Z"⟩, 28) := ⟨⟨by decide +kernel, by decide +kernel⟩, List.mem_of_getElem? (i := 821) (by decide +kernel), List.mem_of_getElem? (i := 965) (by decide +kernel), List.mem_of_getElem? (i := 966) (by decide +kernel)⟩
theorem lw_p39 : lw_okq (⟨"CousinsByAgreementModel", "adds", "(III)V"⟩, 28) := ⟨⟨by decide +kernel, by decide +kernel⟩, List.mem_of_getElem? (i := 821) (by decide +kernel), List.mem_of_getElem? (i := 969) (by decide +kernel), List.mem_of_getElem? (i := 970) (by decide +kernel)⟩
theorem lw_p40 : lw_okq (⟨"CousinsByAgreementModel", "isOne", "(I)Z"⟩, 28) := ⟨⟨by decide +kernel, by decide +kernel⟩, List.mem_of_getElem? (i := 821) (by decide +kernel), List.mem_of_getElem? (i := 973) (by decide +kernel), List.mem_of_getElem? (i := 974) (by decide +kernel)⟩
theorem lw_p41 : lw_okq (⟨"CousinsByAgreementModel", "comesYears", "(I)Z"⟩, 28) := ⟨⟨by decide +kernel, by decide +kernel⟩, List.mem_of_getElem? (i := 821) (by decide +kernel), List.mem_of_getElem? (i := 977) (by decide +kernel), List.mem_of_getElem? (i := 978) (by decide +kernel)⟩
theorem lw_p42 : lw_okq (⟨"CousinsByAgreementModel", "goes", "(I)V"⟩, 28) := ⟨⟨by decide +kernel, by decide +kernel⟩, List.mem_of_getElem? (i := 821) (by decide +kernel), List.mem_of_getElem? (i := 981) (by decide +kernel), List.mem_of_getElem? (i := 982) (by decide +kernel)⟩
theorem lw_p43 : lw_okq (⟨"CousinsByAgreementModel", "goesYear", "()V"⟩, 28) := ⟨⟨by decide +kernel, by decide +kernel⟩, List.mem_of_getElem? (i := 821) (by decide +kernel), List.mem_of_getElem? (i := 985) (by decide +kernel), List.mem_of_getElem? (i := 986) (by decide +kernel)⟩
theorem lw_p44 : lw_okq (⟨"CousinsByAgreementModel", "isKin", "(II)Z"⟩, 28) := ⟨⟨by decide +kernel, by decide +kernel⟩, List.mem_of_getElem? (i := 821) (by decide +kernel), List.mem_of_getElem? (i := 989) (by decide +kernel), List.mem_of_getElem? (i := 990) (by decide +kernel)⟩
theorem lw_p45 : lw_okq (⟨"CousinsByAgreementModel", "pays", "(II)V"⟩, 28) := ⟨⟨by decide +kernel, by decide +kernel⟩, List.mem_of_getElem? (i := 821) (by decide +kernel), List.mem_of_getElem? (i := 996) (by decide +kernel), List.mem_of_getElem? (i := 997) (by decide +kernel)⟩
theorem lw_p46 : lw_okq (⟨"CousinsByAgreementModel", "paysOf", "(II)I"⟩, 28) := ⟨⟨by decide +kernel, by decide +kernel⟩, List.mem_of_getElem? (i := 821) (by decide +kernel), List.mem_of_getElem? (i := 1000) (by decide +kernel), List.mem_of_getElem? (i := 1001) (by decide +kernel)⟩
theorem lw_p47 : lw_okq (⟨"CousinsByAgreementModel", "comesTie", "(III)Z"⟩, 28) := ⟨⟨by decide +kernel, by decide +kernel⟩, List.mem_of_getElem? (i := 821) (by decide +kernel), List.mem_of_getElem? (i := 1004) (by decide +kernel), List.mem_of_getElem? (i := 1005) (by decide +kernel)⟩
def lw_privs_3 : List (MethodName × Nat) := [(⟨"CousinsByAgreementModel", "readsAll", "(II)Z"⟩, 28), (⟨"CousinsByAgreementModel", "readsOne", "(I)Z"⟩, 28), (⟨"CousinsByAgreementModel", "readsDigits", "(II)Z"⟩, 28), (⟨"CousinsByAgreementModel", "passesAll", "(IZ)V"⟩, 28), (⟨"CousinsByAgreementModel", "passes", "([I)V"⟩, 28), (⟨"CousinsByAgreementModel", "passOne", "(I)I"⟩, 28), (⟨"CousinsByAgreementModel", "comes", "(I)Z"⟩, 28), (⟨"CousinsByAgreementModel", "adds", "(III)V"⟩, 28), (⟨"CousinsByAgreementModel", "isOne", "(I)Z"⟩, 28), (⟨"CousinsByAgreementModel", "comesYears", "(I)Z"⟩, 28), (⟨"CousinsByAgreementModel", "goes", "(I)V"⟩, 28), (⟨"CousinsByAgreementModel", "goesYear", "()V"⟩, 28), (⟨"CousinsByAgreementModel", "isKin", "(II)Z"⟩, 28), (⟨"CousinsByAgreementModel", "pays", "(II)V"⟩, 28), (⟨"CousinsByAgreementModel", "paysOf", "(II)I"⟩, 28), (⟨"CousinsByAgreementModel", "comesTie", "(III)Z"⟩, 28)]
theorem lw_r3 : ∀ q ∈ lw_privs_3, lw_okq q := List.forall_mem_cons.mpr ⟨lw_p32, List.forall_mem_cons.mpr ⟨lw_p33, List.forall_mem_cons.mpr ⟨lw_p34, List.forall_mem_cons.mpr ⟨lw_p35, List.forall_mem_cons.mpr ⟨lw_p36, List.forall_mem_cons.mpr ⟨lw_p37, List.forall_mem_cons.mpr ⟨lw_p38, List.forall_mem_cons.mpr ⟨lw_p39, List.forall_mem_cons.mpr ⟨lw_p40, List.forall_mem_cons.mpr ⟨lw_p41, List.forall_mem_cons.mpr ⟨lw_p42, List.forall_mem_cons.mpr ⟨lw_p43, List.forall_mem_cons.mpr ⟨lw_p44, List.forall_mem_cons.mpr ⟨lw_p45, List.forall_mem_cons.mpr ⟨lw_p46, List.forall_mem_cons.mpr ⟨lw_p47, fun _ h => absurd h List.not_mem_nil⟩⟩⟩⟩⟩⟩⟩⟩⟩⟩⟩⟩⟩⟩⟩⟩
theorem lw_p48 : lw_okq (⟨"CousinsByAgreementModel", "areTwo", "(II)Z"⟩, 28) := ⟨⟨by decide +kernel, by decide +kernel⟩, List.mem_of_getElem? (i := 821) (by decide +kernel), List.mem_of_getElem? (i := 1008) (by decide +kernel), List.mem_of_getElem? (i := 1009) (by decide +kernel)⟩
theorem lw_p49 : lw_okq (⟨"CousinsByAgreementModel", "turnsFeud", "(II)V"⟩, 28) := ⟨⟨by decide +kernel, by decide +kernel⟩, List.mem_of_getElem? (i := 821) (by decide +kernel), List.mem_of_getElem? (i := 1012) (by decide +kernel), List.mem_of_getElem? (i := 1013) (by decide +kernel)⟩
theorem lw_p50 : lw_okq (⟨"CousinsByAgreementModel", "kinOf", "(I)I"⟩, 28) := ⟨⟨by decide +kernel, by decide +kernel⟩, List.mem_of_getElem? (i := 821) (by decide +kernel), List.mem_of_getElem? (i := 1028) (by decide +kernel), List.mem_of_getElem? (i := 1029) (by decide +kernel)⟩
theorem lw_p51 : lw_okq (⟨"CousinsByAgreementModel", "wealth", "()I"⟩, 28) := ⟨⟨by decide +kernel, by decide +kernel⟩, List.mem_of_getElem? (i := 821) (by decide +kernel), List.mem_of_getElem? (i := 1059) (by decide +kernel), List.mem_of_getElem? (i := 1060) (by decide +kernel)⟩
theorem lw_p52 : lw_okq (⟨"CousinsByAgreementModel", "moneyIn", "(II)I"⟩, 28) := ⟨⟨by decide +kernel, by decide +kernel⟩, List.mem_of_getElem? (i := 821) (by decide +kernel), List.mem_of_getElem? (i := 1070) (by decide +kernel), List.mem_of_getElem? (i := 1071) (by decide +kernel)⟩
theorem lw_p53 : lw_okq (⟨"CousinsByAgreementModel", "thinks", "()V"⟩, 28) := ⟨⟨by decide +kernel, by decide +kernel⟩, List.mem_of_getElem? (i := 821) (by decide +kernel), List.mem_of_getElem? (i := 1074) (by decide +kernel), List.mem_of_getElem? (i := 1075) (by decide +kernel)⟩
theorem lw_p54 : lw_okq (⟨"CousinsByAgreementModel", "forgets", "()V"⟩, 28) := ⟨⟨by decide +kernel, by decide +kernel⟩, List.mem_of_getElem? (i := 821) (by decide +kernel), List.mem_of_getElem? (i := 1078) (by decide +kernel), List.mem_of_getElem? (i := 1079) (by decide +kernel)⟩
theorem lw_p55 : lw_okq (⟨"CousinsByAgreementModel", "wealthIn", "(I)I"⟩, 28) := ⟨⟨by decide +kernel, by decide +kernel⟩, List.mem_of_getElem? (i := 821) (by decide +kernel), List.mem_of_getElem? (i := 1090) (by decide +kernel), List.mem_of_getElem? (i := 1091) (by decide +kernel)⟩
theorem lw_p56 : lw_okq (⟨"CousinsByAgreementModel", "ruinOf", "(I)I"⟩, 28) := ⟨⟨by decide +kernel, by decide +kernel⟩, List.mem_of_getElem? (i := 821) (by decide +kernel), List.mem_of_getElem? (i := 1098) (by decide +kernel), List.mem_of_getElem? (i := 1099) (by decide +kernel)⟩
theorem lw_p57 : lw_okq (⟨"CousinsByAgreementModel", "steadyAt", "()I"⟩, 28) := ⟨⟨by decide +kernel, by decide +kernel⟩, List.mem_of_getElem? (i := 821) (by decide +kernel), List.mem_of_getElem? (i := 1106) (by decide +kernel), List.mem_of_getElem? (i := 1107) (by decide +kernel)⟩
theorem lw_p58 : lw_okq (⟨"CousinsByAgreementModel", "isSteady", "()Z"⟩, 28) := ⟨⟨by decide +kernel, by decide +kernel⟩, List.mem_of_getElem? (i := 821) (by decide +kernel), List.mem_of_getElem? (i := 1110) (by decide +kernel), List.mem_of_getElem? (i := 1111) (by decide +kernel)⟩
theorem lw_p59 : lw_okq (⟨"CousinsByAgreementModel", "reached", "(I)I"⟩, 28) := ⟨⟨by decide +kernel, by decide +kernel⟩, List.mem_of_getElem? (i := 821) (by decide +kernel), List.mem_of_getElem? (i := 1122) (by decide +kernel), List.mem_of_getElem? (i := 1123) (by decide +kernel)⟩
theorem lw_p60 : lw_okq (⟨"CousinsByAgreementModel", "findSteps", "(I)V"⟩, 28) := ⟨⟨by decide +kernel, by decide +kernel⟩, List.mem_of_getElem? (i := 821) (by decide +kernel), List.mem_of_getElem? (i := 1126) (by decide +kernel), List.mem_of_getElem? (i := 1127) (by decide +kernel)⟩
theorem lw_p61 : lw_okq (⟨"CousinsByAgreementModel", "threes", "()I"⟩, 28) := ⟨⟨by decide +kernel, by decide +kernel⟩, List.mem_of_getElem? (i := 821) (by decide +kernel), List.mem_of_getElem? (i := 1142) (by decide +kernel), List.mem_of_getElem? (i := 1143) (by decide +kernel)⟩
theorem lw_p62 : lw_okq (⟨"CousinsByAgreementModel", "areAllKin", "(I)Z"⟩, 28) := ⟨⟨by decide +kernel, by decide +kernel⟩, List.mem_of_getElem? (i := 821) (by decide +kernel), List.mem_of_getElem? (i := 1150) (by decide +kernel), List.mem_of_getElem? (i := 1151) (by decide +kernel)⟩
theorem lw_p63 : lw_okq (⟨"CousinsByAgreementModel", "bestTurn", "(IIZ)I"⟩, 28) := ⟨⟨by decide +kernel, by decide +kernel⟩, List.mem_of_getElem? (i := 821) (by decide +kernel), List.mem_of_getElem? (i := 1161) (by decide +kernel), List.mem_of_getElem? (i := 1162) (by decide +kernel)⟩
def lw_privs_4 : List (MethodName × Nat) := [(⟨"CousinsByAgreementModel", "areTwo", "(II)Z"⟩, 28), (⟨"CousinsByAgreementModel", "turnsFeud", "(II)V"⟩, 28), (⟨"CousinsByAgreementModel", "kinOf", "(I)I"⟩, 28), (⟨"CousinsByAgreementModel", "wealth", "()I"⟩, 28), (⟨"CousinsByAgreementModel", "moneyIn", "(II)I"⟩, 28), (⟨"CousinsByAgreementModel", "thinks", "()V"⟩, 28), (⟨"CousinsByAgreementModel", "forgets", "()V"⟩, 28), (⟨"CousinsByAgreementModel", "wealthIn", "(I)I"⟩, 28), (⟨"CousinsByAgreementModel", "ruinOf", "(I)I"⟩, 28), (⟨"CousinsByAgreementModel", "steadyAt", "()I"⟩, 28), (⟨"CousinsByAgreementModel", "isSteady", "()Z"⟩, 28), (⟨"CousinsByAgreementModel", "reached", "(I)I"⟩, 28), (⟨"CousinsByAgreementModel", "findSteps", "(I)V"⟩, 28), (⟨"CousinsByAgreementModel", "threes", "()I"⟩, 28), (⟨"CousinsByAgreementModel", "areAllKin", "(I)Z"⟩, 28), (⟨"CousinsByAgreementModel", "bestTurn", "(IIZ)I"⟩, 28)]
theorem lw_r4 : ∀ q ∈ lw_privs_4, lw_okq q := List.forall_mem_cons.mpr ⟨lw_p48, List.forall_mem_cons.mpr ⟨lw_p49, List.forall_mem_cons.mpr ⟨lw_p50, List.forall_mem_cons.mpr ⟨lw_p51, List.forall_mem_cons.mpr ⟨lw_p52, List.forall_mem_cons.mpr ⟨lw_p53, List.forall_mem_cons.mpr ⟨lw_p54, List.forall_mem_cons.mpr ⟨lw_p55, List.forall_mem_cons.mpr ⟨lw_p56, List.forall_mem_cons.mpr ⟨lw_p57, List.forall_mem_cons.mpr ⟨lw_p58, List.forall_mem_cons.mpr ⟨lw_p59, List.forall_mem_cons.mpr ⟨lw_p60, List.forall_mem_cons.mpr ⟨lw_p61, List.forall_mem_cons.mpr ⟨lw_p62, List.forall_mem_cons.mpr ⟨lw_p63, fun _ h => absurd h List.not_mem_nil⟩⟩⟩⟩⟩⟩⟩⟩⟩⟩⟩⟩⟩⟩⟩⟩
theorem lw_p64 : lw_okq (⟨"CousinsByAgreementModel", "moneySigning", "(III)I"⟩, 28) := ⟨⟨by decide +kernel, by decide +kernel⟩, List.mem_of_getElem? (i := 821) (by decide +kernel), List.mem_of_getElem? (i := 1165) (by decide +kernel), List.mem_of_getElem? (i := 1166) (by decide +kernel)⟩
theorem lw_p65 : lw_okq (⟨"CousinsByAgreementModel", "lower", "(I)I"⟩, 28) := ⟨⟨by decide +kernel, by decide +kernel⟩, List.mem_of_getElem? (i := 821) (by decide +kernel), List.mem_of_getElem? (i := 1177) (by decide +kernel), List.mem_of_getElem? (i := 1178) (by decide +kernel)⟩
theorem lw_p66 : lw_okq (⟨"CousinsByAgreementModel", "findRooms", "(I)Z"⟩, 28) := ⟨⟨by decide +kernel, by decide +kernel⟩, List.mem_of_getElem? (i := 821) (by decide +kernel), List.mem_of_getElem? (i := 1194) (by decide +kernel), List.mem_of_getElem? (i := 1195) (by decide +kernel)⟩
theorem lw_p67 : lw_okq (⟨"CousinsByAgreementModel", "leastRoom", "(II)I"⟩, 28) := ⟨⟨by decide +kernel, by decide +kernel⟩, List.mem_of_getElem? (i := 821) (by decide +kernel), List.mem_of_getElem? (i := 1198) (by decide +kernel), List.mem_of_getElem? (i := 1199) (by decide +kernel)⟩
theorem lw_p68 : lw_okq (⟨"CousinsByAgreementModel", "findCouples", "(I)V"⟩, 28) := ⟨⟨by decide +kernel, by decide +kernel⟩, List.mem_of_getElem? (i := 821) (by decide +kernel), List.mem_of_getElem? (i := 1206) (by decide +kernel), List.mem_of_getElem? (i := 1207) (by decide +kernel)⟩
theorem lw_p69 : lw_okq (⟨"CousinsByAgreementModel", "isCouple", "(III)Z"⟩, 28) := ⟨⟨by decide +kernel, by decide +kernel⟩, List.mem_of_getElem? (i := 821) (by decide +kernel), List.mem_of_getElem? (i := 1213) (by decide +kernel), List.mem_of_getElem? (i := 1214) (by decide +kernel)⟩
theorem lw_p70 : lw_okq (⟨"CousinsByAgreementModel", "partnerOf", "(II)I"⟩, 28) := ⟨⟨by decide +kernel, by decide +kernel⟩, List.mem_of_getElem? (i := 821) (by decide +kernel), List.mem_of_getElem? (i := 1217) (by decide +kernel), List.mem_of_getElem? (i := 1218) (by decide +kernel)⟩
theorem lw_p71 : lw_okq (⟨"CousinsByAgreementModel", "partnerIn", "(III)I"⟩, 28) := ⟨⟨by decide +kernel, by decide +kernel⟩, List.mem_of_getElem? (i := 821) (by decide +kernel), List.mem_of_getElem? (i := 1221) (by decide +kernel), List.mem_of_getElem? (i := 1222) (by decide +kernel)⟩
theorem lw_p72 : lw_okq (⟨"CousinsByAgreementModel", "moneyChanged", "(III)I"⟩, 28) := ⟨⟨by decide +kernel, by decide +kernel⟩, List.mem_of_getElem? (i := 821) (by decide +kernel), List.mem_of_getElem? (i := 1229) (by decide +kernel), List.mem_of_getElem? (i := 1230) (by decide +kernel)⟩
theorem lw_p73 : lw_okq (⟨"CousinsByAgreementModel", "changes", "()V"⟩, 28) := ⟨⟨by decide +kernel, by decide +kernel⟩, List.mem_of_getElem? (i := 821) (by decide +kernel), List.mem_of_getElem? (i := 1233) (by decide +kernel), List.mem_of_getElem? (i := 1234) (by decide +kernel)⟩
theorem lw_p74 : lw_okq (⟨"CousinsByAgreementModel", "exchanges", "([III)V"⟩, 28) := ⟨⟨by decide +kernel, by decide +kernel⟩, List.mem_of_getElem? (i := 821) (by decide +kernel), List.mem_of_getElem? (i := 1237) (by decide +kernel), List.mem_of_getElem? (i := 1238) (by decide +kernel)⟩
theorem lw_p75 : lw_okq (⟨"CousinsByAgreementModel", "changesBack", "()V"⟩, 28) := ⟨⟨by decide +kernel, by decide +kernel⟩, List.mem_of_getElem? (i := 821) (by decide +kernel), List.mem_of_getElem? (i := 1244) (by decide +kernel), List.mem_of_getElem? (i := 1245) (by decide +kernel)⟩
theorem lw_p76 : lw_okq (⟨"CousinsByAgreementModel", "twosOfKin", "()I"⟩, 28) := ⟨⟨by decide +kernel, by decide +kernel⟩, List.mem_of_getElem? (i := 821) (by decide +kernel), List.mem_of_getElem? (i := 1252) (by decide +kernel), List.mem_of_getElem? (i := 1253) (by decide +kernel)⟩
theorem lw_p77 : lw_okq (⟨"CousinsByAgreementModel", "lowestOf", "(I)J"⟩, 28) := ⟨⟨by decide +kernel, by decide +kernel⟩, List.mem_of_getElem? (i := 821) (by decide +kernel), List.mem_of_getElem? (i := 1260) (by decide +kernel), List.mem_of_getElem? (i := 1261) (by decide +kernel)⟩
theorem lw_p78 : lw_okq (⟨"CousinsByAgreementModel", "findTwo", "(III)V"⟩, 28) := ⟨⟨by decide +kernel, by decide +kernel⟩, List.mem_of_getElem? (i := 821) (by decide +kernel), List.mem_of_getElem? (i := 1279) (by decide +kernel), List.mem_of_getElem? (i := 1280) (by decide +kernel)⟩
theorem lw_p79 : lw_okq (⟨"CousinsByAgreementModel", "bitsFor", "([III)I"⟩, 28) := ⟨⟨by decide +kernel, by decide +kernel⟩, List.mem_of_getElem? (i := 821) (by decide +kernel), List.mem_of_getElem? (i := 1290) (by decide +kernel), List.mem_of_getElem? (i := 1291) (by decide +kernel)⟩
def lw_privs_5 : List (MethodName × Nat) := [(⟨"CousinsByAgreementModel", "moneySigning", "(III)I"⟩, 28), (⟨"CousinsByAgreementModel", "lower", "(I)I"⟩, 28), (⟨"CousinsByAgreementModel", "findRooms", "(I)Z"⟩, 28), (⟨"CousinsByAgreementModel", "leastRoom", "(II)I"⟩, 28), (⟨"CousinsByAgreementModel", "findCouples", "(I)V"⟩, 28), (⟨"CousinsByAgreementModel", "isCouple", "(III)Z"⟩, 28), (⟨"CousinsByAgreementModel", "partnerOf", "(II)I"⟩, 28), (⟨"CousinsByAgreementModel", "partnerIn", "(III)I"⟩, 28), (⟨"CousinsByAgreementModel", "moneyChanged", "(III)I"⟩, 28), (⟨"CousinsByAgreementModel", "changes", "()V"⟩, 28), (⟨"CousinsByAgreementModel", "exchanges", "([III)V"⟩, 28), (⟨"CousinsByAgreementModel", "changesBack", "()V"⟩, 28), (⟨"CousinsByAgreementModel", "twosOfKin", "()I"⟩, 28), (⟨"CousinsByAgreementModel", "lowestOf", "(I)J"⟩, 28), (⟨"CousinsByAgreementModel", "findTwo", "(III)V"⟩, 28), (⟨"CousinsByAgreementModel", "bitsFor", "([III)I"⟩, 28)]
theorem lw_r5 : ∀ q ∈ lw_privs_5, lw_okq q := List.forall_mem_cons.mpr ⟨lw_p64, List.forall_mem_cons.mpr ⟨lw_p65, List.forall_mem_cons.mpr ⟨lw_p66, List.forall_mem_cons.mpr ⟨lw_p67, List.forall_mem_cons.mpr ⟨lw_p68, List.forall_mem_cons.mpr ⟨lw_p69, List.forall_mem_cons.mpr ⟨lw_p70, List.forall_mem_cons.mpr ⟨lw_p71, List.forall_mem_cons.mpr ⟨lw_p72, List.forall_mem_cons.mpr ⟨lw_p73, List.forall_mem_cons.mpr ⟨lw_p74, List.forall_mem_cons.mpr ⟨lw_p75, List.forall_mem_cons.mpr ⟨lw_p76, List.forall_mem_cons.mpr ⟨lw_p77, List.forall_mem_cons.mpr ⟨lw_p78, List.forall_mem_cons.mpr ⟨lw_p79, fun _ h => absurd h List.not_mem_nil⟩⟩⟩⟩⟩⟩⟩⟩⟩⟩⟩⟩⟩⟩⟩⟩
theorem lw_p80 : lw_okq (⟨"CousinsByAgreementModel", "isSo", "(I)Z"⟩, 28) := ⟨⟨by decide +kernel, by decide +kernel⟩, List.mem_of_getElem? (i := 821) (by decide +kernel), List.mem_of_getElem? (i := 1294) (by decide +kernel), List.mem_of_getElem? (i := 1295) (by decide +kernel)⟩
theorem lw_p81 : lw_okq (⟨"CousinsByAgreementModel", "draw", "(I)I"⟩, 28) := ⟨⟨by decide +kernel, by decide +kernel⟩, List.mem_of_getElem? (i := 821) (by decide +kernel), List.mem_of_getElem? (i := 1314) (by decide +kernel), List.mem_of_getElem? (i := 1315) (by decide +kernel)⟩
def lw_privs_6 : List (MethodName × Nat) := [(⟨"CousinsByAgreementModel", "isSo", "(I)Z"⟩, 28), (⟨"CousinsByAgreementModel", "draw", "(I)I"⟩, 28)]
theorem lw_r6 : ∀ q ∈ lw_privs_6, lw_okq q := List.forall_mem_cons.mpr ⟨lw_p80, List.forall_mem_cons.mpr ⟨lw_p81, fun _ h => absurd h List.not_mem_nil⟩⟩
def lw_privs : List (MethodName × Nat) := lw_privs_1 ++ (lw_privs_2 ++ (lw_privs_3 ++ (lw_privs_4 ++ (lw_privs_5 ++ (lw_privs_6)))))
def lw_tbl : List Cond := k2_sels lw_privs ++ tables_1
theorem lw_privs_ok : ∀ q ∈ lw_privs, lw_okq q := by
  show ∀ q ∈ lw_privs_1 ++ (lw_privs_2 ++ (lw_privs_3 ++ (lw_privs_4 ++ (lw_privs_5 ++ (lw_privs_6))))), lw_okq q
  exact List.forall_mem_append.mpr ⟨lw_r1, List.forall_mem_append.mpr ⟨lw_r2, List.forall_mem_append.mpr ⟨lw_r3, List.forall_mem_append.mpr ⟨lw_r4, List.forall_mem_append.mpr ⟨lw_r5, lw_r6⟩⟩⟩⟩⟩
end
section
def RX0 : String := "CousinsByAgreement$County"
def TX0 : u_T := fun k => match k with
  | 0 => ("CousinsByAgreement$County", "kinds", "[I", true)
  | 1 => ("CousinsByAgreement$County", "figures", "[I", true)
  | 2 => ("CousinsByAgreement$County", "money", "[I", true)
  | 3 => ("CousinsByAgreement$County", "signed", "[I", true)
  | 4 => ("CousinsByAgreement$County", "foes", "[I", true)
  | 5 => ("CousinsByAgreement$County", "people", "I", false)
  | _ => ("CousinsByAgreement$County", "date", "I", false)
def tyX0 : Nat → FieldType := fun k => match k with
  | 0 => .array .int
  | 1 => .array .int
  | 2 => .array .int
  | 3 => .array .int
  | 4 => .array .int
  | 5 => .int
  | _ => .int
theorem nmX0 : ∀ a, a < 7 → ∀ b, b < 7 → a ≠ b → (TX0 a).2.1 ≠ (TX0 b).2.1 := by decide +kernel
theorem tyX0_ok : ∀ k, k < 7 → parseFieldDescriptor (TX0 k).2.2.1 = some (tyX0 k) := by decide +kernel
abbrev cX0_init : ByteArray := prog_2_method_1_code
def yX0_init : MethodName := ⟨RX0, "<init>", "()V"⟩
abbrev cX0_become : ByteArray := prog_2_method_2_code
def yX0_become : MethodName := ⟨RX0, "become", "(LCousinsByAgreement$County;)V"⟩
abbrev cX0_isAs : ByteArray := prog_2_method_3_code
def yX0_isAs : MethodName := ⟨RX0, "isAs", "(LCousinsByAgreement$County;)Z"⟩
abbrev cX0_has : ByteArray := prog_2_method_4_code
def yX0_has : MethodName := ⟨RX0, "has", "(I)Z"⟩
abbrev cX0_hasTwo : ByteArray := prog_2_method_5_code
def yX0_hasTwo : MethodName := ⟨RX0, "hasTwo", "(II)Z"⟩
abbrev cX0_welcome : ByteArray := prog_2_method_6_code
def yX0_welcome : MethodName := ⟨RX0, "welcome", "(III)Z"⟩
abbrev cX0_enrich : ByteArray := prog_2_method_7_code
def yX0_enrich : MethodName := ⟨RX0, "enrich", "(II)Z"⟩
abbrev cX0_hasSigned : ByteArray := prog_2_method_8_code
def yX0_hasSigned : MethodName := ⟨RX0, "hasSigned", "(II)Z"⟩
abbrev cX0_atFeud : ByteArray := prog_2_method_9_code
def yX0_atFeud : MethodName := ⟨RX0, "atFeud", "(II)Z"⟩
abbrev cX0_isKin : ByteArray := prog_2_method_10_code
def yX0_isKin : MethodName := ⟨RX0, "isKin", "(II)Z"⟩
abbrev cX0_kinOf : ByteArray := prog_2_method_11_code
def yX0_kinOf : MethodName := ⟨RX0, "kinOf", "(I)I"⟩
abbrev cX0_turnSigning : ByteArray := prog_2_method_12_code
def yX0_turnSigning : MethodName := ⟨RX0, "turnSigning", "(II)Z"⟩
abbrev cX0_setSigning : ByteArray := prog_2_method_13_code
def yX0_setSigning : MethodName := ⟨RX0, "setSigning", "(IIZ)Z"⟩
abbrev cX0_signBoth : ByteArray := prog_2_method_14_code
def yX0_signBoth : MethodName := ⟨RX0, "signBoth", "(II)Z"⟩
abbrev cX0_turnFeud : ByteArray := prog_2_method_15_code
def yX0_turnFeud : MethodName := ⟨RX0, "turnFeud", "(II)Z"⟩
abbrev cX0_setFeud : ByteArray := prog_2_method_16_code
def yX0_setFeud : MethodName := ⟨RX0, "setFeud", "(IIZ)Z"⟩
abbrev cX0_withBit : ByteArray := prog_2_method_17_code
def yX0_withBit : MethodName := ⟨RX0, "withBit", "(IIZ)I"⟩
abbrev cX0_changePlaces : ByteArray := prog_2_method_18_code
def yX0_changePlaces : MethodName := ⟨RX0, "changePlaces", "(II)V"⟩
abbrev cX0_changeIn : ByteArray := prog_2_method_19_code
def yX0_changeIn : MethodName := ⟨RX0, "changeIn", "([III)V"⟩
abbrev cX0_dues : ByteArray := prog_2_method_20_code
def yX0_dues : MethodName := ⟨RX0, "dues", "(II)I"⟩
abbrev cX0_mayPass : ByteArray := prog_2_method_21_code
def yX0_mayPass : MethodName := ⟨RX0, "mayPass", "(I)Z"⟩
abbrev cX0_passYears : ByteArray := prog_2_method_22_code
def yX0_passYears : MethodName := ⟨RX0, "passYears", "(I)Z"⟩
abbrev cX0_passYear : ByteArray := prog_2_method_23_code
def yX0_passYear : MethodName := ⟨RX0, "passYear", "(I)V"⟩
abbrev cX0_pay : ByteArray := prog_2_method_24_code
def yX0_pay : MethodName := ⟨RX0, "pay", "(II)V"⟩
abbrev cX0_wealth : ByteArray := prog_2_method_25_code
def yX0_wealth : MethodName := ⟨RX0, "wealth", "()I"⟩
abbrev cX0_signings : ByteArray := prog_2_method_26_code
def yX0_signings : MethodName := ⟨RX0, "signings", "()I"⟩
abbrev cX0_feudTwos : ByteArray := prog_2_method_27_code
def yX0_feudTwos : MethodName := ⟨RX0, "feudTwos", "()I"⟩
abbrev cX0_kinTwos : ByteArray := prog_2_method_28_code
def yX0_kinTwos : MethodName := ⟨RX0, "kinTwos", "()I"⟩
def RX1 : String := "CousinsByAgreement$Letters"
def TX1 : u_T := fun k => match k with
  | 0 => ("CousinsByAgreement$Letters", "marks", "[I", true)
  | _ => ("CousinsByAgreement$Letters", "many", "I", false)
def tyX1 : Nat → FieldType := fun k => match k with
  | 0 => .array .int
  | _ => .int
theorem nmX1 : ∀ a, a < 2 → ∀ b, b < 2 → a ≠ b → (TX1 a).2.1 ≠ (TX1 b).2.1 := by decide +kernel
theorem tyX1_ok : ∀ k, k < 2 → parseFieldDescriptor (TX1 k).2.2.1 = some (tyX1 k) := by decide +kernel
abbrev cX1_init : ByteArray := prog_3_method_1_code
def yX1_init : MethodName := ⟨RX1, "<init>", "()V"⟩
abbrev cX1_isFull : ByteArray := prog_3_method_2_code
def yX1_isFull : MethodName := ⟨RX1, "isFull", "()Z"⟩
abbrev cX1_add : ByteArray := prog_3_method_3_code
def yX1_add : MethodName := ⟨RX1, "add", "(I)V"⟩
abbrev cX1_drop : ByteArray := prog_3_method_4_code
def yX1_drop : MethodName := ⟨RX1, "drop", "()V"⟩
abbrev cX1_at : ByteArray := prog_3_method_5_code
def yX1_at : MethodName := ⟨RX1, "at", "(I)I"⟩
abbrev cX1_badForm : ByteArray := prog_3_method_6_code
def yX1_badForm : MethodName := ⟨RX1, "badForm", "()I"⟩
abbrev cX1_lengthFrom : ByteArray := prog_3_method_7_code
def yX1_lengthFrom : MethodName := ⟨RX1, "lengthFrom", "(I)I"⟩
abbrev cX1_badWithin : ByteArray := prog_3_method_8_code
def yX1_badWithin : MethodName := ⟨RX1, "badWithin", "(II)I"⟩
abbrev cX1_kindAt : ByteArray := prog_3_method_9_code
def yX1_kindAt : MethodName := ⟨RX1, "kindAt", "(I)I"⟩
abbrev cX1_isDigit : ByteArray := prog_3_method_10_code
def yX1_isDigit : MethodName := ⟨RX1, "isDigit", "(I)Z"⟩
abbrev cX1_digitAt : ByteArray := prog_3_method_11_code
def yX1_digitAt : MethodName := ⟨RX1, "digitAt", "(I)I"⟩
abbrev cX1_numberAt : ByteArray := prog_3_method_12_code
def yX1_numberAt : MethodName := ⟨RX1, "numberAt", "(I)I"⟩
abbrev cX1_tellAll : ByteArray := prog_3_method_13_code
def yX1_tellAll : MethodName := ⟨RX1, "tellAll", "(LCousinsByAgreement$County;)I"⟩
abbrev cX1_tellOne : ByteArray := prog_3_method_14_code
def yX1_tellOne : MethodName := ⟨RX1, "tellOne", "(LCousinsByAgreement$County;I)Z"⟩
def RX2 : String := "CousinsByAgreement$Odds"
def TX2 : u_T := fun k => match k with
  | 0 => ("CousinsByAgreement$Odds", "depths", "[LCousinsByAgreement$County;", true)
  | 1 => ("CousinsByAgreement$Odds", "absent", "I", false)
  | 2 => ("CousinsByAgreement$Odds", "watched", "I", false)
  | 3 => ("CousinsByAgreement$Odds", "span", "I", false)
  | 4 => ("CousinsByAgreement$Odds", "against", "I", false)
  | _ => ("CousinsByAgreement$Odds", "least", "I", false)
def tyX2 : Nat → FieldType := fun k => match k with
  | 0 => .array (.object "CousinsByAgreement$County")
  | 1 => .int
  | 2 => .int
  | 3 => .int
  | 4 => .int
  | _ => .int
theorem nmX2 : ∀ a, a < 6 → ∀ b, b < 6 → a ≠ b → (TX2 a).2.1 ≠ (TX2 b).2.1 := by decide +kernel
theorem tyX2_ok : ∀ k, k < 6 → parseFieldDescriptor (TX2 k).2.2.1 = some (tyX2 k) := by decide +kernel
abbrev cX2_init : ByteArray := prog_4_method_1_code
def yX2_init : MethodName := ⟨RX2, "<init>", "()V"⟩
abbrev cX2_goodWays : ByteArray := prog_4_method_2_code
def yX2_goodWays : MethodName := ⟨RX2, "goodWays", "(LCousinsByAgreement$County;IIIII)J"⟩
abbrev cX2_allWays : ByteArray := prog_4_method_3_code
def yX2_allWays : MethodName := ⟨RX2, "allWays", "(II)J"⟩
abbrev cX2_waysFrom : ByteArray := prog_4_method_4_code
def yX2_waysFrom : MethodName := ⟨RX2, "waysFrom", "(I)J"⟩
def RX3 : String := "CousinsByAgreement$Pairs"
def TX3 : u_T := fun k => match k with
  | 0 => ("CousinsByAgreement$Pairs", "most", "[I", true)
  | 1 => ("CousinsByAgreement$Pairs", "may", "[I", true)
  | 2 => ("CousinsByAgreement$Pairs", "partners", "[I", true)
  | _ => ("CousinsByAgreement$Pairs", "people", "I", false)
def tyX3 : Nat → FieldType := fun k => match k with
  | 0 => .array .int
  | 1 => .array .int
  | 2 => .array .int
  | _ => .int
theorem nmX3 : ∀ a, a < 4 → ∀ b, b < 4 → a ≠ b → (TX3 a).2.1 ≠ (TX3 b).2.1 := by decide +kernel
theorem tyX3_ok : ∀ k, k < 4 → parseFieldDescriptor (TX3 k).2.2.1 = some (tyX3 k) := by decide +kernel
abbrev cX3_init : ByteArray := prog_5_method_1_code
def yX3_init : MethodName := ⟨RX3, "<init>", "()V"⟩
abbrev cX3_pairAll : ByteArray := prog_5_method_2_code
def yX3_pairAll : MethodName := ⟨RX3, "pairAll", "(LCousinsByAgreement$County;I)I"⟩
abbrev cX3_fitting : ByteArray := prog_5_method_3_code
def yX3_fitting : MethodName := ⟨RX3, "fitting", "(LCousinsByAgreement$County;II)I"⟩
abbrev cX3_mostOf : ByteArray := prog_5_method_4_code
def yX3_mostOf : MethodName := ⟨RX3, "mostOf", "(I)I"⟩
abbrev cX3_leastIn : ByteArray := prog_5_method_5_code
def yX3_leastIn : MethodName := ⟨RX3, "leastIn", "(I)I"⟩
abbrev cX3_choose : ByteArray := prog_5_method_6_code
def yX3_choose : MethodName := ⟨RX3, "choose", "(I)V"⟩
abbrev cX3_leastPartner : ByteArray := prog_5_method_7_code
def yX3_leastPartner : MethodName := ⟨RX3, "leastPartner", "(II)I"⟩
abbrev cX3_partnerOf : ByteArray := prog_5_method_8_code
def yX3_partnerOf : MethodName := ⟨RX3, "partnerOf", "(I)I"⟩
def RX4 : String := "CousinsByAgreement$Seats"
def TX4 : u_T := fun k => match k with
  | 0 => ("CousinsByAgreement$Seats", "inRoom", "[I", true)
  | 1 => ("CousinsByAgreement$Seats", "foes", "[I", true)
  | _ => ("CousinsByAgreement$Seats", "people", "I", false)
def tyX4 : Nat → FieldType := fun k => match k with
  | 0 => .array .int
  | 1 => .array .int
  | _ => .int
theorem nmX4 : ∀ a, a < 3 → ∀ b, b < 3 → a ≠ b → (TX4 a).2.1 ≠ (TX4 b).2.1 := by decide +kernel
theorem tyX4_ok : ∀ k, k < 3 → parseFieldDescriptor (TX4 k).2.2.1 = some (tyX4 k) := by decide +kernel
abbrev cX4_init : ByteArray := prog_6_method_1_code
def yX4_init : MethodName := ⟨RX4, "<init>", "()V"⟩
abbrev cX4_seatAll : ByteArray := prog_6_method_2_code
def yX4_seatAll : MethodName := ⟨RX4, "seatAll", "(LCousinsByAgreement$County;)I"⟩
abbrev cX4_seatFrom : ByteArray := prog_6_method_3_code
def yX4_seatFrom : MethodName := ⟨RX4, "seatFrom", "(III)Z"⟩
abbrev cX4_roomOf : ByteArray := prog_6_method_4_code
def yX4_roomOf : MethodName := ⟨RX4, "roomOf", "(I)I"⟩
def RX5 : String := "CousinsByAgreement$Ties"
def TX5 : u_T := fun k => match k with
  | 0 => ("CousinsByAgreement$Ties", "rows", "[I", true)
  | _ => ("CousinsByAgreement$Ties", "people", "I", false)
def tyX5 : Nat → FieldType := fun k => match k with
  | 0 => .array .int
  | _ => .int
theorem nmX5 : ∀ a, a < 2 → ∀ b, b < 2 → a ≠ b → (TX5 a).2.1 ≠ (TX5 b).2.1 := by decide +kernel
theorem tyX5_ok : ∀ k, k < 2 → parseFieldDescriptor (TX5 k).2.2.1 = some (tyX5 k) := by decide +kernel
abbrev cX5_init : ByteArray := prog_7_method_1_code
def yX5_init : MethodName := ⟨RX5, "<init>", "()V"⟩
abbrev cX5_read : ByteArray := prog_7_method_2_code
def yX5_read : MethodName := ⟨RX5, "read", "(LCousinsByAgreement$County;)V"⟩
abbrev cX5_spread : ByteArray := prog_7_method_3_code
def yX5_spread : MethodName := ⟨RX5, "spread", "(I)I"⟩
abbrev cX5_steps : ByteArray := prog_7_method_4_code
def yX5_steps : MethodName := ⟨RX5, "steps", "(II)I"⟩
abbrev cX5_reachOf : ByteArray := prog_7_method_5_code
def yX5_reachOf : MethodName := ⟨RX5, "reachOf", "(I)I"⟩
abbrev cX5_howManyGroups : ByteArray := prog_7_method_6_code
def yX5_howManyGroups : MethodName := ⟨RX5, "howManyGroups", "()I"⟩
abbrev cX5_mostInGroup : ByteArray := prog_7_method_7_code
def yX5_mostInGroup : MethodName := ⟨RX5, "mostInGroup", "()I"⟩
abbrev cX5_threes : ByteArray := prog_7_method_8_code
def yX5_threes : MethodName := ⟨RX5, "threes", "()I"⟩
abbrev cX5_greatestClan : ByteArray := prog_7_method_9_code
def yX5_greatestClan : MethodName := ⟨RX5, "greatestClan", "()I"⟩
abbrev cX5_isClan : ByteArray := prog_7_method_10_code
def yX5_isClan : MethodName := ⟨RX5, "isClan", "(I)Z"⟩
def RX6 : String := "CousinsByAgreement"
def TX6 : u_T := fun k => match k with
  | 0 => ("CousinsByAgreement", "now", "LCousinsByAgreement$County;", true)
  | 1 => ("CousinsByAgreement", "kept", "LCousinsByAgreement$County;", true)
  | 2 => ("CousinsByAgreement", "mind", "LCousinsByAgreement$County;", true)
  | 3 => ("CousinsByAgreement", "before", "LCousinsByAgreement$County;", true)
  | 4 => ("CousinsByAgreement", "isKept", "Z", false)
  | 5 => ("CousinsByAgreement", "letters", "LCousinsByAgreement$Letters;", true)
  | 6 => ("CousinsByAgreement", "told", "[I", true)
  | 7 => ("CousinsByAgreement", "toldMany", "I", false)
  | 8 => ("CousinsByAgreement", "refused", "[I", true)
  | 9 => ("CousinsByAgreement", "ties", "LCousinsByAgreement$Ties;", true)
  | 10 => ("CousinsByAgreement", "seats", "LCousinsByAgreement$Seats;", true)
  | 11 => ("CousinsByAgreement", "pairs", "LCousinsByAgreement$Pairs;", true)
  | 12 => ("CousinsByAgreement", "odds", "LCousinsByAgreement$Odds;", true)
  | 13 => ("CousinsByAgreement", "oneWins", "[I", true)
  | _ => ("CousinsByAgreement", "otherWins", "[I", true)
def tyX6 : Nat → FieldType := fun k => match k with
  | 0 => .object "CousinsByAgreement$County"
  | 1 => .object "CousinsByAgreement$County"
  | 2 => .object "CousinsByAgreement$County"
  | 3 => .object "CousinsByAgreement$County"
  | 4 => .boolean
  | 5 => .object "CousinsByAgreement$Letters"
  | 6 => .array .int
  | 7 => .int
  | 8 => .array .int
  | 9 => .object "CousinsByAgreement$Ties"
  | 10 => .object "CousinsByAgreement$Seats"
  | 11 => .object "CousinsByAgreement$Pairs"
  | 12 => .object "CousinsByAgreement$Odds"
  | 13 => .array .int
  | _ => .array .int
theorem nmX6 : ∀ a, a < 15 → ∀ b, b < 15 → a ≠ b → (TX6 a).2.1 ≠ (TX6 b).2.1 := by decide +kernel
theorem tyX6_ok : ∀ k, k < 15 → parseFieldDescriptor (TX6 k).2.2.1 = some (tyX6 k) := by decide +kernel
abbrev cX6_init : ByteArray := prog_1_method_1_code
def yX6_init : MethodName := ⟨RX6, "<init>", "()V"⟩
abbrev cX6_letter : ByteArray := prog_1_method_2_code
def yX6_letter : MethodName := ⟨RX6, "letter", "(I)I"⟩
abbrev cX6_county : ByteArray := prog_1_method_3_code
def yX6_county : MethodName := ⟨RX6, "county", "()I"⟩
abbrev cX6_person : ByteArray := prog_1_method_4_code
def yX6_person : MethodName := ⟨RX6, "person", "(II)I"⟩
abbrev cX6_tie : ByteArray := prog_1_method_5_code
def yX6_tie : MethodName := ⟨RX6, "tie", "(III)I"⟩
abbrev cX6_signs : ByteArray := prog_1_method_6_code
def yX6_signs : MethodName := ⟨RX6, "signs", "(II)I"⟩
abbrev cX6_feuds : ByteArray := prog_1_method_7_code
def yX6_feuds : MethodName := ⟨RX6, "feuds", "(II)I"⟩
abbrev cX6_gets : ByteArray := prog_1_method_8_code
def yX6_gets : MethodName := ⟨RX6, "gets", "(II)I"⟩
abbrev cX6_turn : ByteArray := prog_1_method_9_code
def yX6_turn : MethodName := ⟨RX6, "turn", "(III)I"⟩
abbrev cX6_years : ByteArray := prog_1_method_10_code
def yX6_years : MethodName := ⟨RX6, "years", "(I)I"⟩
abbrev cX6_hasThen : ByteArray := prog_1_method_11_code
def yX6_hasThen : MethodName := ⟨RX6, "hasThen", "(III)I"⟩
abbrev cX6_areKin : ByteArray := prog_1_method_12_code
def yX6_areKin : MethodName := ⟨RX6, "areKin", "(III)I"⟩
abbrev cX6_allMoney : ByteArray := prog_1_method_13_code
def yX6_allMoney : MethodName := ⟨RX6, "allMoney", "(I)I"⟩
abbrev cX6_ruined : ByteArray := prog_1_method_14_code
def yX6_ruined : MethodName := ⟨RX6, "ruined", "(I)I"⟩
abbrev cX6_first : ByteArray := prog_1_method_15_code
def yX6_first : MethodName := ⟨RX6, "first", "(I)I"⟩
abbrev cX6_richest : ByteArray := prog_1_method_16_code
def yX6_richest : MethodName := ⟨RX6, "richest", "(I)I"⟩
abbrev cX6_kin : ByteArray := prog_1_method_17_code
def yX6_kin : MethodName := ⟨RX6, "kin", "(II)I"⟩
abbrev cX6_removed : ByteArray := prog_1_method_18_code
def yX6_removed : MethodName := ⟨RX6, "removed", "(II)I"⟩
abbrev cX6_farthest : ByteArray := prog_1_method_19_code
def yX6_farthest : MethodName := ⟨RX6, "farthest", "(I)I"⟩
abbrev cX6_groups : ByteArray := prog_1_method_20_code
def yX6_groups : MethodName := ⟨RX6, "groups", "(I)I"⟩
abbrev cX6_clan : ByteArray := prog_1_method_21_code
def yX6_clan : MethodName := ⟨RX6, "clan", "(I)I"⟩
abbrev cX6_bestSign : ByteArray := prog_1_method_22_code
def yX6_bestSign : MethodName := ⟨RX6, "bestSign", "(II)I"⟩
abbrev cX6_bestCut : ByteArray := prog_1_method_23_code
def yX6_bestCut : MethodName := ⟨RX6, "bestCut", "(II)I"⟩
abbrev cX6_feudCosts : ByteArray := prog_1_method_24_code
def yX6_feudCosts : MethodName := ⟨RX6, "feudCosts", "(III)I"⟩
abbrev cX6_peace : ByteArray := prog_1_method_25_code
def yX6_peace : MethodName := ⟨RX6, "peace", "()I"⟩
abbrev cX6_will : ByteArray := prog_1_method_26_code
def yX6_will : MethodName := ⟨RX6, "will", "(II)I"⟩
abbrev cX6_rooms : ByteArray := prog_1_method_27_code
def yX6_rooms : MethodName := ⟨RX6, "rooms", "(I)I"⟩
abbrev cX6_couples : ByteArray := prog_1_method_28_code
def yX6_couples : MethodName := ⟨RX6, "couples", "(II)I"⟩
abbrev cX6_buys : ByteArray := prog_1_method_29_code
def yX6_buys : MethodName := ⟨RX6, "buys", "(II)I"⟩
abbrev cX6_matters : ByteArray := prog_1_method_30_code
def yX6_matters : MethodName := ⟨RX6, "matters", "(I)I"⟩
abbrev cX6_deaths : ByteArray := prog_1_method_31_code
def yX6_deaths : MethodName := ⟨RX6, "deaths", "(IIIIII)J"⟩
abbrev cX6_mean : ByteArray := prog_1_method_32_code
def yX6_mean : MethodName := ⟨RX6, "mean", "(I)J"⟩
abbrev cX6_two : ByteArray := prog_1_method_33_code
def yX6_two : MethodName := ⟨RX6, "two", "(III)I"⟩
abbrev cX6_whatIs : ByteArray := prog_1_method_34_code
def yX6_whatIs : MethodName := ⟨RX6, "whatIs", "(II)I"⟩
abbrev cX6_row : ByteArray := prog_1_method_35_code
def yX6_row : MethodName := ⟨RX6, "row", "(I)I"⟩
abbrev cX6_judge : ByteArray := prog_1_method_36_code
def yX6_judge : MethodName := ⟨RX6, "judge", "()I"⟩
abbrev cX6_clear : ByteArray := prog_1_method_37_code
def yX6_clear : MethodName := ⟨RX6, "clear", "()I"⟩
abbrev cX6_lots : ByteArray := prog_1_method_38_code
def yX6_lots : MethodName := ⟨RX6, "lots", "(III)I"⟩
abbrev cX6_image : ByteArray := prog_1_method_39_code
def yX6_image : MethodName := ⟨RX6, "image", "()I"⟩
abbrev cX6_on : ByteArray := prog_1_method_40_code
def yX6_on : MethodName := ⟨RX6, "on", "()I"⟩
abbrev cX6_count : ByteArray := prog_1_method_41_code
def yX6_count : MethodName := ⟨RX6, "count", "(I)I"⟩
abbrev cX6_refuse : ByteArray := prog_1_method_42_code
def yX6_refuse : MethodName := ⟨RX6, "refuse", "(I)I"⟩
abbrev cX6_firstOf : ByteArray := prog_1_method_43_code
def yX6_firstOf : MethodName := ⟨RX6, "firstOf", "(III)I"⟩
abbrev cX6_outside : ByteArray := prog_1_method_44_code
def yX6_outside : MethodName := ⟨RX6, "outside", "(III)I"⟩
abbrev cX6_otherThan : ByteArray := prog_1_method_45_code
def yX6_otherThan : MethodName := ⟨RX6, "otherThan", "(II)I"⟩
abbrev cX6_nobody : ByteArray := prog_1_method_46_code
def yX6_nobody : MethodName := ⟨RX6, "nobody", "(I)I"⟩
abbrev cX6_notTwo : ByteArray := prog_1_method_47_code
def yX6_notTwo : MethodName := ⟨RX6, "notTwo", "(II)I"⟩
abbrev cX6_notOdds : ByteArray := prog_1_method_48_code
def yX6_notOdds : MethodName := ⟨RX6, "notOdds", "(III)I"⟩
abbrev cX6_bit : ByteArray := prog_1_method_49_code
def yX6_bit : MethodName := ⟨RX6, "bit", "(Z)I"⟩
abbrev cX6_isIn : ByteArray := prog_1_method_50_code
def yX6_isIn : MethodName := ⟨RX6, "isIn", "(II)Z"⟩
abbrev cX6_thinkAhead : ByteArray := prog_1_method_51_code
def yX6_thinkAhead : MethodName := ⟨RX6, "thinkAhead", "(I)V"⟩
abbrev cX6_steadyAfter : ByteArray := prog_1_method_52_code
def yX6_steadyAfter : MethodName := ⟨RX6, "steadyAfter", "()I"⟩
abbrev cX6_firstRuin : ByteArray := prog_1_method_53_code
def yX6_firstRuin : MethodName := ⟨RX6, "firstRuin", "(I)I"⟩
abbrev cX6_bestChange : ByteArray := prog_1_method_54_code
def yX6_bestChange : MethodName := ⟨RX6, "bestChange", "(III)I"⟩
abbrev cX6_mayChange : ByteArray := prog_1_method_55_code
def yX6_mayChange : MethodName := ⟨RX6, "mayChange", "(III)Z"⟩
abbrev cX6_makeChange : ByteArray := prog_1_method_56_code
def yX6_makeChange : MethodName := ⟨RX6, "makeChange", "(III)V"⟩
abbrev cX6_wealthWithFeud : ByteArray := prog_1_method_57_code
def yX6_wealthWithFeud : MethodName := ⟨RX6, "wealthWithFeud", "(IIZI)I"⟩
abbrev cX6_goesAsTold : ByteArray := prog_1_method_58_code
def yX6_goesAsTold : MethodName := ⟨RX6, "goesAsTold", "(I)Z"⟩
abbrev cX6_drawSignings : ByteArray := prog_1_method_59_code
def yX6_drawSignings : MethodName := ⟨RX6, "drawSignings", "(I)I"⟩
abbrev cX6_partOf : ByteArray := prog_1_method_60_code
def yX6_partOf : MethodName := ⟨RX6, "partOf", "(JJI)J"⟩
abbrev cX6_commonDivisor : ByteArray := prog_1_method_61_code
def yX6_commonDivisor : MethodName := ⟨RX6, "commonDivisor", "(JJ)J"⟩
def RX7 : String := "CousinsByAgreementModel"
def TX7 : u_T := fun k => match k with
  | 0 => ("CousinsByAgreementModel", "refused", "[I", true)
  | 1 => ("CousinsByAgreementModel", "kind", "[I", true)
  | 2 => ("CousinsByAgreementModel", "figure", "[I", true)
  | 3 => ("CousinsByAgreementModel", "money", "[I", true)
  | 4 => ("CousinsByAgreementModel", "signed", "[I", true)
  | 5 => ("CousinsByAgreementModel", "feud", "[I", true)
  | 6 => ("CousinsByAgreementModel", "people", "I", false)
  | 7 => ("CousinsByAgreementModel", "year", "I", false)
  | 8 => ("CousinsByAgreementModel", "dead", "I", false)
  | 9 => ("CousinsByAgreementModel", "tape", "[I", true)
  | 10 => ("CousinsByAgreementModel", "letter", "[I", true)
  | 11 => ("CousinsByAgreementModel", "letterAt", "[I", true)
  | 12 => ("CousinsByAgreementModel", "told", "[I", true)
  | 13 => ("CousinsByAgreementModel", "taped", "I", false)
  | 14 => ("CousinsByAgreementModel", "at", "I", false)
  | 15 => ("CousinsByAgreementModel", "statements", "I", false)
  | 16 => ("CousinsByAgreementModel", "kept", "[I", true)
  | 17 => ("CousinsByAgreementModel", "hasImage", "Z", false)
  | 18 => ("CousinsByAgreementModel", "isKeeping", "Z", false)
  | 19 => ("CousinsByAgreementModel", "cursor", "I", false)
  | 20 => ("CousinsByAgreementModel", "before", "[I", true)
  | 21 => ("CousinsByAgreementModel", "steps", "[I", true)
  | 22 => ("CousinsByAgreementModel", "room", "[I", true)
  | 23 => ("CousinsByAgreementModel", "couplesOf", "[I", true)
  | 24 => ("CousinsByAgreementModel", "gotBy", "[I", true)
  | 25 => ("CousinsByAgreementModel", "row", "[I", true)
  | 26 => ("CousinsByAgreementModel", "rowMany", "I", false)
  | _ => ("CousinsByAgreementModel", "lots", "I", false)
def tyX7 : Nat → FieldType := fun k => match k with
  | 0 => .array .int
  | 1 => .array .int
  | 2 => .array .int
  | 3 => .array .int
  | 4 => .array .int
  | 5 => .array .int
  | 6 => .int
  | 7 => .int
  | 8 => .int
  | 9 => .array .int
  | 10 => .array .int
  | 11 => .array .int
  | 12 => .array .int
  | 13 => .int
  | 14 => .int
  | 15 => .int
  | 16 => .array .int
  | 17 => .boolean
  | 18 => .boolean
  | 19 => .int
  | 20 => .array .int
  | 21 => .array .int
  | 22 => .array .int
  | 23 => .array .int
  | 24 => .array .int
  | 25 => .array .int
  | 26 => .int
  | _ => .int
theorem nmX7 : ∀ a, a < 28 → ∀ b, b < 28 → a ≠ b → (TX7 a).2.1 ≠ (TX7 b).2.1 := by decide +kernel
theorem tyX7_ok : ∀ k, k < 28 → parseFieldDescriptor (TX7 k).2.2.1 = some (tyX7 k) := by decide +kernel
abbrev cX7_init : ByteArray := prog_9_method_1_code
def yX7_init : MethodName := ⟨RX7, "<init>", "()V"⟩
abbrev cX7_no : ByteArray := prog_9_method_2_code
def yX7_no : MethodName := ⟨RX7, "no", "(I)I"⟩
abbrev cX7_lower : ByteArray := prog_9_method_3_code
def yX7_lower : MethodName := ⟨RX7, "lower", "(I)I"⟩
abbrev cX7_lowestOf : ByteArray := prog_9_method_4_code
def yX7_lowestOf : MethodName := ⟨RX7, "lowestOf", "(I)J"⟩
abbrev cX7_isIn : ByteArray := prog_9_method_5_code
def yX7_isIn : MethodName := ⟨RX7, "isIn", "(III)Z"⟩
abbrev cX7_bound : ByteArray := prog_9_method_6_code
def yX7_bound : MethodName := ⟨RX7, "bound", "(III)I"⟩
abbrev cX7_has : ByteArray := prog_9_method_7_code
def yX7_has : MethodName := ⟨RX7, "has", "(II)Z"⟩
abbrev cX7_bits : ByteArray := prog_9_method_8_code
def yX7_bits : MethodName := ⟨RX7, "bits", "(I)I"⟩
abbrev cX7_isOne : ByteArray := prog_9_method_9_code
def yX7_isOne : MethodName := ⟨RX7, "isOne", "(I)Z"⟩
abbrev cX7_areTwo : ByteArray := prog_9_method_10_code
def yX7_areTwo : MethodName := ⟨RX7, "areTwo", "(II)Z"⟩
abbrev cX7_isKin : ByteArray := prog_9_method_11_code
def yX7_isKin : MethodName := ⟨RX7, "isKin", "(II)Z"⟩
abbrev cX7_kinOf : ByteArray := prog_9_method_12_code
def yX7_kinOf : MethodName := ⟨RX7, "kinOf", "(I)I"⟩
abbrev cX7_letter : ByteArray := prog_9_method_13_code
def yX7_letter : MethodName := ⟨RX7, "letter", "(I)I"⟩
abbrev cX7_next : ByteArray := prog_9_method_14_code
def yX7_next : MethodName := ⟨RX7, "next", "()I"⟩
abbrev cX7_readsDigits : ByteArray := prog_9_method_15_code
def yX7_readsDigits : MethodName := ⟨RX7, "readsDigits", "(II)Z"⟩
abbrev cX7_kindOf : ByteArray := prog_9_method_16_code
def yX7_kindOf : MethodName := ⟨RX7, "kindOf", "(I)I"⟩
abbrev cX7_readsOne : ByteArray := prog_9_method_17_code
def yX7_readsOne : MethodName := ⟨RX7, "readsOne", "(I)Z"⟩
abbrev cX7_readsAll : ByteArray := prog_9_method_18_code
def yX7_readsAll : MethodName := ⟨RX7, "readsAll", "(II)Z"⟩
abbrev cX7_statement : ByteArray := prog_9_method_19_code
def yX7_statement : MethodName := ⟨RX7, "statement", "()Z"⟩
abbrev cX7_comesTie : ByteArray := prog_9_method_20_code
def yX7_comesTie : MethodName := ⟨RX7, "comesTie", "(III)Z"⟩
abbrev cX7_comesYears : ByteArray := prog_9_method_21_code
def yX7_comesYears : MethodName := ⟨RX7, "comesYears", "(I)Z"⟩
abbrev cX7_comes : ByteArray := prog_9_method_22_code
def yX7_comes : MethodName := ⟨RX7, "comes", "(I)Z"⟩
abbrev cX7_county : ByteArray := prog_9_method_23_code
def yX7_county : MethodName := ⟨RX7, "county", "()I"⟩
abbrev cX7_passes : ByteArray := prog_9_method_24_code
def yX7_passes : MethodName := ⟨RX7, "passes", "([I)V"⟩
abbrev cX7_passOne : ByteArray := prog_9_method_25_code
def yX7_passOne : MethodName := ⟨RX7, "passOne", "(I)I"⟩
abbrev cX7_passesAll : ByteArray := prog_9_method_26_code
def yX7_passesAll : MethodName := ⟨RX7, "passesAll", "(IZ)V"⟩
abbrev cX7_thinks : ByteArray := prog_9_method_27_code
def yX7_thinks : MethodName := ⟨RX7, "thinks", "()V"⟩
abbrev cX7_forgets : ByteArray := prog_9_method_28_code
def yX7_forgets : MethodName := ⟨RX7, "forgets", "()V"⟩
abbrev cX7_changes : ByteArray := prog_9_method_29_code
def yX7_changes : MethodName := ⟨RX7, "changes", "()V"⟩
abbrev cX7_changesBack : ByteArray := prog_9_method_30_code
def yX7_changesBack : MethodName := ⟨RX7, "changesBack", "()V"⟩
abbrev cX7_image : ByteArray := prog_9_method_31_code
def yX7_image : MethodName := ⟨RX7, "image", "()I"⟩
abbrev cX7_on : ByteArray := prog_9_method_32_code
def yX7_on : MethodName := ⟨RX7, "on", "()I"⟩
abbrev cX7_adds : ByteArray := prog_9_method_33_code
def yX7_adds : MethodName := ⟨RX7, "adds", "(III)V"⟩
abbrev cX7_turnsFeud : ByteArray := prog_9_method_34_code
def yX7_turnsFeud : MethodName := ⟨RX7, "turnsFeud", "(II)V"⟩
abbrev cX7_paysOf : ByteArray := prog_9_method_35_code
def yX7_paysOf : MethodName := ⟨RX7, "paysOf", "(II)I"⟩
abbrev cX7_pays : ByteArray := prog_9_method_36_code
def yX7_pays : MethodName := ⟨RX7, "pays", "(II)V"⟩
abbrev cX7_goesYear : ByteArray := prog_9_method_37_code
def yX7_goesYear : MethodName := ⟨RX7, "goesYear", "()V"⟩
abbrev cX7_goes : ByteArray := prog_9_method_38_code
def yX7_goes : MethodName := ⟨RX7, "goes", "(I)V"⟩
abbrev cX7_wealth : ByteArray := prog_9_method_39_code
def yX7_wealth : MethodName := ⟨RX7, "wealth", "()I"⟩
abbrev cX7_twosOfKin : ByteArray := prog_9_method_40_code
def yX7_twosOfKin : MethodName := ⟨RX7, "twosOfKin", "()I"⟩
abbrev cX7_person : ByteArray := prog_9_method_41_code
def yX7_person : MethodName := ⟨RX7, "person", "(II)I"⟩
abbrev cX7_tie : ByteArray := prog_9_method_42_code
def yX7_tie : MethodName := ⟨RX7, "tie", "(III)I"⟩
abbrev cX7_signs : ByteArray := prog_9_method_43_code
def yX7_signs : MethodName := ⟨RX7, "signs", "(II)I"⟩
abbrev cX7_feuds : ByteArray := prog_9_method_44_code
def yX7_feuds : MethodName := ⟨RX7, "feuds", "(II)I"⟩
abbrev cX7_gets : ByteArray := prog_9_method_45_code
def yX7_gets : MethodName := ⟨RX7, "gets", "(II)I"⟩
abbrev cX7_turn : ByteArray := prog_9_method_46_code
def yX7_turn : MethodName := ⟨RX7, "turn", "(III)I"⟩
abbrev cX7_years : ByteArray := prog_9_method_47_code
def yX7_years : MethodName := ⟨RX7, "years", "(I)I"⟩
abbrev cX7_notYears : ByteArray := prog_9_method_48_code
def yX7_notYears : MethodName := ⟨RX7, "notYears", "(I)I"⟩
abbrev cX7_moneyIn : ByteArray := prog_9_method_49_code
def yX7_moneyIn : MethodName := ⟨RX7, "moneyIn", "(II)I"⟩
abbrev cX7_wealthIn : ByteArray := prog_9_method_50_code
def yX7_wealthIn : MethodName := ⟨RX7, "wealthIn", "(I)I"⟩
abbrev cX7_hasThen : ByteArray := prog_9_method_51_code
def yX7_hasThen : MethodName := ⟨RX7, "hasThen", "(III)I"⟩
abbrev cX7_areKin : ByteArray := prog_9_method_52_code
def yX7_areKin : MethodName := ⟨RX7, "areKin", "(III)I"⟩
abbrev cX7_allMoney : ByteArray := prog_9_method_53_code
def yX7_allMoney : MethodName := ⟨RX7, "allMoney", "(I)I"⟩
abbrev cX7_ruinOf : ByteArray := prog_9_method_54_code
def yX7_ruinOf : MethodName := ⟨RX7, "ruinOf", "(I)I"⟩
abbrev cX7_ruined : ByteArray := prog_9_method_55_code
def yX7_ruined : MethodName := ⟨RX7, "ruined", "(I)I"⟩
abbrev cX7_isSteady : ByteArray := prog_9_method_56_code
def yX7_isSteady : MethodName := ⟨RX7, "isSteady", "()Z"⟩
abbrev cX7_steadyAt : ByteArray := prog_9_method_57_code
def yX7_steadyAt : MethodName := ⟨RX7, "steadyAt", "()I"⟩
abbrev cX7_first : ByteArray := prog_9_method_58_code
def yX7_first : MethodName := ⟨RX7, "first", "(I)I"⟩
abbrev cX7_richest : ByteArray := prog_9_method_59_code
def yX7_richest : MethodName := ⟨RX7, "richest", "(I)I"⟩
abbrev cX7_findSteps : ByteArray := prog_9_method_60_code
def yX7_findSteps : MethodName := ⟨RX7, "findSteps", "(I)V"⟩
abbrev cX7_reached : ByteArray := prog_9_method_61_code
def yX7_reached : MethodName := ⟨RX7, "reached", "(I)I"⟩
abbrev cX7_kin : ByteArray := prog_9_method_62_code
def yX7_kin : MethodName := ⟨RX7, "kin", "(II)I"⟩
abbrev cX7_removed : ByteArray := prog_9_method_63_code
def yX7_removed : MethodName := ⟨RX7, "removed", "(II)I"⟩
abbrev cX7_farthest : ByteArray := prog_9_method_64_code
def yX7_farthest : MethodName := ⟨RX7, "farthest", "(I)I"⟩
abbrev cX7_threes : ByteArray := prog_9_method_65_code
def yX7_threes : MethodName := ⟨RX7, "threes", "()I"⟩
abbrev cX7_groups : ByteArray := prog_9_method_66_code
def yX7_groups : MethodName := ⟨RX7, "groups", "(I)I"⟩
abbrev cX7_areAllKin : ByteArray := prog_9_method_67_code
def yX7_areAllKin : MethodName := ⟨RX7, "areAllKin", "(I)Z"⟩
abbrev cX7_clan : ByteArray := prog_9_method_68_code
def yX7_clan : MethodName := ⟨RX7, "clan", "(I)I"⟩
abbrev cX7_notShort : ByteArray := prog_9_method_69_code
def yX7_notShort : MethodName := ⟨RX7, "notShort", "(I)I"⟩
abbrev cX7_moneySigning : ByteArray := prog_9_method_70_code
def yX7_moneySigning : MethodName := ⟨RX7, "moneySigning", "(III)I"⟩
abbrev cX7_bestTurn : ByteArray := prog_9_method_71_code
def yX7_bestTurn : MethodName := ⟨RX7, "bestTurn", "(IIZ)I"⟩
abbrev cX7_bestSign : ByteArray := prog_9_method_72_code
def yX7_bestSign : MethodName := ⟨RX7, "bestSign", "(II)I"⟩
abbrev cX7_bestCut : ByteArray := prog_9_method_73_code
def yX7_bestCut : MethodName := ⟨RX7, "bestCut", "(II)I"⟩
abbrev cX7_feudCosts : ByteArray := prog_9_method_74_code
def yX7_feudCosts : MethodName := ⟨RX7, "feudCosts", "(III)I"⟩
abbrev cX7_peace : ByteArray := prog_9_method_75_code
def yX7_peace : MethodName := ⟨RX7, "peace", "()I"⟩
abbrev cX7_will : ByteArray := prog_9_method_76_code
def yX7_will : MethodName := ⟨RX7, "will", "(II)I"⟩
abbrev cX7_leastRoom : ByteArray := prog_9_method_77_code
def yX7_leastRoom : MethodName := ⟨RX7, "leastRoom", "(II)I"⟩
abbrev cX7_findRooms : ByteArray := prog_9_method_78_code
def yX7_findRooms : MethodName := ⟨RX7, "findRooms", "(I)Z"⟩
abbrev cX7_rooms : ByteArray := prog_9_method_79_code
def yX7_rooms : MethodName := ⟨RX7, "rooms", "(I)I"⟩
abbrev cX7_isCouple : ByteArray := prog_9_method_80_code
def yX7_isCouple : MethodName := ⟨RX7, "isCouple", "(III)Z"⟩
abbrev cX7_lowest : ByteArray := prog_9_method_81_code
def yX7_lowest : MethodName := ⟨RX7, "lowest", "(I)I"⟩
abbrev cX7_findCouples : ByteArray := prog_9_method_82_code
def yX7_findCouples : MethodName := ⟨RX7, "findCouples", "(I)V"⟩
abbrev cX7_partnerIn : ByteArray := prog_9_method_83_code
def yX7_partnerIn : MethodName := ⟨RX7, "partnerIn", "(III)I"⟩
abbrev cX7_partnerOf : ByteArray := prog_9_method_84_code
def yX7_partnerOf : MethodName := ⟨RX7, "partnerOf", "(II)I"⟩
abbrev cX7_couples : ByteArray := prog_9_method_85_code
def yX7_couples : MethodName := ⟨RX7, "couples", "(II)I"⟩
abbrev cX7_turned : ByteArray := prog_9_method_86_code
def yX7_turned : MethodName := ⟨RX7, "turned", "(III)I"⟩
abbrev cX7_exchanges : ByteArray := prog_9_method_87_code
def yX7_exchanges : MethodName := ⟨RX7, "exchanges", "([III)V"⟩
abbrev cX7_moneyChanged : ByteArray := prog_9_method_88_code
def yX7_moneyChanged : MethodName := ⟨RX7, "moneyChanged", "(III)I"⟩
abbrev cX7_buys : ByteArray := prog_9_method_89_code
def yX7_buys : MethodName := ⟨RX7, "buys", "(II)I"⟩
abbrev cX7_matters : ByteArray := prog_9_method_90_code
def yX7_matters : MethodName := ⟨RX7, "matters", "(I)I"⟩
abbrev cX7_divisor : ByteArray := prog_9_method_91_code
def yX7_divisor : MethodName := ⟨RX7, "divisor", "(JJ)J"⟩
abbrev cX7_partOf : ByteArray := prog_9_method_92_code
def yX7_partOf : MethodName := ⟨RX7, "partOf", "(JJI)J"⟩
abbrev cX7_deaths : ByteArray := prog_9_method_93_code
def yX7_deaths : MethodName := ⟨RX7, "deaths", "(IIIIII)J"⟩
abbrev cX7_mean : ByteArray := prog_9_method_94_code
def yX7_mean : MethodName := ⟨RX7, "mean", "(I)J"⟩
abbrev cX7_with : ByteArray := prog_9_method_95_code
def yX7_with : MethodName := ⟨RX7, "with", "(III)I"⟩
abbrev cX7_findTwo : ByteArray := prog_9_method_96_code
def yX7_findTwo : MethodName := ⟨RX7, "findTwo", "(III)V"⟩
abbrev cX7_two : ByteArray := prog_9_method_97_code
def yX7_two : MethodName := ⟨RX7, "two", "(III)I"⟩
abbrev cX7_isSo : ByteArray := prog_9_method_98_code
def yX7_isSo : MethodName := ⟨RX7, "isSo", "(I)Z"⟩
abbrev cX7_bitsFor : ByteArray := prog_9_method_99_code
def yX7_bitsFor : MethodName := ⟨RX7, "bitsFor", "([III)I"⟩
abbrev cX7_whatIs : ByteArray := prog_9_method_100_code
def yX7_whatIs : MethodName := ⟨RX7, "whatIs", "(II)I"⟩
abbrev cX7_row : ByteArray := prog_9_method_101_code
def yX7_row : MethodName := ⟨RX7, "row", "(I)I"⟩
abbrev cX7_judge : ByteArray := prog_9_method_102_code
def yX7_judge : MethodName := ⟨RX7, "judge", "()I"⟩
abbrev cX7_clear : ByteArray := prog_9_method_103_code
def yX7_clear : MethodName := ⟨RX7, "clear", "()I"⟩
abbrev cX7_draw : ByteArray := prog_9_method_104_code
def yX7_draw : MethodName := ⟨RX7, "draw", "(I)I"⟩
abbrev cX7_lots : ByteArray := prog_9_method_105_code
def yX7_lots : MethodName := ⟨RX7, "lots", "(III)I"⟩
abbrev cX7_count : ByteArray := prog_9_method_106_code
def yX7_count : MethodName := ⟨RX7, "count", "(I)I"⟩
def RJx145de : String := "java/io/Serializable"
def TJx145de : u_T := fun k => match k with
  | _ => ("", "", "", false)
def tyJx145de : Nat → FieldType := fun k => match k with
  | _ => .int
theorem nmJx145de : ∀ a, a < 0 → ∀ b, b < 0 → a ≠ b → (TJx145de a).2.1 ≠ (TJx145de b).2.1 := by decide +kernel
theorem tyJx145de_ok : ∀ k, k < 0 → parseFieldDescriptor (TJx145de k).2.2.1 = some (tyJx145de k) := by decide +kernel
def RJx9f9b0 : String := "java/lang/CharSequence"
def TJx9f9b0 : u_T := fun k => match k with
  | _ => ("", "", "", false)
def tyJx9f9b0 : Nat → FieldType := fun k => match k with
  | _ => .int
theorem nmJx9f9b0 : ∀ a, a < 0 → ∀ b, b < 0 → a ≠ b → (TJx9f9b0 a).2.1 ≠ (TJx9f9b0 b).2.1 := by decide +kernel
theorem tyJx9f9b0_ok : ∀ k, k < 0 → parseFieldDescriptor (TJx9f9b0 k).2.2.1 = some (tyJx9f9b0 k) := by decide +kernel
def RJ11 : String := "java/lang/Character"
def TJ11 : u_T := fun k => match k with
  | _ => ("", "", "", false)
def tyJ11 : Nat → FieldType := fun k => match k with
  | _ => .int
theorem nmJ11 : ∀ a, a < 0 → ∀ b, b < 0 → a ≠ b → (TJ11 a).2.1 ≠ (TJ11 b).2.1 := by decide +kernel
theorem tyJ11_ok : ∀ k, k < 0 → parseFieldDescriptor (TJ11 k).2.2.1 = some (tyJ11 k) := by decide +kernel
abbrev cJ11_isValidCodePoint_9a6ad : ByteArray := prog_10_method_11_code
def yJ11_isValidCodePoint_9a6ad : MethodName := ⟨RJ11, "isValidCodePoint", "(I)Z"⟩
abbrev cJ11_highSurrogate_5068e : ByteArray := prog_10_method_28_code
def yJ11_highSurrogate_5068e : MethodName := ⟨RJ11, "highSurrogate", "(I)C"⟩
abbrev cJ11_lowSurrogate_5068e : ByteArray := prog_10_method_29_code
def yJ11_lowSurrogate_5068e : MethodName := ⟨RJ11, "lowSurrogate", "(I)C"⟩
def RJxb160c : String := "java/lang/Comparable"
def TJxb160c : u_T := fun k => match k with
  | _ => ("", "", "", false)
def tyJxb160c : Nat → FieldType := fun k => match k with
  | _ => .int
theorem nmJxb160c : ∀ a, a < 0 → ∀ b, b < 0 → a ≠ b → (TJxb160c a).2.1 ≠ (TJxb160c b).2.1 := by decide +kernel
theorem tyJxb160c_ok : ∀ k, k < 0 → parseFieldDescriptor (TJxb160c k).2.2.1 = some (tyJxb160c k) := by decide +kernel
def RJ6 : String := "java/lang/Integer"
def TJ6 : u_T := fun k => match k with
  | _ => ("", "", "", false)
def tyJ6 : Nat → FieldType := fun k => match k with
  | _ => .int
theorem nmJ6 : ∀ a, a < 0 → ∀ b, b < 0 → a ≠ b → (TJ6 a).2.1 ≠ (TJ6 b).2.1 := by decide +kernel
theorem tyJ6_ok : ∀ k, k < 0 → parseFieldDescriptor (TJ6 k).2.2.1 = some (tyJ6 k) := by decide +kernel
abbrev cJ6_bitCount_0f7a4 : ByteArray := prog_11_method_49_code
def yJ6_bitCount_0f7a4 : MethodName := ⟨RJ6, "bitCount", "(I)I"⟩
def RJ9 : String := "java/lang/Math"
def TJ9 : u_T := fun k => match k with
  | _ => ("", "", "", false)
def tyJ9 : Nat → FieldType := fun k => match k with
  | _ => .int
theorem nmJ9 : ∀ a, a < 0 → ∀ b, b < 0 → a ≠ b → (TJ9 a).2.1 ≠ (TJ9 b).2.1 := by decide +kernel
theorem tyJ9_ok : ∀ k, k < 0 → parseFieldDescriptor (TJ9 k).2.2.1 = some (tyJ9 k) := by decide +kernel
abbrev cJ9_abs_0f7a4 : ByteArray := prog_12_method_59_code
def yJ9_abs_0f7a4 : MethodName := ⟨RJ9, "abs", "(I)I"⟩
abbrev cJ9_max_7cf53 : ByteArray := prog_12_method_65_code
def yJ9_max_7cf53 : MethodName := ⟨RJ9, "max", "(II)I"⟩
abbrev cJ9_min_7cf53 : ByteArray := prog_12_method_69_code
def yJ9_min_7cf53 : MethodName := ⟨RJ9, "min", "(II)I"⟩
def RJ0 : String := "java/lang/String"
def TJ0 : u_T := fun k => match k with
  | _ => ("", "", "", false)
def tyJ0 : Nat → FieldType := fun k => match k with
  | _ => .int
theorem nmJ0 : ∀ a, a < 0 → ∀ b, b < 0 → a ≠ b → (TJ0 a).2.1 ≠ (TJ0 b).2.1 := by decide +kernel
theorem tyJ0_ok : ∀ k, k < 0 → parseFieldDescriptor (TJ0 k).2.2.1 = some (tyJ0 k) := by decide +kernel
abbrev cJ0_length_8abf5 : ByteArray := prog_13_method_54_code
def yJ0_length_8abf5 : MethodName := ⟨RJ0, "length", "()I"⟩
abbrev cJ0_indexOf_0f7a4 : ByteArray := prog_13_method_79_code
def yJ0_indexOf_0f7a4 : MethodName := ⟨RJ0, "indexOf", "(I)I"⟩
abbrev cJ0_indexOf_7cf53 : ByteArray := prog_13_method_80_code
def yJ0_indexOf_7cf53 : MethodName := ⟨RJ0, "indexOf", "(II)I"⟩
abbrev cJ0_coder_7d493 : ByteArray := prog_13_method_152_code
def yJ0_coder_7d493 : MethodName := ⟨RJ0, "coder", "()B"⟩
abbrev cJ0_isLatin1_aae02 : ByteArray := prog_13_method_154_code
def yJ0_isLatin1_aae02 : MethodName := ⟨RJ0, "isLatin1", "()Z"⟩
abbrev cJ0_checkBoundsBeginEnd_23922 : ByteArray := prog_13_method_158_code
def yJ0_checkBoundsBeginEnd_23922 : MethodName := ⟨RJ0, "checkBoundsBeginEnd", "(III)V"⟩
def RJ1 : String := "java/lang/StringLatin1"
def TJ1 : u_T := fun k => match k with
  | _ => ("", "", "", false)
def tyJ1 : Nat → FieldType := fun k => match k with
  | _ => .int
theorem nmJ1 : ∀ a, a < 0 → ∀ b, b < 0 → a ≠ b → (TJ1 a).2.1 ≠ (TJ1 b).2.1 := by decide +kernel
theorem tyJ1_ok : ∀ k, k < 0 → parseFieldDescriptor (TJ1 k).2.2.1 = some (tyJ1 k) := by decide +kernel
abbrev cJ1_canEncode_9a6ad : ByteArray := prog_14_method_4_code
def yJ1_canEncode_9a6ad : MethodName := ⟨RJ1, "canEncode", "(I)Z"⟩
abbrev cJ1_indexOf_4cfef : ByteArray := prog_14_method_22_code
def yJ1_indexOf_4cfef : MethodName := ⟨RJ1, "indexOf", "([BIII)I"⟩
abbrev cJ1_indexOfChar_4cfef : ByteArray := prog_14_method_23_code
def yJ1_indexOfChar_4cfef : MethodName := ⟨RJ1, "indexOfChar", "([BIII)I"⟩
def RJ2 : String := "java/lang/StringUTF16"
def TJ2 : u_T := fun k => match k with
  | _ => ("", "", "", false)
def tyJ2 : Nat → FieldType := fun k => match k with
  | _ => .int
theorem nmJ2 : ∀ a, a < 0 → ∀ b, b < 0 → a ≠ b → (TJ2 a).2.1 ≠ (TJ2 b).2.1 := by decide +kernel
theorem tyJ2_ok : ∀ k, k < 0 → parseFieldDescriptor (TJ2 k).2.2.1 = some (tyJ2 k) := by decide +kernel
abbrev cJ2_getChar_3b067 : ByteArray := prog_15_method_5_code
def yJ2_getChar_3b067 : MethodName := ⟨RJ2, "getChar", "([BI)C"⟩
abbrev cJ2_length_9d52b : ByteArray := prog_15_method_6_code
def yJ2_length_9d52b : MethodName := ⟨RJ2, "length", "([B)I"⟩
abbrev cJ2_indexOf_4cfef : ByteArray := prog_15_method_40_code
def yJ2_indexOf_4cfef : MethodName := ⟨RJ2, "indexOf", "([BIII)I"⟩
abbrev cJ2_indexOfChar_4cfef : ByteArray := prog_15_method_47_code
def yJ2_indexOfChar_4cfef : MethodName := ⟨RJ2, "indexOfChar", "([BIII)I"⟩
abbrev cJ2_indexOfCharUnsafe_4cfef : ByteArray := prog_15_method_48_code
def yJ2_indexOfCharUnsafe_4cfef : MethodName := ⟨RJ2, "indexOfCharUnsafe", "([BIII)I"⟩
abbrev cJ2_indexOfSupplementary_4cfef : ByteArray := prog_15_method_49_code
def yJ2_indexOfSupplementary_4cfef : MethodName := ⟨RJ2, "indexOfSupplementary", "([BIII)I"⟩
abbrev cJ2_checkBoundsBeginEnd_d044e : ByteArray := prog_15_method_93_code
def yJ2_checkBoundsBeginEnd_d044e : MethodName := ⟨RJ2, "checkBoundsBeginEnd", "(II[B)V"⟩
def RJ10 : String := "java/lang/System"
def TJ10 : u_T := fun k => match k with
  | _ => ("", "", "", false)
def tyJ10 : Nat → FieldType := fun k => match k with
  | _ => .int
theorem nmJ10 : ∀ a, a < 0 → ∀ b, b < 0 → a ≠ b → (TJ10 a).2.1 ≠ (TJ10 b).2.1 := by decide +kernel
theorem tyJ10_ok : ∀ k, k < 0 → parseFieldDescriptor (TJ10 k).2.2.1 = some (tyJ10 k) := by decide +kernel
def RJxfd54e : String := "java/lang/constant/Constable"
def TJxfd54e : u_T := fun k => match k with
  | _ => ("", "", "", false)
def tyJxfd54e : Nat → FieldType := fun k => match k with
  | _ => .int
theorem nmJxfd54e : ∀ a, a < 0 → ∀ b, b < 0 → a ≠ b → (TJxfd54e a).2.1 ≠ (TJxfd54e b).2.1 := by decide +kernel
theorem tyJxfd54e_ok : ∀ k, k < 0 → parseFieldDescriptor (TJxfd54e k).2.2.1 = some (tyJxfd54e k) := by decide +kernel
def RJx3cf43 : String := "java/lang/constant/ConstantDesc"
def TJx3cf43 : u_T := fun k => match k with
  | _ => ("", "", "", false)
def tyJx3cf43 : Nat → FieldType := fun k => match k with
  | _ => .int
theorem nmJx3cf43 : ∀ a, a < 0 → ∀ b, b < 0 → a ≠ b → (TJx3cf43 a).2.1 ≠ (TJx3cf43 b).2.1 := by decide +kernel
theorem tyJx3cf43_ok : ∀ k, k < 0 → parseFieldDescriptor (TJx3cf43 k).2.2.1 = some (tyJx3cf43 k) := by decide +kernel
def RJ7 : String := "java/util/Arrays"
def TJ7 : u_T := fun k => match k with
  | _ => ("", "", "", false)
def tyJ7 : Nat → FieldType := fun k => match k with
  | _ => .int
theorem nmJ7 : ∀ a, a < 0 → ∀ b, b < 0 → a ≠ b → (TJ7 a).2.1 ≠ (TJ7 b).2.1 := by decide +kernel
theorem tyJ7_ok : ∀ k, k < 0 → parseFieldDescriptor (TJ7 k).2.2.1 = some (tyJ7 k) := by decide +kernel
abbrev cJ7_fill_53178 : ByteArray := prog_17_method_103_code
def yJ7_fill_53178 : MethodName := ⟨RJ7, "fill", "([II)V"⟩
def RJ3 : String := "jdk/internal/util/Preconditions"
def TJ3 : u_T := fun k => match k with
  | _ => ("", "", "", false)
def tyJ3 : Nat → FieldType := fun k => match k with
  | _ => .int
theorem nmJ3 : ∀ a, a < 0 → ∀ b, b < 0 → a ≠ b → (TJ3 a).2.1 ≠ (TJ3 b).2.1 := by decide +kernel
theorem tyJ3_ok : ∀ k, k < 0 → parseFieldDescriptor (TJ3 k).2.2.1 = some (tyJ3 k) := by decide +kernel
abbrev cJ3_checkFromToIndex_8c36e : ByteArray := prog_18_method_12_code
def yJ3_checkFromToIndex_8c36e : MethodName := ⟨RJ3, "checkFromToIndex", "(IIILjava/util/function/BiFunction;)I"⟩
def RL : String := "CousinsByAgreementLaw"
abbrev cL_law : ByteArray := code
def yL_law : MethodName := ⟨RL, "law", "([I)Z"⟩
end
section
/-! the core: an abstract memory of ints over a fixed layout of cells, and a judgement over it -/
abbrev ZMem : Type := Nat → Nat → Int32
abbrev ZLc : Type := List (Option Value)
abbrev ZMD : Type := MethodName × ByteArray × Nat × Option FieldType
/-- an int array of a length; an object of a class with its fields (none: an int; some r: the cell at place r); an array of references -/
abbrev ZSH : Type := Nat ⊕ ((Nat × List (Option Nat)) ⊕ (Nat × (Nat → Option Nat)))
def zgt : List Cond := lw_tbl.filter goodWord
theorem zgt_in {w : Cond} (h : w ∈ lw_tbl) (hg : goodWord w = true) : w ∈ zgt := List.mem_filter.mpr ⟨h, hg⟩
theorem zgt_good {w : Cond} (h : w ∈ zgt) : (w.onTables && w.keeps) = true ∨ ∃ ty, w = .arrayClass ty := good_of_word (List.mem_filter.mp h).2
def zisN : Cond → Bool
  | .methodLinkNest .. => true
  | .fieldLinkNest .. => true
  | _ => false
def zNW : List Cond := lw_tbl.filter zisN
theorem zNW_in {w : Cond} (h : w ∈ lw_tbl) (hg : zisN w = true) : w ∈ zNW := List.mem_filter.mpr ⟨h, hg⟩
theorem zNW_same {w : Cond} (hw : w ∈ zNW) {u U : State} (h : u.vm = U.vm) (hZ : va_Nw w u) : va_Nw w U := by
  have hn := (List.mem_filter.mp hw).2
  cases w <;> first | exact va_Nw.same rfl h hZ | (cases hn)
theorem zNW_warm {w : Cond} (hw : w ∈ zNW) {s U : State} (h : s.WarmedH U.vm) (hZ : va_Nw w s) : va_Nw w U := by
  have hn := (List.mem_filter.mp hw).2
  cases w <;> first | exact va_Nw.warmM h hZ | exact va_Nw.warmF h hZ | (cases hn)
abbrev zcls : List vw_C := [(RX0, TX0, 7), (RX1, TX1, 2), (RX2, TX2, 6), (RX3, TX3, 4), (RX4, TX4, 3), (RX5, TX5, 2), (RX6, TX6, 15), (RX7, TX7, 28)]
def zcy (o : Nat) : List ZSH := [.inr (.inl (0, [some (o + 1), some (o + 2), some (o + 3), some (o + 4), some (o + 5), none, none])), .inl 8, .inl 8, .inl 8, .inl 8, .inl 8]
def zshL : List ZSH :=
  [.inr (.inl (6, [some 1, some 7, some 13, some 19, none, some 25, some 27, none, some 28, some 29, some 31, some 34, some 38, some 88, some 89])),
  .inr (.inl (0, [some 2, some 3, some 4, some 5, some 6, none, none])), .inl 8, .inl 8, .inl 8, .inl 8, .inl 8,
  .inr (.inl (0, [some 8, some 9, some 10, some 11, some 12, none, none])), .inl 8, .inl 8, .inl 8, .inl 8, .inl 8,
  .inr (.inl (0, [some 14, some 15, some 16, some 17, some 18, none, none])), .inl 8, .inl 8, .inl 8, .inl 8, .inl 8,
  .inr (.inl (0, [some 20, some 21, some 22, some 23, some 24, none, none])), .inl 8, .inl 8, .inl 8, .inl 8, .inl 8,
  .inr (.inl (1, [some 26, none])), .inl 96, .inl 16, .inl 7,
  .inr (.inl (5, [some 30, none])), .inl 8,
  .inr (.inl (4, [some 32, some 33, none])), .inl 8, .inl 8,
  .inr (.inl (3, [some 35, some 36, some 37, none])), .inl 256, .inl 8, .inl 8,
  .inr (.inl (2, [some 39, none, none, none, none, none])), .inr (.inr (8, fun j => some (40 + 6 * j))),
  .inr (.inl (0, [some 41, some 42, some 43, some 44, some 45, none, none])), .inl 8, .inl 8, .inl 8, .inl 8, .inl 8,
  .inr (.inl (0, [some 47, some 48, some 49, some 50, some 51, none, none])), .inl 8, .inl 8, .inl 8, .inl 8, .inl 8,
  .inr (.inl (0, [some 53, some 54, some 55, some 56, some 57, none, none])), .inl 8, .inl 8, .inl 8, .inl 8, .inl 8,
  .inr (.inl (0, [some 59, some 60, some 61, some 62, some 63, none, none])), .inl 8, .inl 8, .inl 8, .inl 8, .inl 8,
  .inr (.inl (0, [some 65, some 66, some 67, some 68, some 69, none, none])), .inl 8, .inl 8, .inl 8, .inl 8, .inl 8,
  .inr (.inl (0, [some 71, some 72, some 73, some 74, some 75, none, none])), .inl 8, .inl 8, .inl 8, .inl 8, .inl 8,
  .inr (.inl (0, [some 77, some 78, some 79, some 80, some 81, none, none])), .inl 8, .inl 8, .inl 8, .inl 8, .inl 8,
  .inr (.inl (0, [some 83, some 84, some 85, some 86, some 87, none, none])), .inl 8, .inl 8, .inl 8, .inl 8, .inl 8,
  .inl 4, .inl 4,
  .inr (.inl (7, [some 91, some 92, some 93, some 94, some 95, some 96, none, none, none, some 97, some 98, some 99, some 100, none, none, none, some 101, none, none, none, some 102, some 103, some 104, some 105, some 106, some 107, none, none])),
  .inl 7, .inl 8, .inl 8, .inl 8, .inl 8, .inl 8, .inl 96, .inl 48, .inl 48, .inl 144, .inl 126, .inl 16, .inl 8, .inl 8, .inl 256, .inl 8, .inl 16]
def zsh (k : Nat) : ZSH := zshL.getD k (.inl 0)
theorem zsh_of {k : Nat} {x : ZSH} (h : zshL[k]? = some x) : zsh k = x ∧ k < 108 := by
  obtain ⟨h1, h2⟩ := List.getElem?_eq_some_iff.mp h
  refine ⟨?_, h1⟩
  rw [zsh, List.getD_eq_getElem?_getD, h]
  rfl
def zc (ad : Nat → Nat) : Value → Value
  | .ref k => .ref (ad k)
  | v => v
theorem zc_cat (ad : Nat → Nat) (v : Value) : (zc ad v).category = v.category := by cases v <;> rfl
def zfs (ad : Nat → Nat) (fs : List (Option Nat)) (f : Nat → Int32) : List Value := fs.zipIdx.map (fun q => match q.1 with
  | none => .int (f q.2)
  | some r => .ref (ad r))
theorem zfs_n {ad : Nat → Nat} {fs : List (Option Nat)} {f : Nat → Int32} {k : Nat} (h : fs[k]? = some none) : (zfs ad fs f)[k]? = some (.int (f k)) := by
  simp [zfs, List.getElem?_map, List.getElem?_zipIdx, h]
theorem zfs_s {ad : Nat → Nat} {fs : List (Option Nat)} {f : Nat → Int32} {k r : Nat} (h : fs[k]? = some (some r)) : (zfs ad fs f)[k]? = some (.ref (ad r)) := by
  simp [zfs, List.getElem?_map, List.getElem?_zipIdx, h]
theorem zfs_len {ad : Nat → Nat} {fs : List (Option Nat)} {f : Nat → Int32} : (zfs ad fs f).length = fs.length := by simp [zfs]
theorem zfs_set {ad : Nat → Nat} {fs : List (Option Nat)} {f : Nat → Int32} {k : Nat} {v : Int32} (h : fs[k]? = some none) : (zfs ad fs f).set k (.int v) = zfs ad fs (upd f k v) := by
  have hk := (List.getElem?_eq_some_iff.mp h).1
  apply List.ext_getElem?
  intro j
  rw [List.getElem?_set]
  by_cases hj : k = j
  · subst hj
    rw [if_pos rfl, if_pos (by rw [zfs_len]; exact hk), zfs_n h]
    simp [upd]
  · rw [if_neg hj]
    have hj' : ¬ j = k := fun e => hj e.symm
    simp only [zfs, List.getElem?_map, List.getElem?_zipIdx]
    cases hx : fs[j]? with
    | none => rfl
    | some o => cases o with
      | none => simp [upd, hj']
      | some r => rfl
def zcel (ad : Nat → Nat) (cI cQ : ClassId) (x : ZSH) (f : Nat → Int32) : va_E := match x with
  | .inl n => .inl (cI, n, .inl f)
  | .inr (.inl q) => .inr (q.1, zfs ad q.2 f)
  | .inr (.inr q) => .inl (cQ, q.1, .inr (.inr (.inr (.inr (fun j => (q.2 j).map ad)))))
def zwl (ad : Nat → Nat) (cI cQ : ClassId) (M : ZMem) : va_W := (List.range 108).map (fun k => (ad k, zcel ad cI cQ (zsh k) (M k)))
theorem zwl_at {ad : Nat → Nat} {cI cQ : ClassId} {M : ZMem} {k : Nat} {x : ZSH} (h : zshL[k]? = some x) : (zwl ad cI cQ M)[k]? = some (ad k, zcel ad cI cQ x (M k)) := by
  obtain ⟨h1, h2⟩ := zsh_of h
  simp [zwl, List.getElem?_map, List.getElem?_range h2, h1]
def zupf (M : ZMem) (b : Nat) (f : Nat → Int32) : ZMem := fun b' => if b' = b then f else M b'
def zup (M : ZMem) (b k : Nat) (v : Int32) : ZMem := zupf M b (upd (M b) k v)
theorem zwl_set {ad : Nat → Nat} {cI cQ : ClassId} {M : ZMem} {b : Nat} {x : ZSH} {f : Nat → Int32} (h : zshL[b]? = some x) : (zwl ad cI cQ M).set b (ad b, zcel ad cI cQ x f) = zwl ad cI cQ (zupf M b f) := by
  obtain ⟨h1, h2⟩ := zsh_of h
  apply List.ext_getElem?
  intro j
  rw [List.getElem?_set]
  by_cases hj : b = j
  · subst hj
    rw [if_pos rfl, if_pos (by simp [zwl]; exact h2)]
    simp [zwl, List.getElem?_map, List.getElem?_range h2, h1, zupf]
  · rw [if_neg hj]
    have hj' : ¬ j = b := fun e => hj e.symm
    simp only [zwl, List.getElem?_map]
    cases hx : (List.range 108)[j]? with
    | none => rfl
    | some y =>
      have hy : y = j := by
        obtain ⟨q1, q2⟩ := List.getElem?_eq_some_iff.mp hx
        simpa using q2.symm
      subst hy
      simp [zupf, hj']
/-- what is frozen: the tables' words, the String constant and a static of String -/
def ZK (G : va_G) (cI cQ : ClassId) (ad : Nat → Nat) (A : Nat → Prop) (U : State) (H : Heap) : Prop :=
  va_K G zcls [(cI, .int), (cQ, .object RX0)] U ∧ (∀ w ∈ zNW, va_Nw w U) ∧ vk_R RX1 41 "pltwda" (ad 1000) U ∧ vk_S 1 [6] [[112, 108, 116, 119, 100, 97]] (fun _ => ad 1000) (fun _ => ad 1001) A U H ∧ va_Z "java/lang/String" "COMPACT_STRINGS" "Z" (.int 1) A U H
theorem ZK.go {G : va_G} {cI cQ : ClassId} {ad : Nat → Nat} {A : Nat → Prop} {s U : State} {H : Heap} {locs : List Loc} (h : ZK G cI cQ ad A s s.heap) (hS : va_S A s.heap H locs) (hU : U.heap = H) (hW : s.WarmedH U.vm) : ZK G cI cQ ad A U U.heap := by
  obtain ⟨h1, h2, h3, h4, h5⟩ := h
  rw [hU]
  exact ⟨va_K.moved hW.alike h1, fun w hw => zNW_warm hw hW (h2 w hw), vk_R.warm hW h3, vk_S.moved hW.alike (vk_S.kept h4 hS.2.1), va_Z.moved hW.alike (va_Z.kept h5 hS.2.1)⟩
theorem ZK.blind {G : va_G} {cI cQ : ClassId} {ad : Nat → Nat} {A : Nat → Prop} {U : State} {g : JFrame} {mk : MethodId} {a : Array Value} (h : ZK G cI cQ ad A U U.heap) : ZK G cI cQ ad A (U.calling g mk a) (U.calling g mk a).heap := by
  obtain ⟨h1, h2, h3, h4, h5⟩ := h
  exact ⟨va_K.moved (u := U) (U := U.calling g mk a) (Vm.Alike.refl U.vm) h1, fun w hw => zNW_same (u := U) (U := U.calling g mk a) hw rfl (h2 w hw), vk_R.same (u := U) (U := U.calling g mk a) rfl h3, vk_S.moved (u := U) (U := U.calling g mk a) (Vm.Alike.refl U.vm) h4, va_Z.moved (u := U) (U := U.calling g mk a) (Vm.Alike.refl U.vm) h5⟩
def ZW (G : va_G) (cI cQ : ClassId) (ad : Nat → Nat) (A : Nat → Prop) (M : ZMem) (H : Heap) : Prop := va_P G zcls (zwl ad cI cQ M) H ∧ va_D A (zwl ad cI cQ M)
def zLH (ls : Array Slot) (nL : Nat) (L : ZLc) : Prop := ls.size = nL ∧ lv_wf ls ∧ ∀ (i : Nat) (v : Value), L[i]? = some (some v) → ls[i]? = some (.val v)
def zlist (L : ZLc) : List (Nat × Value) := L.zipIdx.filterMap (fun q => q.1.map (fun v => (q.2, v)))
theorem zlist_mem {L : ZLc} {q : Nat × Value} : q ∈ zlist L ↔ L[q.1]? = some (some q.2) := by
  constructor
  · intro h
    obtain ⟨x, hx, hq⟩ := List.mem_filterMap.mp h
    have hx' := List.mem_zipIdx_iff_getElem?.mp hx
    cases hx1 : x.1 with
    | none => rw [hx1] at hq; cases hq
    | some v =>
      rw [hx1] at hq
      have e := Option.some.inj hq
      rw [← e]
      show L[x.2]? = some (some v)
      rw [hx', hx1]
  · intro h
    refine List.mem_filterMap.mpr ⟨(some q.2, q.1), List.mem_zipIdx_iff_getElem?.mpr h, rfl⟩
theorem zLH.has {ls : Array Slot} {nL : Nat} {L : ZLc} (h : zLH ls nL L) : lv_has ls nL (zlist L) := ⟨h.1, h.2.1, fun q hq => h.2.2 q.1 q.2 (zlist_mem.mp hq)⟩
def zkill (L : ZLc) : Nat → ZLc
  | 0 => L
  | j + 1 => match L[j]? with
    | some (some v) => match v with
      | .long _ => L.set j none
      | .double _ => L.set j none
      | _ => L
    | _ => L
def zst1 (L : ZLc) (i : Nat) (v : Value) : ZLc := (zkill L i).set i (some v)
def zst2 (L : ZLc) (i : Nat) (v : Value) : ZLc := ((zkill L i).set (i + 1) none).set i (some v)
theorem zset_some {L : ZLc} {i j : Nat} {w : Value} (h : (L.set j none)[i]? = some (some w)) : L[i]? = some (some w) ∧ i ≠ j := by
  rw [List.getElem?_set] at h
  by_cases e : j = i
  · rw [if_pos e] at h
    split at h <;> simp at h
  · rw [if_neg e] at h
    exact ⟨h, fun q => e q.symm⟩
theorem zkill_some {L : ZLc} {i j : Nat} {w : Value} (h : (zkill L i)[j]? = some (some w)) : L[j]? = some (some w) ∧ ¬ (j + 1 = i ∧ w.category = 2) := by
  cases i with
  | zero => exact ⟨h, fun q => by omega⟩
  | succ i =>
    cases hi : L[i]? with
    | none =>
      simp only [zkill, hi] at h
      refine ⟨h, fun q => ?_⟩
      have : j = i := by omega
      subst this
      rw [hi] at h
      cases h
    | some o => cases o with
      | none =>
        simp only [zkill, hi] at h
        refine ⟨h, fun q => ?_⟩
        have : j = i := by omega
        subst this
        rw [hi] at h
        cases h
      | some v =>
        have key : (L.set i none)[j]? = some (some w) → L[j]? = some (some w) ∧ ¬ (j + 1 = i + 1 ∧ w.category = 2) := fun q => ⟨(zset_some q).1, fun z => (zset_some q).2 (by omega)⟩
        have key2 : v.category = 1 → L[j]? = some (some w) → L[j]? = some (some w) ∧ ¬ (j + 1 = i + 1 ∧ w.category = 2) := fun hv q => ⟨q, fun z => by
          have : j = i := by omega
          subst this
          rw [hi] at q
          have e : v = w := Option.some.inj (Option.some.inj q)
          rw [← e] at z
          omega⟩
        cases v <;> simp only [zkill, hi] at h <;> first | exact key h | exact key2 rfl h
theorem zst1_of {ls : Array Slot} {nL i : Nat} {L : ZLc} {v : Value} (h : lv_has ls nL ((i, v) :: (zlist L).filter (fun q => !(q.1 == i) && !(q.1 + 1 == i && q.2.category == 2)))) : zLH ls nL (zst1 L i v) := by
  refine ⟨h.1, h.2.1, fun j w hj => ?_⟩
  rw [zst1, List.getElem?_set] at hj
  by_cases e : i = j
  · subst e
    rw [if_pos rfl] at hj
    split at hj
    · have e2 : v = w := Option.some.inj (Option.some.inj hj)
      subst e2
      exact h.2.2 (i, v) List.mem_cons_self
    · cases hj
  · rw [if_neg e] at hj
    obtain ⟨h1, h2⟩ := zkill_some hj
    refine h.2.2 (j, w) (List.mem_cons_of_mem _ (List.mem_filter.mpr ⟨zlist_mem.mpr h1, ?_⟩))
    have e' : ¬ j = i := fun q => e q.symm
    by_cases q : j + 1 = i
    · have : ¬ w.category = 2 := fun z => h2 ⟨q, z⟩
      simp [e', this]
    · simp [e', q]
theorem zst2_of {ls : Array Slot} {nL i : Nat} {L : ZLc} {v : Value} (h : lv_has ls nL ((i, v) :: (zlist L).filter (fun q => !(q.1 == i) && (!(q.1 == i + 1) && !(q.1 + 1 == i && q.2.category == 2))))) : zLH ls nL (zst2 L i v) := by
  refine ⟨h.1, h.2.1, fun j w hj => ?_⟩
  rw [zst2, List.getElem?_set] at hj
  by_cases e : i = j
  · subst e
    rw [if_pos rfl] at hj
    split at hj
    · have e2 : v = w := Option.some.inj (Option.some.inj hj)
      subst e2
      exact h.2.2 (i, v) List.mem_cons_self
    · cases hj
  · rw [if_neg e] at hj
    obtain ⟨h0, h3⟩ := zset_some hj
    obtain ⟨h1, h2⟩ := zkill_some h0
    refine h.2.2 (j, w) (List.mem_cons_of_mem _ (List.mem_filter.mpr ⟨zlist_mem.mpr h1, ?_⟩))
    have e' : ¬ j = i := fun q => e q.symm
    by_cases q : j + 1 = i
    · have : ¬ w.category = 2 := fun z => h2 ⟨q, z⟩
      simp [e', h3, this]
    · simp [e', h3, q]
def zmL (ad : Nat → Nat) (L : ZLc) : ZLc := L.map (Option.map (zc ad))
theorem zmL_at {ad : Nat → Nat} {L : ZLc} {i : Nat} {v : Value} (h : L[i]? = some (some v)) : (zmL ad L)[i]? = some (some (zc ad v)) := by
  simp [zmL, h]
theorem zmL_set (ad : Nat → Nat) (L : ZLc) (i : Nat) (o : Option Value) : zmL ad (L.set i o) = (zmL ad L).set i (o.map (zc ad)) := by
  simp [zmL, List.map_set]
theorem zmL_kill (ad : Nat → Nat) (L : ZLc) (i : Nat) : zmL ad (zkill L i) = zkill (zmL ad L) i := by
  cases i with
  | zero => rfl
  | succ i =>
    cases hi : L[i]? with
    | none => simp [zkill, hi, zmL]
    | some o => cases o with
      | none => simp [zkill, hi, zmL]
      | some v => cases v <;> simp [zkill, hi, zmL, zc, List.map_set]
theorem zmL_st1 (ad : Nat → Nat) (L : ZLc) (i : Nat) (v : Value) : zmL ad (zst1 L i v) = zst1 (zmL ad L) i (zc ad v) := by
  rw [zst1, zst1, zmL_set, zmL_kill]; rfl
theorem zmL_st2 (ad : Nat → Nat) (L : ZLc) (i : Nat) (v : Value) : zmL ad (zst2 L i v) = zst2 (zmL ad L) i (zc ad v) := by
  rw [zst2, zst2, zmL_set, zmL_set, zmL_kill]; rfl
def zrm (d : Nat) : Room := { frames := d, cells := 0, slots := 0, locals := 40 * d }
def ZQ (G : va_G) (cI cQ : ClassId) (ad : Nat → Nat) (A : Nat → Prop) (Q : Option Value → ZMem → Prop) : Array Value → State → Outcome → State → Prop := fun _ st oc t => (∃ (v : Option Value) (M : ZMem), oc = .returned (v.map (zc ad)) ∧ Q v M ∧ ZW G cI cQ ad A M t.heap) ∧ va_F A st t
/-- the judgement: from pc, with these locals, this stack, this memory, the method returns with Q -/
def ZV (m : ZMD) (d : Nat) (Q : Option Value → ZMem → Prop) (pc : Nat) (L : ZLc) (st : List Value) (M : ZMem) : Prop :=
  ∀ (G : va_G) (cI cQ : ClassId) (ad : Nat → Nat) (A : Nat → Prop) (p : Program) (l : Launch) (e : Env) (s : State) (mi : MethodId) (args : Array Value) (below : List Frame) (meth : Method) (c : Code) (H : Heap) (locs : List Loc) (ls : Array Slot),
    CallFix p mi c m.2.1 m.2.2.1 s args zgt m.1.cls → meth.sig.returnType = m.2.2.2 → meth.locks = false → ZK G cI cQ ad A s s.heap → ZW G cI cQ ad A M H → va_S A s.heap H locs → zLH ls m.2.2.1 (zmL ad L) →
    W p l e (zrm d) s mi args below meth c H locs 0 0 (MQ below (ZQ G cI cQ ad A Q) args s 0 0 A) (F0 mi pc ls (st.map (zc ad)))
/-- a method's contract at given arguments and memory -/
def ZEx (m : ZMD) (d : Nat) (as : List Value) (M : ZMem) (Q : Option Value → ZMem → Prop) : Prop :=
  ∀ (l : Launch) (G : va_G) (cI cQ : ClassId) (ad : Nat → Nat) (A : Nat → Prop), Met l m.1 (Cond.code m.1 m.2.1 m.2.2.1 m.2.2.2 :: zgt) (zrm d) (va_Pc (as.map (zc ad)) (fun U => ZK G cI cQ ad A U U.heap ∧ ZW G cI cQ ad A M U.heap)) (ZQ G cI cQ ad A Q) 0 0 A
theorem ZQ.mono {G : va_G} {cI cQ : ClassId} {ad : Nat → Nat} {A : Nat → Prop} {Q Q' : Option Value → ZMem → Prop} (h : ∀ v M, Q v M → Q' v M) {a : Array Value} {st t : State} {oc : Outcome} (hq : ZQ G cI cQ ad A Q a st oc t) : ZQ G cI cQ ad A Q' a st oc t := by
  obtain ⟨⟨v, M, h1, h2, h3⟩, h4⟩ := hq
  exact ⟨⟨v, M, h1, h v M h2, h3⟩, h4⟩
theorem zv_mono {m : ZMD} {d : Nat} {Q Q' : Option Value → ZMem → Prop} {pc : Nat} {L : ZLc} {st : List Value} {M : ZMem} (h : ∀ v M, Q v M → Q' v M) (k : ZV m d Q pc L st M) : ZV m d Q' pc L st M := by
  intro G cI cQ ad A p l e s mi args below meth c H locs ls S hr hlk hK hW hS hL T hT X
  obtain ⟨t, a1, o, b1, b2, b3, b4⟩ := k G cI cQ ad A p l e s mi args below meth c H locs ls S hr hlk hK hW hS hL T hT X
  exact ⟨t, a1, o, b1, b2, ZQ.mono h b3, b4⟩
def zenl : List Value → ZLc
  | [] => []
  | v :: vs => if v.category = 2 then some v :: none :: zenl vs else some v :: zenl vs
def zent (as : List Value) (n : Nat) : ZLc := zenl as ++ List.replicate (n - (zenl as).length) none
theorem zenl_args {ad : Nat → Nat} : ∀ (as : List Value) (i0 i : Nat) (v : Value), (zenl as)[i]? = some (some v) → (i0 + i, zc ad v) ∈ lv_args i0 (as.map (zc ad)) := by
  intro as
  induction as with
  | nil => intro i0 i v h; simp [zenl] at h
  | cons a as ih =>
    intro i0 i v h
    by_cases hc : a.category = 2
    · simp only [zenl, hc, if_true] at h
      simp only [List.map_cons, lv_args, zc_cat, hc, if_true]
      match i, h with
      | 0, h => simp at h; subst h; exact List.mem_cons_self
      | 1, h => simp at h
      | j + 2, h =>
        simp at h
        have := ih (i0 + 2) j v h
        rw [show i0 + 2 + j = i0 + (j + 2) by omega] at this
        exact List.mem_cons_of_mem _ this
    · simp only [zenl, hc, if_false] at h
      simp only [List.map_cons, lv_args, zc_cat, hc, if_false]
      match i, h with
      | 0, h => simp at h; subst h; exact List.mem_cons_self
      | j + 1, h =>
        simp at h
        have := ih (i0 + 1) j v h
        rw [show i0 + 1 + j = i0 + (j + 1) by omega] at this
        exact List.mem_cons_of_mem _ this
theorem zent_LH {ad : Nat → Nat} {as : List Value} {n : Nat} (h : (zenl as).length ≤ n) : zLH ((lg_sl (as.map (zc ad)) ++ List.replicate (n - (lg_sl (as.map (zc ad))).length) Slot.unset).toArray) n (zmL ad (zent as n)) := by
  have hlen : (lg_sl (as.map (zc ad))).length = (zenl as).length := by
    clear h
    induction as with
    | nil => rfl
    | cons a as ih =>
      have e : lg_sl ((a :: as).map (zc ad)) = (if (zc ad a).category = 2 then [.val (zc ad a), .second] else [.val (zc ad a)]) ++ lg_sl (as.map (zc ad)) := by simp [lg_sl]
      rw [e, List.length_append, ih]
      by_cases hc : a.category = 2
      · simp [zenl, zc_cat, hc]; omega
      · simp [zenl, zc_cat, hc]; omega
  have h0 := lv_entry (as.map (zc ad)) (n := n) (by omega)
  refine ⟨h0.1, h0.2.1, fun i v hi => ?_⟩
  simp only [zmL, List.getElem?_map] at hi
  cases hx : (zent as n)[i]? with
  | none => rw [hx] at hi; simp at hi
  | some o => cases o with
    | none => rw [hx] at hi; simp at hi
    | some w =>
      rw [hx] at hi
      have e : zc ad w = v := Option.some.inj (Option.some.inj hi)
      rw [zent, List.getElem?_append] at hx
      split at hx
      · have := zenl_args (ad := ad) as 0 i w hx
        rw [Nat.zero_add, e] at this
        exact h0.2.2 (i, v) this
      · rw [List.getElem?_replicate] at hx
        split at hx <;> simp at hx
theorem zex_intro {m : ZMD} {d : Nat} {as : List Value} {M : ZMem} {Q : Option Value → ZMem → Prop} {L : ZLc} (hpl : plainName m.1.cls = true) (hlen : (zenl as).length ≤ m.2.2.1) (hL : zent as m.2.2.1 = L) (h : ZV m d Q 0 L [] M) : ZEx m d as M Q := by
  intro l G cI cQ ad A
  refine Met.ofW (cc := m.2.1) (maxL := m.2.2.1) (ret := m.2.2.2) hpl rfl ?_
  intro p e s mi args below meth c s₁ B hml hv
  obtain ⟨rfl, hK, hW⟩ := hv
  subst hL
  have hts := atoms_spec (ws := Cond.code m.1 m.2.1 m.2.2.1 m.2.2.2 :: zgt) B.pre
  rw [lg_entry_eq]
  exact h G cI cQ ad A p l e s mi _ below meth c s.heap [] _ ⟨B.exec, B.bytes, hml, findClass_of_methodNamed B.named, fun w hw => hts w (List.mem_cons_of_mem _ hw)⟩ B.returns B.notSynchronized hK hW va_S.rf (zent_LH hlen)
theorem zex_mono {m : ZMD} {d : Nat} {as : List Value} {M : ZMem} {Q Q' : Option Value → ZMem → Prop} (h : ∀ v M, Q v M → Q' v M) (k : ZEx m d as M Q) : ZEx m d as M Q' := by
  intro l G cI cQ ad A p e ha hc hk s mi args below hf happ hP hT
  obtain ⟨t, o, a1, b1, b2, b3, b4⟩ := k l G cI cQ ad A p e ha hc hk s mi args below hf happ hP hT
  exact ⟨t, o, a1, b1, b2, ZQ.mono h b3, b4⟩
end
section
theorem zv_iconst {m : ZMD} {d : Nat} {Q : Option Value → ZMem → Prop} {pc pc' : Nat} {L : ZLc} {st : List Value} {M : ZMem} {n : Int} {v : Int32} (hd : decode m.2.1 pc = .ok (.iconst n, 1)) (hp : pc + 1 = pc') (hv : Int32.ofInt n = v) (k : ZV m d Q pc' L (.int v :: st) M) : ZV m d Q pc L (st) M := by
  subst hp
  intro G cI cQ ad A p l e s mi args below meth c H locs ls S hr hlk hK hW hS hL
  exact lv_iconst S.1 S.2.1 hd hv (k G cI cQ ad A p l e s mi args below meth c H locs ls S hr hlk hK hW hS hL)
theorem zv_bipush {m : ZMD} {d : Nat} {Q : Option Value → ZMem → Prop} {pc pc' : Nat} {L : ZLc} {st : List Value} {M : ZMem} {n : Int} {v : Int32} (hd : decode m.2.1 pc = .ok (.bipush n, 2)) (hp : pc + 2 = pc') (hv : (Int8.ofInt n).toInt32 = v) (k : ZV m d Q pc' L (.int v :: st) M) : ZV m d Q pc L (st) M := by
  subst hp
  intro G cI cQ ad A p l e s mi args below meth c H locs ls S hr hlk hK hW hS hL
  exact lv_bipush S.1 S.2.1 hd hv (k G cI cQ ad A p l e s mi args below meth c H locs ls S hr hlk hK hW hS hL)
theorem zv_sipush {m : ZMD} {d : Nat} {Q : Option Value → ZMem → Prop} {pc pc' : Nat} {L : ZLc} {st : List Value} {M : ZMem} {n : Int} {v : Int32} (hd : decode m.2.1 pc = .ok (.sipush n, 3)) (hp : pc + 3 = pc') (hv : (Int16.ofInt n).toInt32 = v) (k : ZV m d Q pc' L (.int v :: st) M) : ZV m d Q pc L (st) M := by
  subst hp
  intro G cI cQ ad A p l e s mi args below meth c H locs ls S hr hlk hK hW hS hL
  exact lv_sipush S.1 S.2.1 hd hv (k G cI cQ ad A p l e s mi args below meth c H locs ls S hr hlk hK hW hS hL)
theorem zv_lconst {m : ZMD} {d : Nat} {Q : Option Value → ZMem → Prop} {pc pc' : Nat} {L : ZLc} {st : List Value} {M : ZMem} {n : Fin 2} {v : Int64} (hd : decode m.2.1 pc = .ok (.lconst n, 1)) (hp : pc + 1 = pc') (hv : Int64.ofNat (n : Nat) = v) (k : ZV m d Q pc' L (.long v :: st) M) : ZV m d Q pc L (st) M := by
  subst hp
  intro G cI cQ ad A p l e s mi args below meth c H locs ls S hr hlk hK hW hS hL
  exact lv_lconst S.1 S.2.1 hd hv (k G cI cQ ad A p l e s mi args below meth c H locs ls S hr hlk hK hW hS hL)
theorem zv_iadd {m : ZMD} {d : Nat} {Q : Option Value → ZMem → Prop} {pc pc' : Nat} {L : ZLc} {st : List Value} {M : ZMem} {x y : Int32} (hd : decode m.2.1 pc = .ok (.iadd, 1)) (hp : pc + 1 = pc')  (k : ZV m d Q pc' L (.int (x + y) :: st) M) : ZV m d Q pc L (.int y :: .int x :: st) M := by
  subst hp
  intro G cI cQ ad A p l e s mi args below meth c H locs ls S hr hlk hK hW hS hL
  exact lv_iadd S.1 S.2.1 hd (k G cI cQ ad A p l e s mi args below meth c H locs ls S hr hlk hK hW hS hL)
theorem zv_isub {m : ZMD} {d : Nat} {Q : Option Value → ZMem → Prop} {pc pc' : Nat} {L : ZLc} {st : List Value} {M : ZMem} {x y : Int32} (hd : decode m.2.1 pc = .ok (.isub, 1)) (hp : pc + 1 = pc')  (k : ZV m d Q pc' L (.int (x - y) :: st) M) : ZV m d Q pc L (.int y :: .int x :: st) M := by
  subst hp
  intro G cI cQ ad A p l e s mi args below meth c H locs ls S hr hlk hK hW hS hL
  exact lv_isub S.1 S.2.1 hd (k G cI cQ ad A p l e s mi args below meth c H locs ls S hr hlk hK hW hS hL)
theorem zv_imul {m : ZMD} {d : Nat} {Q : Option Value → ZMem → Prop} {pc pc' : Nat} {L : ZLc} {st : List Value} {M : ZMem} {x y : Int32} (hd : decode m.2.1 pc = .ok (.imul, 1)) (hp : pc + 1 = pc')  (k : ZV m d Q pc' L (.int (x * y) :: st) M) : ZV m d Q pc L (.int y :: .int x :: st) M := by
  subst hp
  intro G cI cQ ad A p l e s mi args below meth c H locs ls S hr hlk hK hW hS hL
  exact lv_imul S.1 S.2.1 hd (k G cI cQ ad A p l e s mi args below meth c H locs ls S hr hlk hK hW hS hL)
theorem zv_iand {m : ZMD} {d : Nat} {Q : Option Value → ZMem → Prop} {pc pc' : Nat} {L : ZLc} {st : List Value} {M : ZMem} {x y : Int32} (hd : decode m.2.1 pc = .ok (.iand, 1)) (hp : pc + 1 = pc')  (k : ZV m d Q pc' L (.int (x &&& y) :: st) M) : ZV m d Q pc L (.int y :: .int x :: st) M := by
  subst hp
  intro G cI cQ ad A p l e s mi args below meth c H locs ls S hr hlk hK hW hS hL
  exact lv_iand S.1 S.2.1 hd (k G cI cQ ad A p l e s mi args below meth c H locs ls S hr hlk hK hW hS hL)
theorem zv_ior {m : ZMD} {d : Nat} {Q : Option Value → ZMem → Prop} {pc pc' : Nat} {L : ZLc} {st : List Value} {M : ZMem} {x y : Int32} (hd : decode m.2.1 pc = .ok (.ior, 1)) (hp : pc + 1 = pc')  (k : ZV m d Q pc' L (.int (x ||| y) :: st) M) : ZV m d Q pc L (.int y :: .int x :: st) M := by
  subst hp
  intro G cI cQ ad A p l e s mi args below meth c H locs ls S hr hlk hK hW hS hL
  exact lv_ior S.1 S.2.1 hd (k G cI cQ ad A p l e s mi args below meth c H locs ls S hr hlk hK hW hS hL)
theorem zv_ixor {m : ZMD} {d : Nat} {Q : Option Value → ZMem → Prop} {pc pc' : Nat} {L : ZLc} {st : List Value} {M : ZMem} {x y : Int32} (hd : decode m.2.1 pc = .ok (.ixor, 1)) (hp : pc + 1 = pc')  (k : ZV m d Q pc' L (.int (x ^^^ y) :: st) M) : ZV m d Q pc L (.int y :: .int x :: st) M := by
  subst hp
  intro G cI cQ ad A p l e s mi args below meth c H locs ls S hr hlk hK hW hS hL
  exact lv_ixor S.1 S.2.1 hd (k G cI cQ ad A p l e s mi args below meth c H locs ls S hr hlk hK hW hS hL)
theorem zv_ishl {m : ZMD} {d : Nat} {Q : Option Value → ZMem → Prop} {pc pc' : Nat} {L : ZLc} {st : List Value} {M : ZMem} {x y : Int32} (hd : decode m.2.1 pc = .ok (.ishl, 1)) (hp : pc + 1 = pc')  (k : ZV m d Q pc' L (.int (x <<< (y &&& 31)) :: st) M) : ZV m d Q pc L (.int y :: .int x :: st) M := by
  subst hp
  intro G cI cQ ad A p l e s mi args below meth c H locs ls S hr hlk hK hW hS hL
  exact lv_ishl S.1 S.2.1 hd (k G cI cQ ad A p l e s mi args below meth c H locs ls S hr hlk hK hW hS hL)
theorem zv_ishr {m : ZMD} {d : Nat} {Q : Option Value → ZMem → Prop} {pc pc' : Nat} {L : ZLc} {st : List Value} {M : ZMem} {x y : Int32} (hd : decode m.2.1 pc = .ok (.ishr, 1)) (hp : pc + 1 = pc')  (k : ZV m d Q pc' L (.int (x >>> (y &&& 31)) :: st) M) : ZV m d Q pc L (.int y :: .int x :: st) M := by
  subst hp
  intro G cI cQ ad A p l e s mi args below meth c H locs ls S hr hlk hK hW hS hL
  exact lv_ishr S.1 S.2.1 hd (k G cI cQ ad A p l e s mi args below meth c H locs ls S hr hlk hK hW hS hL)
theorem zv_idiv {m : ZMD} {d : Nat} {Q : Option Value → ZMem → Prop} {pc pc' : Nat} {L : ZLc} {st : List Value} {M : ZMem} {x y : Int32} (hd : decode m.2.1 pc = .ok (.idiv, 1)) (hp : pc + 1 = pc') (hne : ¬ y = 0) (k : ZV m d Q pc' L (.int (x / y) :: st) M) : ZV m d Q pc L (.int y :: .int x :: st) M := by
  subst hp
  intro G cI cQ ad A p l e s mi args below meth c H locs ls S hr hlk hK hW hS hL
  exact lv_idiv S.1 S.2.1 hd hne (k G cI cQ ad A p l e s mi args below meth c H locs ls S hr hlk hK hW hS hL)
theorem zv_irem {m : ZMD} {d : Nat} {Q : Option Value → ZMem → Prop} {pc pc' : Nat} {L : ZLc} {st : List Value} {M : ZMem} {x y : Int32} (hd : decode m.2.1 pc = .ok (.irem, 1)) (hp : pc + 1 = pc') (hne : ¬ y = 0) (k : ZV m d Q pc' L (.int (x - x / y * y) :: st) M) : ZV m d Q pc L (.int y :: .int x :: st) M := by
  subst hp
  intro G cI cQ ad A p l e s mi args below meth c H locs ls S hr hlk hK hW hS hL
  exact lv_irem S.1 S.2.1 hd hne (k G cI cQ ad A p l e s mi args below meth c H locs ls S hr hlk hK hW hS hL)
theorem zv_iushr {m : ZMD} {d : Nat} {Q : Option Value → ZMem → Prop} {pc pc' : Nat} {L : ZLc} {st : List Value} {M : ZMem} {x y : Int32} (hd : decode m.2.1 pc = .ok (.iushr, 1)) (hp : pc + 1 = pc')  (k : ZV m d Q pc' L (.int ((x.toUInt32 >>> (y.toUInt32 &&& Int32.toUInt32 31)).toInt32) :: st) M) : ZV m d Q pc L (.int y :: .int x :: st) M := by
  subst hp
  intro G cI cQ ad A p l e s mi args below meth c H locs ls S hr hlk hK hW hS hL
  exact lv_iushr S.1 S.2.1 hd rfl (k G cI cQ ad A p l e s mi args below meth c H locs ls S hr hlk hK hW hS hL)
theorem zv_ineg {m : ZMD} {d : Nat} {Q : Option Value → ZMem → Prop} {pc pc' : Nat} {L : ZLc} {st : List Value} {M : ZMem} {x : Int32} (hd : decode m.2.1 pc = .ok (.ineg, 1)) (hp : pc + 1 = pc')  (k : ZV m d Q pc' L (.int (-x) :: st) M) : ZV m d Q pc L (.int x :: st) M := by
  subst hp
  intro G cI cQ ad A p l e s mi args below meth c H locs ls S hr hlk hK hW hS hL
  exact lv_ineg S.1 S.2.1 hd (k G cI cQ ad A p l e s mi args below meth c H locs ls S hr hlk hK hW hS hL)
theorem zv_i2l {m : ZMD} {d : Nat} {Q : Option Value → ZMem → Prop} {pc pc' : Nat} {L : ZLc} {st : List Value} {M : ZMem} {x : Int32} (hd : decode m.2.1 pc = .ok (.i2l, 1)) (hp : pc + 1 = pc')  (k : ZV m d Q pc' L (.long x.toInt64 :: st) M) : ZV m d Q pc L (.int x :: st) M := by
  subst hp
  intro G cI cQ ad A p l e s mi args below meth c H locs ls S hr hlk hK hW hS hL
  exact lv_i2l S.1 S.2.1 hd rfl (k G cI cQ ad A p l e s mi args below meth c H locs ls S hr hlk hK hW hS hL)
theorem zv_i2c {m : ZMD} {d : Nat} {Q : Option Value → ZMem → Prop} {pc pc' : Nat} {L : ZLc} {st : List Value} {M : ZMem} {x : Int32} (hd : decode m.2.1 pc = .ok (.i2c, 1)) (hp : pc + 1 = pc')  (k : ZV m d Q pc' L (.int ((x.toUInt32 % 65536).toInt32) :: st) M) : ZV m d Q pc L (.int x :: st) M := by
  subst hp
  intro G cI cQ ad A p l e s mi args below meth c H locs ls S hr hlk hK hW hS hL
  exact lv_i2c S.1 S.2.1 hd rfl (k G cI cQ ad A p l e s mi args below meth c H locs ls S hr hlk hK hW hS hL)
theorem zv_i2b {m : ZMD} {d : Nat} {Q : Option Value → ZMem → Prop} {pc pc' : Nat} {L : ZLc} {st : List Value} {M : ZMem} {x : Int32} (hd : decode m.2.1 pc = .ok (.i2b, 1)) (hp : pc + 1 = pc')  (k : ZV m d Q pc' L (.int (x.toInt8.toInt32) :: st) M) : ZV m d Q pc L (.int x :: st) M := by
  subst hp
  intro G cI cQ ad A p l e s mi args below meth c H locs ls S hr hlk hK hW hS hL
  exact lv_i2b S.1 S.2.1 hd rfl (k G cI cQ ad A p l e s mi args below meth c H locs ls S hr hlk hK hW hS hL)
theorem zv_ladd {m : ZMD} {d : Nat} {Q : Option Value → ZMem → Prop} {pc pc' : Nat} {L : ZLc} {st : List Value} {M : ZMem} {x y : Int64} (hd : decode m.2.1 pc = .ok (.ladd, 1)) (hp : pc + 1 = pc')  (k : ZV m d Q pc' L (.long (x + y) :: st) M) : ZV m d Q pc L (.long y :: .long x :: st) M := by
  subst hp
  intro G cI cQ ad A p l e s mi args below meth c H locs ls S hr hlk hK hW hS hL
  exact lv_ladd S.1 S.2.1 hd (k G cI cQ ad A p l e s mi args below meth c H locs ls S hr hlk hK hW hS hL)
theorem zv_lsub {m : ZMD} {d : Nat} {Q : Option Value → ZMem → Prop} {pc pc' : Nat} {L : ZLc} {st : List Value} {M : ZMem} {x y : Int64} (hd : decode m.2.1 pc = .ok (.lsub, 1)) (hp : pc + 1 = pc')  (k : ZV m d Q pc' L (.long (x - y) :: st) M) : ZV m d Q pc L (.long y :: .long x :: st) M := by
  subst hp
  intro G cI cQ ad A p l e s mi args below meth c H locs ls S hr hlk hK hW hS hL
  exact lv_lsub S.1 S.2.1 hd (k G cI cQ ad A p l e s mi args below meth c H locs ls S hr hlk hK hW hS hL)
theorem zv_lmul {m : ZMD} {d : Nat} {Q : Option Value → ZMem → Prop} {pc pc' : Nat} {L : ZLc} {st : List Value} {M : ZMem} {x y : Int64} (hd : decode m.2.1 pc = .ok (.lmul, 1)) (hp : pc + 1 = pc')  (k : ZV m d Q pc' L (.long (x * y) :: st) M) : ZV m d Q pc L (.long y :: .long x :: st) M := by
  subst hp
  intro G cI cQ ad A p l e s mi args below meth c H locs ls S hr hlk hK hW hS hL
  exact lv_lmul S.1 S.2.1 hd (k G cI cQ ad A p l e s mi args below meth c H locs ls S hr hlk hK hW hS hL)
theorem zv_ldiv {m : ZMD} {d : Nat} {Q : Option Value → ZMem → Prop} {pc pc' : Nat} {L : ZLc} {st : List Value} {M : ZMem} {x y : Int64} (hd : decode m.2.1 pc = .ok (.ldiv, 1)) (hp : pc + 1 = pc') (hne : ¬ y = 0) (k : ZV m d Q pc' L (.long (x / y) :: st) M) : ZV m d Q pc L (.long y :: .long x :: st) M := by
  subst hp
  intro G cI cQ ad A p l e s mi args below meth c H locs ls S hr hlk hK hW hS hL
  exact lv_ldiv S.1 S.2.1 hd hne (k G cI cQ ad A p l e s mi args below meth c H locs ls S hr hlk hK hW hS hL)
theorem zv_lrem {m : ZMD} {d : Nat} {Q : Option Value → ZMem → Prop} {pc pc' : Nat} {L : ZLc} {st : List Value} {M : ZMem} {x y : Int64} (hd : decode m.2.1 pc = .ok (.lrem, 1)) (hp : pc + 1 = pc') (hne : ¬ y = 0) (k : ZV m d Q pc' L (.long (x - x / y * y) :: st) M) : ZV m d Q pc L (.long y :: .long x :: st) M := by
  subst hp
  intro G cI cQ ad A p l e s mi args below meth c H locs ls S hr hlk hK hW hS hL
  exact lv_lrem S.1 S.2.1 hd hne (k G cI cQ ad A p l e s mi args below meth c H locs ls S hr hlk hK hW hS hL)
theorem zv_lcmp {m : ZMD} {d : Nat} {Q : Option Value → ZMem → Prop} {pc pc' : Nat} {L : ZLc} {st : List Value} {M : ZMem} {x y : Int64} (hd : decode m.2.1 pc = .ok (.lcmp, 1)) (hp : pc + 1 = pc')  (k : ZV m d Q pc' L (.int (lg_cmp x y) :: st) M) : ZV m d Q pc L (.long y :: .long x :: st) M := by
  subst hp
  intro G cI cQ ad A p l e s mi args below meth c H locs ls S hr hlk hK hW hS hL
  exact W.lcmp S.1 S.2.1 hd (k G cI cQ ad A p l e s mi args below meth c H locs ls S hr hlk hK hW hS hL)
theorem zv_dup {m : ZMD} {d : Nat} {Q : Option Value → ZMem → Prop} {pc pc' : Nat} {L : ZLc} {st : List Value} {M : ZMem} {v : Value} (hd : decode m.2.1 pc = .ok (.dup, 1)) (hp : pc + 1 = pc') (hv : v.category = 1) (k : ZV m d Q pc' L (v :: v :: st) M) : ZV m d Q pc L (v :: st) M := by
  subst hp
  intro G cI cQ ad A p l e s mi args below meth c H locs ls S hr hlk hK hW hS hL
  exact lv_dup S.1 S.2.1 hd ((zc_cat ad v).trans hv) (k G cI cQ ad A p l e s mi args below meth c H locs ls S hr hlk hK hW hS hL)
theorem zv_pop {m : ZMD} {d : Nat} {Q : Option Value → ZMem → Prop} {pc pc' : Nat} {L : ZLc} {st : List Value} {M : ZMem} {v : Value} (hd : decode m.2.1 pc = .ok (.pop, 1)) (hp : pc + 1 = pc') (hv : v.category = 1) (k : ZV m d Q pc' L (st) M) : ZV m d Q pc L (v :: st) M := by
  subst hp
  intro G cI cQ ad A p l e s mi args below meth c H locs ls S hr hlk hK hW hS hL
  exact lv_pop S.1 S.2.1 hd ((zc_cat ad v).trans hv) (k G cI cQ ad A p l e s mi args below meth c H locs ls S hr hlk hK hW hS hL)
theorem zv_dup2 {m : ZMD} {d : Nat} {Q : Option Value → ZMem → Prop} {pc pc' : Nat} {L : ZLc} {st : List Value} {M : ZMem} {v w : Value} (hd : decode m.2.1 pc = .ok (.dup2, 1)) (hp : pc + 1 = pc') (hv : v.category = 1) (hw : w.category = 1) (k : ZV m d Q pc' L (v :: w :: v :: w :: st) M) : ZV m d Q pc L (v :: w :: st) M := by
  subst hp
  intro G cI cQ ad A p l e s mi args below meth c H locs ls S hr hlk hK hW hS hL
  exact lv_dup2_11 S.1 S.2.1 hd ((zc_cat ad v).trans hv) ((zc_cat ad w).trans hw) (k G cI cQ ad A p l e s mi args below meth c H locs ls S hr hlk hK hW hS hL)
theorem zv_ldc {m : ZMD} {d : Nat} {Q : Option Value → ZMem → Prop} {pc pc' : Nat} {L : ZLc} {st : List Value} {M : ZMem} {ix : Nat} {v : Int32} (hd : decode m.2.1 pc = .ok (.ldc ix, 2)) (hp : pc + 2 = pc') (hw : Cond.constant m.1.cls ix v ∈ zgt) (k : ZV m d Q pc' L (.int v :: st) M) : ZV m d Q pc L (st) M := by
  subst hp
  intro G cI cQ ad A p l e s mi args below meth c H locs ls S hr hlk hK hW hS hL
  exact lv_ldc S.1 S.2.1 S.2.2.2.1 (S.2.2.2.2 _ hw) hd (k G cI cQ ad A p l e s mi args below meth c H locs ls S hr hlk hK hW hS hL)
theorem zv_ldcw {m : ZMD} {d : Nat} {Q : Option Value → ZMem → Prop} {pc pc' : Nat} {L : ZLc} {st : List Value} {M : ZMem} {ix : Nat} {v : Int32} (hd : decode m.2.1 pc = .ok (.ldc_w ix, 3)) (hp : pc + 3 = pc') (hw : Cond.constant m.1.cls ix v ∈ zgt) (k : ZV m d Q pc' L (.int v :: st) M) : ZV m d Q pc L (st) M := by
  subst hp
  intro G cI cQ ad A p l e s mi args below meth c H locs ls S hr hlk hK hW hS hL
  exact lv_ldcw S.1 S.2.1 S.2.2.2.1 (S.2.2.2.2 _ hw) hd (k G cI cQ ad A p l e s mi args below meth c H locs ls S hr hlk hK hW hS hL)
theorem zv_ldc2 {m : ZMD} {d : Nat} {Q : Option Value → ZMem → Prop} {pc pc' : Nat} {L : ZLc} {st : List Value} {M : ZMem} {ix : Nat} {v : Int64} (hd : decode m.2.1 pc = .ok (.ldc2_w ix, 3)) (hp : pc + 3 = pc') (hw : Cond.constantLong m.1.cls ix v ∈ zgt) (k : ZV m d Q pc' L (.long v :: st) M) : ZV m d Q pc L (st) M := by
  subst hp
  intro G cI cQ ad A p l e s mi args below meth c H locs ls S hr hlk hK hW hS hL
  exact lv_ldc2 S.1 S.2.1 S.2.2.2.1 (S.2.2.2.2 _ hw) hd (k G cI cQ ad A p l e s mi args below meth c H locs ls S hr hlk hK hW hS hL)
theorem zv_goto {m : ZMD} {d : Nat} {Q : Option Value → ZMem → Prop} {pc pc' : Nat} {L : ZLc} {st : List Value} {M : ZMem} {off : Int} (hd : decode m.2.1 pc = .ok (.goto off, 3)) (ht : (pc : Int) + off = (pc' : Int)) (k : ZV m d Q pc' L st M) : ZV m d Q pc L st M := by
  intro G cI cQ ad A p l e s mi args below meth c H locs ls S hr hlk hK hW hS hL
  exact lv_goto S.1 S.2.1 hd ht (k G cI cQ ad A p l e s mi args below meth c H locs ls S hr hlk hK hW hS hL)
theorem zv_if_eq {m : ZMD} {d : Nat} {Q : Option Value → ZMem → Prop} {pc pc' : Nat} {L : ZLc} {st : List Value} {M : ZMem} {tgt : Nat} {x : Int32} {off : Int} (hd : decode m.2.1 pc = .ok (.ifCond .eq off, 3)) (hp : pc + 3 = pc') (ht : (pc : Int) + off = (tgt : Int)) (kt : x = 0 → ZV m d Q tgt L st M) (kf : ¬ x = 0 → ZV m d Q pc' L st M) : ZV m d Q pc L (.int x :: st) M := by
  subst hp
  intro G cI cQ ad A p l e s mi args below meth c H locs ls S hr hlk hK hW hS hL
  exact lv_if_eq S.1 S.2.1 hd ht (fun h => kt h G cI cQ ad A p l e s mi args below meth c H locs ls S hr hlk hK hW hS hL) (fun h => kf h G cI cQ ad A p l e s mi args below meth c H locs ls S hr hlk hK hW hS hL)
theorem zv_icmp_eq {m : ZMD} {d : Nat} {Q : Option Value → ZMem → Prop} {pc pc' : Nat} {L : ZLc} {st : List Value} {M : ZMem} {tgt : Nat} {x y : Int32} {off : Int} (hd : decode m.2.1 pc = .ok (.if_icmp .eq off, 3)) (hp : pc + 3 = pc') (ht : (pc : Int) + off = (tgt : Int)) (kt : x = y → ZV m d Q tgt L st M) (kf : ¬ x = y → ZV m d Q pc' L st M) : ZV m d Q pc L (.int y :: .int x :: st) M := by
  subst hp
  intro G cI cQ ad A p l e s mi args below meth c H locs ls S hr hlk hK hW hS hL
  exact lv_icmp_eq S.1 S.2.1 hd ht (fun h => kt h G cI cQ ad A p l e s mi args below meth c H locs ls S hr hlk hK hW hS hL) (fun h => kf h G cI cQ ad A p l e s mi args below meth c H locs ls S hr hlk hK hW hS hL)
theorem zv_if_ne {m : ZMD} {d : Nat} {Q : Option Value → ZMem → Prop} {pc pc' : Nat} {L : ZLc} {st : List Value} {M : ZMem} {tgt : Nat} {x : Int32} {off : Int} (hd : decode m.2.1 pc = .ok (.ifCond .ne off, 3)) (hp : pc + 3 = pc') (ht : (pc : Int) + off = (tgt : Int)) (kt : ¬ x = 0 → ZV m d Q tgt L st M) (kf : x = 0 → ZV m d Q pc' L st M) : ZV m d Q pc L (.int x :: st) M := by
  subst hp
  intro G cI cQ ad A p l e s mi args below meth c H locs ls S hr hlk hK hW hS hL
  exact lv_if_ne S.1 S.2.1 hd ht (fun h => kt h G cI cQ ad A p l e s mi args below meth c H locs ls S hr hlk hK hW hS hL) (fun h => kf h G cI cQ ad A p l e s mi args below meth c H locs ls S hr hlk hK hW hS hL)
theorem zv_icmp_ne {m : ZMD} {d : Nat} {Q : Option Value → ZMem → Prop} {pc pc' : Nat} {L : ZLc} {st : List Value} {M : ZMem} {tgt : Nat} {x y : Int32} {off : Int} (hd : decode m.2.1 pc = .ok (.if_icmp .ne off, 3)) (hp : pc + 3 = pc') (ht : (pc : Int) + off = (tgt : Int)) (kt : ¬ x = y → ZV m d Q tgt L st M) (kf : x = y → ZV m d Q pc' L st M) : ZV m d Q pc L (.int y :: .int x :: st) M := by
  subst hp
  intro G cI cQ ad A p l e s mi args below meth c H locs ls S hr hlk hK hW hS hL
  exact lv_icmp_ne S.1 S.2.1 hd ht (fun h => kt h G cI cQ ad A p l e s mi args below meth c H locs ls S hr hlk hK hW hS hL) (fun h => kf h G cI cQ ad A p l e s mi args below meth c H locs ls S hr hlk hK hW hS hL)
theorem zv_if_lt {m : ZMD} {d : Nat} {Q : Option Value → ZMem → Prop} {pc pc' : Nat} {L : ZLc} {st : List Value} {M : ZMem} {tgt : Nat} {x : Int32} {off : Int} (hd : decode m.2.1 pc = .ok (.ifCond .lt off, 3)) (hp : pc + 3 = pc') (ht : (pc : Int) + off = (tgt : Int)) (kt : x < 0 → ZV m d Q tgt L st M) (kf : ¬ x < 0 → ZV m d Q pc' L st M) : ZV m d Q pc L (.int x :: st) M := by
  subst hp
  intro G cI cQ ad A p l e s mi args below meth c H locs ls S hr hlk hK hW hS hL
  exact lv_if_lt S.1 S.2.1 hd ht (fun h => kt h G cI cQ ad A p l e s mi args below meth c H locs ls S hr hlk hK hW hS hL) (fun h => kf h G cI cQ ad A p l e s mi args below meth c H locs ls S hr hlk hK hW hS hL)
theorem zv_icmp_lt {m : ZMD} {d : Nat} {Q : Option Value → ZMem → Prop} {pc pc' : Nat} {L : ZLc} {st : List Value} {M : ZMem} {tgt : Nat} {x y : Int32} {off : Int} (hd : decode m.2.1 pc = .ok (.if_icmp .lt off, 3)) (hp : pc + 3 = pc') (ht : (pc : Int) + off = (tgt : Int)) (kt : x < y → ZV m d Q tgt L st M) (kf : ¬ x < y → ZV m d Q pc' L st M) : ZV m d Q pc L (.int y :: .int x :: st) M := by
  subst hp
  intro G cI cQ ad A p l e s mi args below meth c H locs ls S hr hlk hK hW hS hL
  exact lv_icmp_lt S.1 S.2.1 hd ht (fun h => kt h G cI cQ ad A p l e s mi args below meth c H locs ls S hr hlk hK hW hS hL) (fun h => kf h G cI cQ ad A p l e s mi args below meth c H locs ls S hr hlk hK hW hS hL)
theorem zv_if_ge {m : ZMD} {d : Nat} {Q : Option Value → ZMem → Prop} {pc pc' : Nat} {L : ZLc} {st : List Value} {M : ZMem} {tgt : Nat} {x : Int32} {off : Int} (hd : decode m.2.1 pc = .ok (.ifCond .ge off, 3)) (hp : pc + 3 = pc') (ht : (pc : Int) + off = (tgt : Int)) (kt : 0 ≤ x → ZV m d Q tgt L st M) (kf : ¬ 0 ≤ x → ZV m d Q pc' L st M) : ZV m d Q pc L (.int x :: st) M := by
  subst hp
  intro G cI cQ ad A p l e s mi args below meth c H locs ls S hr hlk hK hW hS hL
  exact lv_if_ge S.1 S.2.1 hd ht (fun h => kt h G cI cQ ad A p l e s mi args below meth c H locs ls S hr hlk hK hW hS hL) (fun h => kf h G cI cQ ad A p l e s mi args below meth c H locs ls S hr hlk hK hW hS hL)
theorem zv_icmp_ge {m : ZMD} {d : Nat} {Q : Option Value → ZMem → Prop} {pc pc' : Nat} {L : ZLc} {st : List Value} {M : ZMem} {tgt : Nat} {x y : Int32} {off : Int} (hd : decode m.2.1 pc = .ok (.if_icmp .ge off, 3)) (hp : pc + 3 = pc') (ht : (pc : Int) + off = (tgt : Int)) (kt : y ≤ x → ZV m d Q tgt L st M) (kf : ¬ y ≤ x → ZV m d Q pc' L st M) : ZV m d Q pc L (.int y :: .int x :: st) M := by
  subst hp
  intro G cI cQ ad A p l e s mi args below meth c H locs ls S hr hlk hK hW hS hL
  exact lv_icmp_ge S.1 S.2.1 hd ht (fun h => kt h G cI cQ ad A p l e s mi args below meth c H locs ls S hr hlk hK hW hS hL) (fun h => kf h G cI cQ ad A p l e s mi args below meth c H locs ls S hr hlk hK hW hS hL)
theorem zv_if_gt {m : ZMD} {d : Nat} {Q : Option Value → ZMem → Prop} {pc pc' : Nat} {L : ZLc} {st : List Value} {M : ZMem} {tgt : Nat} {x : Int32} {off : Int} (hd : decode m.2.1 pc = .ok (.ifCond .gt off, 3)) (hp : pc + 3 = pc') (ht : (pc : Int) + off = (tgt : Int)) (kt : 0 < x → ZV m d Q tgt L st M) (kf : ¬ 0 < x → ZV m d Q pc' L st M) : ZV m d Q pc L (.int x :: st) M := by
  subst hp
  intro G cI cQ ad A p l e s mi args below meth c H locs ls S hr hlk hK hW hS hL
  exact lv_if_gt S.1 S.2.1 hd ht (fun h => kt h G cI cQ ad A p l e s mi args below meth c H locs ls S hr hlk hK hW hS hL) (fun h => kf h G cI cQ ad A p l e s mi args below meth c H locs ls S hr hlk hK hW hS hL)
theorem zv_icmp_gt {m : ZMD} {d : Nat} {Q : Option Value → ZMem → Prop} {pc pc' : Nat} {L : ZLc} {st : List Value} {M : ZMem} {tgt : Nat} {x y : Int32} {off : Int} (hd : decode m.2.1 pc = .ok (.if_icmp .gt off, 3)) (hp : pc + 3 = pc') (ht : (pc : Int) + off = (tgt : Int)) (kt : y < x → ZV m d Q tgt L st M) (kf : ¬ y < x → ZV m d Q pc' L st M) : ZV m d Q pc L (.int y :: .int x :: st) M := by
  subst hp
  intro G cI cQ ad A p l e s mi args below meth c H locs ls S hr hlk hK hW hS hL
  exact lv_icmp_gt S.1 S.2.1 hd ht (fun h => kt h G cI cQ ad A p l e s mi args below meth c H locs ls S hr hlk hK hW hS hL) (fun h => kf h G cI cQ ad A p l e s mi args below meth c H locs ls S hr hlk hK hW hS hL)
theorem zv_if_le {m : ZMD} {d : Nat} {Q : Option Value → ZMem → Prop} {pc pc' : Nat} {L : ZLc} {st : List Value} {M : ZMem} {tgt : Nat} {x : Int32} {off : Int} (hd : decode m.2.1 pc = .ok (.ifCond .le off, 3)) (hp : pc + 3 = pc') (ht : (pc : Int) + off = (tgt : Int)) (kt : x ≤ 0 → ZV m d Q tgt L st M) (kf : ¬ x ≤ 0 → ZV m d Q pc' L st M) : ZV m d Q pc L (.int x :: st) M := by
  subst hp
  intro G cI cQ ad A p l e s mi args below meth c H locs ls S hr hlk hK hW hS hL
  exact lv_if_le S.1 S.2.1 hd ht (fun h => kt h G cI cQ ad A p l e s mi args below meth c H locs ls S hr hlk hK hW hS hL) (fun h => kf h G cI cQ ad A p l e s mi args below meth c H locs ls S hr hlk hK hW hS hL)
theorem zv_icmp_le {m : ZMD} {d : Nat} {Q : Option Value → ZMem → Prop} {pc pc' : Nat} {L : ZLc} {st : List Value} {M : ZMem} {tgt : Nat} {x y : Int32} {off : Int} (hd : decode m.2.1 pc = .ok (.if_icmp .le off, 3)) (hp : pc + 3 = pc') (ht : (pc : Int) + off = (tgt : Int)) (kt : x ≤ y → ZV m d Q tgt L st M) (kf : ¬ x ≤ y → ZV m d Q pc' L st M) : ZV m d Q pc L (.int y :: .int x :: st) M := by
  subst hp
  intro G cI cQ ad A p l e s mi args below meth c H locs ls S hr hlk hK hW hS hL
  exact lv_icmp_le S.1 S.2.1 hd ht (fun h => kt h G cI cQ ad A p l e s mi args below meth c H locs ls S hr hlk hK hW hS hL) (fun h => kf h G cI cQ ad A p l e s mi args below meth c H locs ls S hr hlk hK hW hS hL)
theorem zv_tableIn {m : ZMD} {d : Nat} {Q : Option Value → ZMem → Prop} {pc pc' : Nat} {L : ZLc} {st : List Value} {M : ZMem} {dflt lo hi off : Int} {offs : Array Int} {len : Nat} {x : Int32} (hd : decode m.2.1 pc = .ok (.tableswitch dflt lo hi offs, len)) (h1 : ¬ x.toInt < lo) (h2 : ¬ hi < x.toInt) (ho : offs[(x.toInt - lo).toNat]? = some off) (ht : (pc : Int) + off = (pc' : Int)) (k : ZV m d Q pc' L st M) : ZV m d Q pc L (.int x :: st) M := by
  intro G cI cQ ad A p l e s mi args below meth c H locs ls S hr hlk hK hW hS hL
  exact lv_tableIn S.1 S.2.1 hd h1 h2 ho ht (k G cI cQ ad A p l e s mi args below meth c H locs ls S hr hlk hK hW hS hL)
theorem zv_tableOut {m : ZMD} {d : Nat} {Q : Option Value → ZMem → Prop} {pc pc' : Nat} {L : ZLc} {st : List Value} {M : ZMem} {dflt lo hi : Int} {offs : Array Int} {len : Nat} {x : Int32} (hd : decode m.2.1 pc = .ok (.tableswitch dflt lo hi offs, len)) (h : x.toInt < lo ∨ hi < x.toInt) (ht : (pc : Int) + dflt = (pc' : Int)) (k : ZV m d Q pc' L st M) : ZV m d Q pc L (.int x :: st) M := by
  intro G cI cQ ad A p l e s mi args below meth c H locs ls S hr hlk hK hW hS hL
  exact lv_tableOut S.1 S.2.1 hd h ht (k G cI cQ ad A p l e s mi args below meth c H locs ls S hr hlk hK hW hS hL)
theorem zv_lookup {m : ZMD} {d : Nat} {Q : Option Value → ZMem → Prop} {pc pc' : Nat} {L : ZLc} {st : List Value} {M : ZMem} {dflt off : Int} {ps : Array (Int × Int)} {len : Nat} {x : Int32} (hd : decode m.2.1 pc = .ok (.lookupswitch dflt ps, len)) (hs : (ps.toList.zip (ps.toList.drop 1)).all (fun (a, next) => a.1 < next.1) = true) (ho : Op.lookupswitch.offset ps.toList dflt x.toInt = off) (ht : (pc : Int) + off = (pc' : Int)) (k : ZV m d Q pc' L st M) : ZV m d Q pc L (.int x :: st) M := by
  intro G cI cQ ad A p l e s mi args below meth c H locs ls S hr hlk hK hW hS hL
  exact lv_lookup S.1 S.2.1 hd hs ho ht (k G cI cQ ad A p l e s mi args below meth c H locs ls S hr hlk hK hW hS hL)
theorem zv_iload {m : ZMD} {d : Nat} {Q : Option Value → ZMem → Prop} {pc pc' : Nat} {L : ZLc} {st : List Value} {M : ZMem} {i : Nat} {x : Int32} (hd : decode m.2.1 pc = .ok (.iload i, 2)) (hp : pc + 2 = pc') (hl : L[i]? = some (some (.int x))) (k : ZV m d Q pc' L (.int x :: st) M) : ZV m d Q pc L st M := by
  subst hp
  intro G cI cQ ad A p l e s mi args below meth c H locs ls S hr hlk hK hW hS hL
  exact lv_iload (x := x) S.1 S.2.1 hd (hL.2.2 _ _ (zmL_at hl)) (k G cI cQ ad A p l e s mi args below meth c H locs ls S hr hlk hK hW hS hL)
theorem zv_iload_n {m : ZMD} {d : Nat} {Q : Option Value → ZMem → Prop} {pc pc' : Nat} {L : ZLc} {st : List Value} {M : ZMem} {i : Fin 4} {x : Int32} (hd : decode m.2.1 pc = .ok (.iload_n i, 1)) (hp : pc + 1 = pc') (hl : L[(i : Nat)]? = some (some (.int x))) (k : ZV m d Q pc' L (.int x :: st) M) : ZV m d Q pc L st M := by
  subst hp
  intro G cI cQ ad A p l e s mi args below meth c H locs ls S hr hlk hK hW hS hL
  exact lv_iload_n (x := x) S.1 S.2.1 hd rfl (hL.2.2 _ _ (zmL_at hl)) (k G cI cQ ad A p l e s mi args below meth c H locs ls S hr hlk hK hW hS hL)
theorem zv_istore {m : ZMD} {d : Nat} {Q : Option Value → ZMem → Prop} {pc pc' : Nat} {L : ZLc} {st : List Value} {M : ZMem} {i : Nat} {x : Int32} (hd : decode m.2.1 pc = .ok (.istore i, 2)) (hp : pc + 2 = pc') (hn : i < m.2.2.1) (k : ZV m d Q pc' (zst1 L i (.int x)) st M) : ZV m d Q pc L (.int x :: st) M := by
  subst hp
  intro G cI cQ ad A p l e s mi args below meth c H locs ls S hr hlk hK hW hS hL
  exact lv_istore (x := x) S.1 S.2.1 hd hL.has hn rfl (fun ls' h' => k G cI cQ ad A p l e s mi args below meth c H locs ls' S hr hlk hK hW hS (by rw [zmL_st1]; exact zst1_of h'))
theorem zv_istore_n {m : ZMD} {d : Nat} {Q : Option Value → ZMem → Prop} {pc pc' : Nat} {L : ZLc} {st : List Value} {M : ZMem} {i : Fin 4} {x : Int32} (hd : decode m.2.1 pc = .ok (.istore_n i, 1)) (hp : pc + 1 = pc') (hn : (i : Nat) < m.2.2.1) (k : ZV m d Q pc' (zst1 L i (.int x)) st M) : ZV m d Q pc L (.int x :: st) M := by
  subst hp
  intro G cI cQ ad A p l e s mi args below meth c H locs ls S hr hlk hK hW hS hL
  exact lv_istore_n (x := x) S.1 S.2.1 hd rfl hL.has hn rfl (fun ls' h' => k G cI cQ ad A p l e s mi args below meth c H locs ls' S hr hlk hK hW hS (by rw [zmL_st1]; exact zst1_of h'))
theorem zv_lload {m : ZMD} {d : Nat} {Q : Option Value → ZMem → Prop} {pc pc' : Nat} {L : ZLc} {st : List Value} {M : ZMem} {i : Nat} {x : Int64} (hd : decode m.2.1 pc = .ok (.lload i, 2)) (hp : pc + 2 = pc') (hl : L[i]? = some (some (.long x))) (k : ZV m d Q pc' L (.long x :: st) M) : ZV m d Q pc L st M := by
  subst hp
  intro G cI cQ ad A p l e s mi args below meth c H locs ls S hr hlk hK hW hS hL
  exact lv_lload (x := x) S.1 S.2.1 hd (hL.2.2 _ _ (zmL_at hl)) (k G cI cQ ad A p l e s mi args below meth c H locs ls S hr hlk hK hW hS hL)
theorem zv_lload_n {m : ZMD} {d : Nat} {Q : Option Value → ZMem → Prop} {pc pc' : Nat} {L : ZLc} {st : List Value} {M : ZMem} {i : Fin 4} {x : Int64} (hd : decode m.2.1 pc = .ok (.lload_n i, 1)) (hp : pc + 1 = pc') (hl : L[(i : Nat)]? = some (some (.long x))) (k : ZV m d Q pc' L (.long x :: st) M) : ZV m d Q pc L st M := by
  subst hp
  intro G cI cQ ad A p l e s mi args below meth c H locs ls S hr hlk hK hW hS hL
  exact lv_lload_n (x := x) S.1 S.2.1 hd rfl (hL.2.2 _ _ (zmL_at hl)) (k G cI cQ ad A p l e s mi args below meth c H locs ls S hr hlk hK hW hS hL)
theorem zv_lstore {m : ZMD} {d : Nat} {Q : Option Value → ZMem → Prop} {pc pc' : Nat} {L : ZLc} {st : List Value} {M : ZMem} {i : Nat} {x : Int64} (hd : decode m.2.1 pc = .ok (.lstore i, 2)) (hp : pc + 2 = pc') (hn : i + 1 < m.2.2.1) (k : ZV m d Q pc' (zst2 L i (.long x)) st M) : ZV m d Q pc L (.long x :: st) M := by
  subst hp
  intro G cI cQ ad A p l e s mi args below meth c H locs ls S hr hlk hK hW hS hL
  exact lv_lstore (x := x) S.1 S.2.1 hd hL.has hn rfl (fun ls' h' => k G cI cQ ad A p l e s mi args below meth c H locs ls' S hr hlk hK hW hS (by rw [zmL_st2]; exact zst2_of h'))
theorem zv_lstore_n {m : ZMD} {d : Nat} {Q : Option Value → ZMem → Prop} {pc pc' : Nat} {L : ZLc} {st : List Value} {M : ZMem} {i : Fin 4} {x : Int64} (hd : decode m.2.1 pc = .ok (.lstore_n i, 1)) (hp : pc + 1 = pc') (hn : (i : Nat) + 1 < m.2.2.1) (k : ZV m d Q pc' (zst2 L i (.long x)) st M) : ZV m d Q pc L (.long x :: st) M := by
  subst hp
  intro G cI cQ ad A p l e s mi args below meth c H locs ls S hr hlk hK hW hS hL
  exact lv_lstore_n (x := x) S.1 S.2.1 hd rfl hL.has hn rfl (fun ls' h' => k G cI cQ ad A p l e s mi args below meth c H locs ls' S hr hlk hK hW hS (by rw [zmL_st2]; exact zst2_of h'))
theorem zv_aload {m : ZMD} {d : Nat} {Q : Option Value → ZMem → Prop} {pc pc' : Nat} {L : ZLc} {st : List Value} {M : ZMem} {i : Nat} {x : Nat} (hd : decode m.2.1 pc = .ok (.aload i, 2)) (hp : pc + 2 = pc') (hl : L[i]? = some (some (.ref x))) (k : ZV m d Q pc' L (.ref x :: st) M) : ZV m d Q pc L st M := by
  subst hp
  intro G cI cQ ad A p l e s mi args below meth c H locs ls S hr hlk hK hW hS hL
  exact lv_aload (x := ad x) S.1 S.2.1 hd (hL.2.2 _ _ (zmL_at hl)) (k G cI cQ ad A p l e s mi args below meth c H locs ls S hr hlk hK hW hS hL)
theorem zv_aload_n {m : ZMD} {d : Nat} {Q : Option Value → ZMem → Prop} {pc pc' : Nat} {L : ZLc} {st : List Value} {M : ZMem} {i : Fin 4} {x : Nat} (hd : decode m.2.1 pc = .ok (.aload_n i, 1)) (hp : pc + 1 = pc') (hl : L[(i : Nat)]? = some (some (.ref x))) (k : ZV m d Q pc' L (.ref x :: st) M) : ZV m d Q pc L st M := by
  subst hp
  intro G cI cQ ad A p l e s mi args below meth c H locs ls S hr hlk hK hW hS hL
  exact lv_aload_n (x := ad x) S.1 S.2.1 hd rfl (hL.2.2 _ _ (zmL_at hl)) (k G cI cQ ad A p l e s mi args below meth c H locs ls S hr hlk hK hW hS hL)
theorem zv_astore {m : ZMD} {d : Nat} {Q : Option Value → ZMem → Prop} {pc pc' : Nat} {L : ZLc} {st : List Value} {M : ZMem} {i : Nat} {x : Nat} (hd : decode m.2.1 pc = .ok (.astore i, 2)) (hp : pc + 2 = pc') (hn : i < m.2.2.1) (k : ZV m d Q pc' (zst1 L i (.ref x)) st M) : ZV m d Q pc L (.ref x :: st) M := by
  subst hp
  intro G cI cQ ad A p l e s mi args below meth c H locs ls S hr hlk hK hW hS hL
  exact lv_astore (x := ad x) S.1 S.2.1 hd hL.has hn rfl (fun ls' h' => k G cI cQ ad A p l e s mi args below meth c H locs ls' S hr hlk hK hW hS (by rw [zmL_st1]; exact zst1_of h'))
theorem zv_astore_n {m : ZMD} {d : Nat} {Q : Option Value → ZMem → Prop} {pc pc' : Nat} {L : ZLc} {st : List Value} {M : ZMem} {i : Fin 4} {x : Nat} (hd : decode m.2.1 pc = .ok (.astore_n i, 1)) (hp : pc + 1 = pc') (hn : (i : Nat) < m.2.2.1) (k : ZV m d Q pc' (zst1 L i (.ref x)) st M) : ZV m d Q pc L (.ref x :: st) M := by
  subst hp
  intro G cI cQ ad A p l e s mi args below meth c H locs ls S hr hlk hK hW hS hL
  exact lv_astore_n (x := ad x) S.1 S.2.1 hd rfl hL.has hn rfl (fun ls' h' => k G cI cQ ad A p l e s mi args below meth c H locs ls' S hr hlk hK hW hS (by rw [zmL_st1]; exact zst1_of h'))
theorem zv_iinc {m : ZMD} {d : Nat} {Q : Option Value → ZMem → Prop} {pc pc' : Nat} {L : ZLc} {st : List Value} {M : ZMem} {i : Nat} {n : Int} {x w : Int32} (hd : decode m.2.1 pc = .ok (.iinc i n, 3)) (hp : pc + 3 = pc') (hl : L[i]? = some (some (.int x))) (hw : Int32.ofInt n = w) (hn : i < m.2.2.1) (k : ZV m d Q pc' (zst1 L i (.int (x + w))) st M) : ZV m d Q pc L st M := by
  subst hp; subst hw
  intro G cI cQ ad A p l e s mi args below meth c H locs ls S hr hlk hK hW hS hL
  obtain ⟨j, hj⟩ := List.getElem?_of_mem (zlist_mem (q := (i, .int x)).mpr (zmL_at (ad := ad) hl))
  exact lv_iinc S.1 S.2.1 hd hL.has hj rfl hn rfl (fun ls' h' => k G cI cQ ad A p l e s mi args below meth c H locs ls' S hr hlk hK hW hS (by rw [zmL_st1]; exact zst1_of h'))
/-- a field's link: (class, pool entry) names slot k of class ci -/
def zfl (own : String) (idx ci k : Nat) : Prop := ∃ (C : String) (TT : u_T) (N : Nat), zcls[ci]? = some (C, TT, N) ∧ k < N ∧ (∀ w ∈ u_ws C TT N, w ∈ zgt) ∧ (Cond.fieldLink own idx (TT k).1 (TT k).2.1 (TT k).2.2.1 ∈ zgt ∨ ∃ host, Cond.fieldLinkNest own idx (TT k).1 (TT k).2.1 (TT k).2.2.1 host ∈ zNW)
/-- what a store into that slot wants -/
def zfp (ci k : Nat) (ty : FieldType) : Prop := ∃ (C : String) (TT : u_T) (N : Nat) (ty0 : Nat → FieldType), zcls[ci]? = some (C, TT, N) ∧ (∀ k, k < N → parseFieldDescriptor (TT k).2.2.1 = some (ty0 k)) ∧ (∀ a, a < N → ∀ b, b < N → a ≠ b → (TT a).2.1 ≠ (TT b).2.1) ∧ (TT k).2.2.2 = false ∧ parseFieldDescriptor (TT k).2.2.1 = some ty
theorem zv_getI {m : ZMD} {d : Nat} {Q : Option Value → ZMem → Prop} {pc pc' : Nat} {L : ZLc} {st : List Value} {M : ZMem} {idx ci j b : Nat} {fs : List (Option Nat)} (hd : decode m.2.1 pc = .ok (.getfield idx, 3)) (hp : pc + 3 = pc') (hf : zfl m.1.cls idx ci j) (hb : zshL[b]? = some (.inr (.inl (ci, fs)))) (hk : fs[j]? = some none) (k : ZV m d Q pc' L (.int (M b j) :: st) M) : ZV m d Q pc L (.ref b :: st) M := by
  subst hp
  intro G cI cQ ad A p l e s mi args below meth c H locs ls S hr hlk hK hW hS hL
  obtain ⟨C, TT, N, h1, h2, h3, h4⟩ := hf
  rcases h4 with h4 | ⟨host, h4⟩
  · exact va_get (D := G) (T := TT) S.1 S.2.1 S.2.2.2.2 h3 S.2.2.2.1 hK.1 hW.1 b (zwl_at hb) h1 j h2 (S.2.2.2.2 _ h4) (fun _ h9 => h9) (zfs_n hk) hd (k G cI cQ ad A p l e s mi args below meth c H locs ls S hr hlk hK hW hS hL)
  · exact va_getN (D := G) (T := TT) S.1 S.2.1 S.2.2.2.2 h3 S.2.2.2.1 hK.1 hW.1 b (zwl_at hb) h1 j h2 (va_Nw.use rfl (hK.2.1 _ h4)) (fun _ h9 => h9) (zfs_n hk) hd (k G cI cQ ad A p l e s mi args below meth c H locs ls S hr hlk hK hW hS hL)
theorem zv_getR {m : ZMD} {d : Nat} {Q : Option Value → ZMem → Prop} {pc pc' : Nat} {L : ZLc} {st : List Value} {M : ZMem} {idx ci j b r : Nat} {fs : List (Option Nat)} (hd : decode m.2.1 pc = .ok (.getfield idx, 3)) (hp : pc + 3 = pc') (hf : zfl m.1.cls idx ci j) (hb : zshL[b]? = some (.inr (.inl (ci, fs)))) (hk : fs[j]? = some (some r)) (k : ZV m d Q pc' L (.ref r :: st) M) : ZV m d Q pc L (.ref b :: st) M := by
  subst hp
  intro G cI cQ ad A p l e s mi args below meth c H locs ls S hr hlk hK hW hS hL
  obtain ⟨C, TT, N, h1, h2, h3, h4⟩ := hf
  rcases h4 with h4 | ⟨host, h4⟩
  · exact va_get (D := G) (T := TT) S.1 S.2.1 S.2.2.2.2 h3 S.2.2.2.1 hK.1 hW.1 b (zwl_at hb) h1 j h2 (S.2.2.2.2 _ h4) (fun _ h9 => h9) (zfs_s hk) hd (k G cI cQ ad A p l e s mi args below meth c H locs ls S hr hlk hK hW hS hL)
  · exact va_getN (D := G) (T := TT) S.1 S.2.1 S.2.2.2.2 h3 S.2.2.2.1 hK.1 hW.1 b (zwl_at hb) h1 j h2 (va_Nw.use rfl (hK.2.1 _ h4)) (fun _ h9 => h9) (zfs_s hk) hd (k G cI cQ ad A p l e s mi args below meth c H locs ls S hr hlk hK hW hS hL)
theorem zv_putI {m : ZMD} {d : Nat} {Q : Option Value → ZMem → Prop} {pc pc' : Nat} {L : ZLc} {st : List Value} {M : ZMem} {idx ci j b : Nat} {fs : List (Option Nat)} {ty : FieldType} {v : Int32} (hd : decode m.2.1 pc = .ok (.putfield idx, 3)) (hp : pc + 3 = pc') (hf : zfl m.1.cls idx ci j) (hf2 : zfp ci j ty) (hb : zshL[b]? = some (.inr (.inl (ci, fs)))) (hk : fs[j]? = some none) (hn : narrow ty (.int v) = .int v) (hfit : fits ty (.int v) = true) (k : ZV m d Q pc' L st (zup M b j v)) : ZV m d Q pc L (.int v :: .ref b :: st) M := by
  subst hp
  intro G cI cQ ad A p l e s mi args below meth c H locs ls S hr hlk hK hW hS hL
  obtain ⟨C, TT, N, h1, h2, h3, h4⟩ := hf
  obtain ⟨C', TT', N', ty0, g1, g2, g3, g4, g5⟩ := hf2
  have e := h1.symm.trans g1
  cases e
  have key : ∀ (H1 : Heap) (locs1 : List Loc), va_P G zcls ((zwl ad cI cQ M).set b (ad b, .inr (ci, (zfs ad fs (M b)).set j (.int v)))) H1 → va_D A ((zwl ad cI cQ M).set b (ad b, .inr (ci, (zfs ad fs (M b)).set j (.int v)))) → va_S A s.heap H1 locs1 → W p l e (zrm d) s mi args below meth c H1 locs1 0 0 (MQ below (ZQ G cI cQ ad A Q) args s 0 0 A) (F0 mi (pc + 3) ls (st.map (zc ad))) := by
    intro H1 locs1 hP1 hD1 hS1
    rw [zfs_set hk] at hP1 hD1
    have ee : (zwl ad cI cQ M).set b (ad b, .inr (ci, zfs ad fs (upd (M b) j v))) = zwl ad cI cQ (zup M b j v) := zwl_set (f := upd (M b) j v) hb
    rw [ee] at hP1 hD1
    exact k G cI cQ ad A p l e s mi args below meth c H1 locs1 ls S hr hlk hK ⟨hP1, hD1⟩ hS1 hL
  have hl : j < (zfs ad fs (M b)).length := by rw [zfs_len]; exact (List.getElem?_eq_some_iff.mp hk).1
  rcases h4 with h4 | ⟨host, h4⟩
  · exact va_put (D := G) (T := TT) S.1 S.2.1 S.2.2.2.2 h3 ty0 g2 g3 S.2.2.2.1 hK.1 hW.1 hW.2 hS b (zwl_at hb) h1 j h2 (S.2.2.2.2 _ h4) (fun _ h9 => h9) g4 g5 hn hfit hl hd key
  · exact va_putN (D := G) (T := TT) S.1 S.2.1 S.2.2.2.2 h3 ty0 g2 g3 S.2.2.2.1 hK.1 hW.1 hW.2 hS b (zwl_at hb) h1 j h2 (va_Nw.use rfl (hK.2.1 _ h4)) (fun _ h9 => h9) g4 g5 hn hfit hl hd key
theorem zv_iaload {m : ZMD} {d : Nat} {Q : Option Value → ZMem → Prop} {pc pc' : Nat} {L : ZLc} {st : List Value} {M : ZMem} {b n : Nat} {i : Int32} (hd : decode m.2.1 pc = .ok (.iaload, 1)) (hp : pc + 1 = pc') (hb : zshL[b]? = some (.inl n)) (hi : vp_in i n) (k : ZV m d Q pc' L (.int (M b i.toNatClampNeg) :: st) M) : ZV m d Q pc L (.int i :: .ref b :: st) M := by
  subst hp
  intro G cI cQ ad A p l e s mi args below meth c H locs ls S hr hlk hK hW hS hL
  exact va_iald (D := G) S.1 S.2.1 hK.1 hW.1 b 0 (zwl_at hb) rfl hi hd (k G cI cQ ad A p l e s mi args below meth c H locs ls S hr hlk hK hW hS hL)
theorem zv_ialoadN {m : ZMD} {d : Nat} {Q : Option Value → ZMem → Prop} {pc pc' : Nat} {L : ZLc} {st : List Value} {M : ZMem} {b n i : Nat} (hd : decode m.2.1 pc = .ok (.iaload, 1)) (hp : pc + 1 = pc') (hb : zshL[b]? = some (.inl n)) (hn : n < 2 ^ 31) (hi : i < n) (k : ZV m d Q pc' L (.int (M b i) :: st) M) : ZV m d Q pc L (.int (nI i) :: .ref b :: st) M :=
  zv_iaload hd hp hb (vp_in_nI hi hn) (by rw [nI_clamp (Nat.lt_trans hi hn)]; exact k)
theorem zv_iastore {m : ZMD} {d : Nat} {Q : Option Value → ZMem → Prop} {pc pc' : Nat} {L : ZLc} {st : List Value} {M : ZMem} {b n : Nat} {i v : Int32} (hd : decode m.2.1 pc = .ok (.iastore, 1)) (hp : pc + 1 = pc') (hb : zshL[b]? = some (.inl n)) (hi : vp_in i n) (k : ZV m d Q pc' L st (zup M b i.toNatClampNeg v)) : ZV m d Q pc L (.int v :: .int i :: .ref b :: st) M := by
  subst hp
  intro G cI cQ ad A p l e s mi args below meth c H locs ls S hr hlk hK hW hS hL
  refine va_iast (D := G) S.1 S.2.1 hK.1 hW.1 hW.2 hS b 0 (zwl_at hb) rfl hi hd (fun H1 locs1 hP1 hD1 hS1 => ?_)
  have ee : (zwl ad cI cQ M).set b (ad b, .inl (cI, n, .inl (upd (M b) i.toNatClampNeg v))) = zwl ad cI cQ (zup M b i.toNatClampNeg v) := zwl_set (f := upd (M b) i.toNatClampNeg v) hb
  rw [ee] at hP1 hD1
  exact k G cI cQ ad A p l e s mi args below meth c H1 locs1 ls S hr hlk hK ⟨hP1, hD1⟩ hS1 hL
theorem zv_iastoreN {m : ZMD} {d : Nat} {Q : Option Value → ZMem → Prop} {pc pc' : Nat} {L : ZLc} {st : List Value} {M : ZMem} {b n i : Nat} {v : Int32} (hd : decode m.2.1 pc = .ok (.iastore, 1)) (hp : pc + 1 = pc') (hb : zshL[b]? = some (.inl n)) (hn : n < 2 ^ 31) (hi : i < n) (k : ZV m d Q pc' L st (zup M b i v)) : ZV m d Q pc L (.int v :: .int (nI i) :: .ref b :: st) M :=
  zv_iastore hd hp hb (vp_in_nI hi hn) (by rw [nI_clamp (Nat.lt_trans hi hn)]; exact k)
theorem zv_aaload {m : ZMD} {d : Nat} {Q : Option Value → ZMem → Prop} {pc pc' : Nat} {L : ZLc} {st : List Value} {M : ZMem} {b n r : Nat} {i : Int32} {f : Nat → Option Nat} (hd : decode m.2.1 pc = .ok (.aaload, 1)) (hp : pc + 1 = pc') (hb : zshL[b]? = some (.inr (.inr (n, f)))) (hi : vp_in i n) (hf : f i.toNatClampNeg = some r) (k : ZV m d Q pc' L (.ref r :: st) M) : ZV m d Q pc L (.int i :: .ref b :: st) M := by
  subst hp
  intro G cI cQ ad A p l e s mi args below meth c H locs ls S hr hlk hK hW hS hL
  refine va_aldq (D := G) S.1 S.2.1 hK.1 hW.1 b 1 (zwl_at hb) rfl hi hd ?_
  show W p l e (zrm d) s mi args below meth c H locs 0 0 (MQ below (ZQ G cI cQ ad A Q) args s 0 0 A) (F0 mi (pc + 1) ls (va_rf ((f i.toNatClampNeg).map ad) :: st.map (zc ad)))
  rw [hf]
  exact k G cI cQ ad A p l e s mi args below meth c H locs ls S hr hlk hK hW hS hL
theorem zv_alen {m : ZMD} {d : Nat} {Q : Option Value → ZMem → Prop} {pc pc' : Nat} {L : ZLc} {st : List Value} {M : ZMem} {b n : Nat} (hd : decode m.2.1 pc = .ok (.arraylength, 1)) (hp : pc + 1 = pc') (hb : zshL[b]? = some (.inl n)) (k : ZV m d Q pc' L (.int (nI n) :: st) M) : ZV m d Q pc L (.ref b :: st) M := by
  subst hp
  intro G cI cQ ad A p l e s mi args below meth c H locs ls S hr hlk hK hW hS hL
  exact va_alen (D := G) S.1 S.2.1 hK.1 hW.1 b 0 (zwl_at hb) rfl rfl hd (k G cI cQ ad A p l e s mi args below meth c H locs ls S hr hlk hK hW hS hL)
theorem zv_ireturn {m : ZMD} {d : Nat} {Q : Option Value → ZMem → Prop} {pc : Nat} {L : ZLc} {M : ZMem} {ty : FieldType} {v : Int32} (hd : decode m.2.1 pc = .ok (.ireturn, 1)) (hty : m.2.2.2 = some ty) (hn : narrow ty (.int v) = .int v) (hq : Q (some (.int v)) M) : ZV m d Q pc L [.int v] M := by
  intro G cI cQ ad A p l e s mi args below meth c H locs ls S hr hlk hK hW hS hL
  exact W.zret S.1 S.2.1 (hr.trans hty) hn (fun t ht hWt => ⟨⟨some (.int v), M, rfl, hq, by rw [ht]; exact hW⟩, hS.F ht⟩) hS.2.2 hd hlk
theorem zv_iret {m : ZMD} {d : Nat} {Q : Option Value → ZMem → Prop} {pc : Nat} {L : ZLc} {M : ZMem} {v : Int32} (hd : decode m.2.1 pc = .ok (.ireturn, 1)) (hty : m.2.2.2 = some .int) (hq : Q (some (.int v)) M) : ZV m d Q pc L [.int v] M := zv_ireturn hd hty rfl hq
theorem zv_lret {m : ZMD} {d : Nat} {Q : Option Value → ZMem → Prop} {pc : Nat} {L : ZLc} {M : ZMem} {v : Int64} (hd : decode m.2.1 pc = .ok (.lreturn, 1)) (hty : m.2.2.2 = some .long) (hq : Q (some (.long v)) M) : ZV m d Q pc L [.long v] M := by
  intro G cI cQ ad A p l e s mi args below meth c H locs ls S hr hlk hK hW hS hL
  exact W.lret S.1 S.2.1 (hr.trans hty) (fun t ht hWt => ⟨⟨some (.long v), M, rfl, hq, by rw [ht]; exact hW⟩, hS.F ht⟩) hS.2.2 hd hlk
theorem zv_vret {m : ZMD} {d : Nat} {Q : Option Value → ZMem → Prop} {pc : Nat} {L : ZLc} {M : ZMem} (hd : decode m.2.1 pc = .ok (.return_, 1)) (hty : m.2.2.2 = none) (hq : Q none M) : ZV m d Q pc L [] M := by
  intro G cI cQ ad A p l e s mi args below meth c H locs ls S hr hlk hK hW hS hL
  exact W.vret S.1 S.2.1 (hr.trans hty) (fun t ht hWt => ⟨⟨none, M, rfl, hq, by rw [ht]; exact hW⟩, hS.F ht⟩) hS.2.2 hd hlk
/-- a call's link -/
def zlk (own : String) (idx : Nat) (m2 : ZMD) (n : Nat) : Prop := (Cond.methodLink own idx m2.1 ∈ zgt ∨ ∃ host, Cond.methodLinkNest own idx m2.1 host ∈ zNW) ∧ Cond.initialized m2.1.cls ∈ zgt ∧ Cond.code m2.1 m2.2.1 m2.2.2.1 m2.2.2.2 ∈ zgt ∧ (m2.1.cls ≠ "java/lang/invoke/MethodHandle" ∧ m2.1.cls ≠ "java/lang/invoke/VarHandle" ∧ (parseMethodDescriptor m2.1.desc).map (fun d => d.parameters.length) = some n) ∧ m2.2.2.1 ≤ 21
def zlkV (own : String) (idx : Nat) (m2 : ZMD) (n : Nat) : Prop := zlk own idx m2 n ∧ Cond.instanceMethod m2.1 ∈ zgt ∧ Cond.selects m2.1.cls m2.1 m2.1 ∈ zgt
def zlkS (own : String) (idx : Nat) (m2 : ZMD) (n : Nat) : Prop := zlk own idx m2 n ∧ Cond.static m2.1 ∈ zgt
theorem zgoodin {y : MethodName} {b : ByteArray} {n : Nat} {r : Option FieldType} (h : Cond.code y b n r ∈ zgt) : GoodIn zgt (Cond.code y b n r :: zgt) := fun w hw => by
  have h1 : w ∈ zgt := (List.mem_cons.mp hw).elim (fun e => e ▸ h) id
  exact ⟨h1, zgt_good h1⟩
theorem z_call {p : Program} {l : Launch} {e : Env} {d : Nat} {s : State} {mi : MethodId} {args : Array Value} {below : List Frame} {meth : Method} {c : Code} {H : Heap} {locs : List Loc} {Q : State → Prop} {G : va_G} {cI cQ : ClassId} {ad : Nat → Nat} {A : Nat → Prop} {Q2 : Option Value → ZMem → Prop} {a : Array Value} {pc : Nat} {ls : Array Slot} {st0 rest : List Value}
    (hr : va_Run p l e (zrm d) s mi args below meth c H locs 0 0 0 0 (F0 mi pc ls st0) rest (ZQ G cI cQ ad A Q2 a) A) (hS : va_S A s.heap H locs)
    (kk : ∀ (v : Option Value) (M' : ZMem) (H1 : Heap) (locs1 : List Loc), Q2 v M' → ZW G cI cQ ad A M' H1 → va_S A s.heap H1 locs1 → W p l e (zrm d) s mi args below meth c H1 locs1 0 0 Q (F0 mi (pc + 3) ls ((v.map (zc ad)).toList ++ rest))) : W p l e (zrm d) s mi args below meth c H locs 0 0 Q (F0 mi pc ls st0) := by
  intro T hT X
  obtain ⟨v0, st₀, t, T', L, h0, X', hL, e1, e2, ⟨⟨v, M', hv, hq, hw⟩, hz, hk⟩, st⟩ := hr T hT X
  cases hv
  rw [h0] at hz hk
  obtain ⟨t2, a1, b1⟩ := kk v M' T'.heap (locs ++ L) hq (by rw [e1]; exact hw)
    ⟨Nat.le_trans hS.1 (by rw [e1]; exact hz), fun q h1 h2 => by rw [e1, hk q (Nat.lt_of_lt_of_le h1 hS.1) h2]; exact hS.2.1 q h1 h2, fun q hq => by
      rcases List.mem_append.mp hq with h | h
      · exact hS.2.2 q h
      · exact hL q h⟩ T' rfl X'
  exact ⟨t2, st t2 a1, b1⟩
theorem zc_toList (ad : Nat → Nat) (v : Option Value) (st : List Value) : (v.map (zc ad)).toList ++ st.map (zc ad) = (v.toList ++ st).map (zc ad) := by cases v <;> rfl
theorem zc_cats (ad : Nat → Nat) (st : List Value) : ((st.map (zc ad)).map fun v => v.category) = st.map fun v => v.category := by simp [zc_cat]
theorem zv_callV {m : ZMD} {d : Nat} {Q : Option Value → ZMem → Prop} {pc pc' : Nat} {L : ZLc} {st : List Value} {M : ZMem} {idx n b ci : Nat} {m2 : ZMD} {as st0 : List Value} {fs : List (Option Nat)} {Q2 : Option Value → ZMem → Prop} (hd : decode m.2.1 pc = .ok (.invokevirtual idx, 3)) (hp : pc + 3 = pc') (lk : zlkV m.1.cls idx m2 n) (hb : zshL[b]? = some (.inr (.inl (ci, fs)))) (hci : (zcls[ci]?).map (fun q => q.1) = some m2.1.cls) (hn : as.length = n) (hst : as.reverse ++ .ref b :: st = st0) (hcat : (st.map fun v => v.category).sum ≤ 8) (hx : ZEx m2 d (.ref b :: as) M Q2)
    (k : ∀ (v : Option Value) (M' : ZMem), Q2 v M' → ZV m (d + 1) Q pc' L (v.toList ++ st) M') : ZV m (d + 1) Q pc L st0 M := by
  subst hp; subst hst
  intro G cI cQ ad A p l e s mi args below meth c H locs ls S hr hlk hK hW hS hL
  obtain ⟨⟨h1, h2, h3, h4, h5⟩, h6, h7⟩ := lk
  have hbl : FrameBlind (va_Pc ((Value.ref b :: as).map (zc ad)) (fun U => ZK G cI cQ ad A U U.heap ∧ ZW G cI cQ ad A M U.heap)) := fun a U g mk q => ⟨q.1, q.2.1.blind, q.2.2⟩
  obtain ⟨r, hr1, hr2⟩ := Option.map_eq_some_iff.mp hci
  have hrecv := va_recv (s := s) hK.1 hW.1 hr1 (zwl_at (cI := cI) (cQ := cQ) (ad := ad) (M := M) hb)
  rw [hr2] at hrecv
  have hpre : PreV s H m2.1.cls (ad b) (va_Pc ((Value.ref b :: as).map (zc ad)) (fun U => ZK G cI cQ ad A U U.heap ∧ ZW G cI cQ ad A M U.heap)) (as.map (zc ad)) := ⟨hbl, hrecv, fun U hU hWm => ⟨rfl, hK.go hS hU hWm, by rw [hU]; exact hW⟩⟩
  have hroom : (zrm d).frames + 1 ≤ (zrm (d + 1)).frames ∧ 8 + (m2.2.2.1 + 11) + (zrm d).locals ≤ (zrm (d + 1)).locals := ⟨Nat.le_refl _, by show 8 + (m2.2.2.1 + 11) + 40 * d ≤ 40 * (d + 1); omega⟩
  have hcats : ((st.map (zc ad)).map fun v => v.category).sum ≤ 8 := by rw [zc_cats]; exact hcat
  have hstk : (as.reverse ++ Value.ref b :: st).map (zc ad) = (as.map (zc ad)).reverse ++ Value.ref (ad b) :: st.map (zc ad) := by simp [zc]
  rw [hstk]
  have fin : ∀ (v : Option Value) (M' : ZMem) (H1 : Heap) (locs1 : List Loc), Q2 v M' → ZW G cI cQ ad A M' H1 → va_S A s.heap H1 locs1 → W p l e (zrm (d + 1)) s mi args below meth c H1 locs1 0 0 (MQ below (ZQ G cI cQ ad A Q) args s 0 0 A) (F0 mi (pc + 3) ls ((v.map (zc ad)).toList ++ st.map (zc ad))) := by
    intro v M' H1 locs1 hq hw1 hS1
    rw [zc_toList]
    exact k v M' hq G cI cQ ad A p l e s mi args below meth c H1 locs1 ls S hr hlk hK hw1 hS1 hL
  rcases h1 with h1 | ⟨host, h1⟩
  · exact z_call (va_runV (As := as.map (zc ad)) (rest := st.map (zc ad)) (n := n) S (hx l G cI cQ ad A) ⟨callB_of n S.2.2.2.2 (zgoodin h3) rfl rfl rfl (S.2.2.2.2 _ h2) (S.2.2.2.2 _ h1) h4 hroom, S.2.2.2.2 _ h6, S.2.2.2.2 _ h7⟩ hpre rfl (by rw [List.length_map]; exact hn) hL.1 rfl (lv_room hcats) hd ⟨Nat.le_refl _, Nat.le_refl _⟩) hS fin
  · exact z_call (va_runVN (As := as.map (zc ad)) (rest := st.map (zc ad)) (n := n) S (hx l G cI cQ ad A) ⟨va_cnB n S.2.2.2.2 (zgoodin h3) rfl rfl rfl (hK.2.1 _ h1) (S.2.2.2.2 _ h2) h4 hroom, S.2.2.2.2 _ h6, S.2.2.2.2 _ h7⟩ hpre rfl (by rw [List.length_map]; exact hn) hL.1 rfl (lv_room hcats) hd ⟨Nat.le_refl _, Nat.le_refl _⟩) hS fin
theorem zv_callS {m : ZMD} {d : Nat} {Q : Option Value → ZMem → Prop} {pc pc' : Nat} {L : ZLc} {st : List Value} {M : ZMem} {idx n : Nat} {m2 : ZMD} {as st0 : List Value} {Q2 : Option Value → ZMem → Prop} (hd : decode m.2.1 pc = .ok (.invokestatic idx, 3)) (hp : pc + 3 = pc') (lk : zlkS m.1.cls idx m2 n) (hn : as.length = n) (hst : as.reverse ++ st = st0) (hcat : (st.map fun v => v.category).sum ≤ 8) (hx : ZEx m2 d as M Q2)
    (k : ∀ (v : Option Value) (M' : ZMem), Q2 v M' → ZV m (d + 1) Q pc' L (v.toList ++ st) M') : ZV m (d + 1) Q pc L st0 M := by
  subst hp; subst hst
  intro G cI cQ ad A p l e s mi args below meth c H locs ls S hr hlk hK hW hS hL
  obtain ⟨⟨h1, h2, h3, h4, h5⟩, h6⟩ := lk
  have hbl : FrameBlind (va_Pc (as.map (zc ad)) (fun U => ZK G cI cQ ad A U U.heap ∧ ZW G cI cQ ad A M U.heap)) := fun a U g mk q => ⟨q.1, q.2.1.blind, q.2.2⟩
  have hpre : PreS s H (va_Pc (as.map (zc ad)) (fun U => ZK G cI cQ ad A U U.heap ∧ ZW G cI cQ ad A M U.heap)) (as.map (zc ad)) := ⟨hbl, fun U hU hWm => ⟨rfl, hK.go hS hU hWm, by rw [hU]; exact hW⟩⟩
  have hroom : (zrm d).frames + 1 ≤ (zrm (d + 1)).frames ∧ 8 + (m2.2.2.1 + 11) + (zrm d).locals ≤ (zrm (d + 1)).locals := ⟨Nat.le_refl _, by show 8 + (m2.2.2.1 + 11) + 40 * d ≤ 40 * (d + 1); omega⟩
  have hcats : ((st.map (zc ad)).map fun v => v.category).sum ≤ 8 := by rw [zc_cats]; exact hcat
  have hstk : (as.reverse ++ st).map (zc ad) = (as.map (zc ad)).reverse ++ st.map (zc ad) := by simp
  rw [hstk]
  have fin : ∀ (v : Option Value) (M' : ZMem) (H1 : Heap) (locs1 : List Loc), Q2 v M' → ZW G cI cQ ad A M' H1 → va_S A s.heap H1 locs1 → W p l e (zrm (d + 1)) s mi args below meth c H1 locs1 0 0 (MQ below (ZQ G cI cQ ad A Q) args s 0 0 A) (F0 mi (pc + 3) ls ((v.map (zc ad)).toList ++ st.map (zc ad))) := by
    intro v M' H1 locs1 hq hw1 hS1
    rw [zc_toList]
    exact k v M' hq G cI cQ ad A p l e s mi args below meth c H1 locs1 ls S hr hlk hK hw1 hS1 hL
  rcases h1 with h1 | ⟨host, h1⟩
  · exact z_call (va_runS (As := as.map (zc ad)) (rest := st.map (zc ad)) (n := n) S (hx l G cI cQ ad A) ⟨callB_of n S.2.2.2.2 (zgoodin h3) rfl rfl rfl (S.2.2.2.2 _ h2) (S.2.2.2.2 _ h1) h4 hroom, S.2.2.2.2 _ h6⟩ hpre rfl (by rw [List.length_map]; exact hn) hL.1 rfl (lv_room hcats) hd ⟨Nat.le_refl _, Nat.le_refl _⟩) hS fin
  · exact z_call (va_runSN (As := as.map (zc ad)) (rest := st.map (zc ad)) (n := n) S (hx l G cI cQ ad A) ⟨va_cnB n S.2.2.2.2 (zgoodin h3) rfl rfl rfl (hK.2.1 _ h1) (S.2.2.2.2 _ h2) h4 hroom, S.2.2.2.2 _ h6, trivial⟩ hpre rfl (by rw [List.length_map]; exact hn) hL.1 rfl (lv_room hcats) hd ⟨Nat.le_refl _, Nat.le_refl _⟩) hS fin
theorem zv_callV0 {m : ZMD} {d : Nat} {Q : Option Value → ZMem → Prop} {pc pc' : Nat} {L : ZLc} {st : List Value} {M : ZMem} {idx b ci : Nat} {m2 : ZMD} {fs : List (Option Nat)} {Q2 : Option Value → ZMem → Prop} (hd : decode m.2.1 pc = .ok (.invokevirtual idx, 3)) (hp : pc + 3 = pc') (lk : zlkV m.1.cls idx m2 0) (hb : zshL[b]? = some (.inr (.inl (ci, fs)))) (hci : (zcls[ci]?).map (fun q => q.1) = some m2.1.cls) (hcat : (st.map fun v => v.category).sum ≤ 8) (hx : ZEx m2 d (.ref b :: []) M Q2)
    (k : ∀ (v : Option Value) (M' : ZMem), Q2 v M' → ZV m (d + 1) Q pc' L (v.toList ++ st) M') : ZV m (d + 1) Q pc L (.ref b :: st) M := zv_callV hd hp lk hb hci rfl rfl hcat hx k
theorem zv_callS0 {m : ZMD} {d : Nat} {Q : Option Value → ZMem → Prop} {pc pc' : Nat} {L : ZLc} {st : List Value} {M : ZMem} {idx : Nat} {m2 : ZMD} {Q2 : Option Value → ZMem → Prop} (hd : decode m.2.1 pc = .ok (.invokestatic idx, 3)) (hp : pc + 3 = pc') (lk : zlkS m.1.cls idx m2 0) (hcat : (st.map fun v => v.category).sum ≤ 8) (hx : ZEx m2 d [] M Q2)
    (k : ∀ (v : Option Value) (M' : ZMem), Q2 v M' → ZV m (d + 1) Q pc' L (v.toList ++ st) M') : ZV m (d + 1) Q pc L (st) M := zv_callS hd hp lk rfl rfl hcat hx k
theorem zv_callV1 {m : ZMD} {d : Nat} {Q : Option Value → ZMem → Prop} {pc pc' : Nat} {L : ZLc} {st : List Value} {M : ZMem} {idx b ci : Nat} {m2 : ZMD} {x0 : Value} {fs : List (Option Nat)} {Q2 : Option Value → ZMem → Prop} (hd : decode m.2.1 pc = .ok (.invokevirtual idx, 3)) (hp : pc + 3 = pc') (lk : zlkV m.1.cls idx m2 1) (hb : zshL[b]? = some (.inr (.inl (ci, fs)))) (hci : (zcls[ci]?).map (fun q => q.1) = some m2.1.cls) (hcat : (st.map fun v => v.category).sum ≤ 8) (hx : ZEx m2 d (.ref b :: [x0]) M Q2)
    (k : ∀ (v : Option Value) (M' : ZMem), Q2 v M' → ZV m (d + 1) Q pc' L (v.toList ++ st) M') : ZV m (d + 1) Q pc L (x0 :: .ref b :: st) M := zv_callV hd hp lk hb hci rfl rfl hcat hx k
theorem zv_callS1 {m : ZMD} {d : Nat} {Q : Option Value → ZMem → Prop} {pc pc' : Nat} {L : ZLc} {st : List Value} {M : ZMem} {idx : Nat} {m2 : ZMD} {x0 : Value} {Q2 : Option Value → ZMem → Prop} (hd : decode m.2.1 pc = .ok (.invokestatic idx, 3)) (hp : pc + 3 = pc') (lk : zlkS m.1.cls idx m2 1) (hcat : (st.map fun v => v.category).sum ≤ 8) (hx : ZEx m2 d [x0] M Q2)
    (k : ∀ (v : Option Value) (M' : ZMem), Q2 v M' → ZV m (d + 1) Q pc' L (v.toList ++ st) M') : ZV m (d + 1) Q pc L (x0 :: st) M := zv_callS hd hp lk rfl rfl hcat hx k
theorem zv_callV2 {m : ZMD} {d : Nat} {Q : Option Value → ZMem → Prop} {pc pc' : Nat} {L : ZLc} {st : List Value} {M : ZMem} {idx b ci : Nat} {m2 : ZMD} {x0 x1 : Value} {fs : List (Option Nat)} {Q2 : Option Value → ZMem → Prop} (hd : decode m.2.1 pc = .ok (.invokevirtual idx, 3)) (hp : pc + 3 = pc') (lk : zlkV m.1.cls idx m2 2) (hb : zshL[b]? = some (.inr (.inl (ci, fs)))) (hci : (zcls[ci]?).map (fun q => q.1) = some m2.1.cls) (hcat : (st.map fun v => v.category).sum ≤ 8) (hx : ZEx m2 d (.ref b :: [x0, x1]) M Q2)
    (k : ∀ (v : Option Value) (M' : ZMem), Q2 v M' → ZV m (d + 1) Q pc' L (v.toList ++ st) M') : ZV m (d + 1) Q pc L (x1 :: x0 :: .ref b :: st) M := zv_callV hd hp lk hb hci rfl rfl hcat hx k
theorem zv_callS2 {m : ZMD} {d : Nat} {Q : Option Value → ZMem → Prop} {pc pc' : Nat} {L : ZLc} {st : List Value} {M : ZMem} {idx : Nat} {m2 : ZMD} {x0 x1 : Value} {Q2 : Option Value → ZMem → Prop} (hd : decode m.2.1 pc = .ok (.invokestatic idx, 3)) (hp : pc + 3 = pc') (lk : zlkS m.1.cls idx m2 2) (hcat : (st.map fun v => v.category).sum ≤ 8) (hx : ZEx m2 d [x0, x1] M Q2)
    (k : ∀ (v : Option Value) (M' : ZMem), Q2 v M' → ZV m (d + 1) Q pc' L (v.toList ++ st) M') : ZV m (d + 1) Q pc L (x1 :: x0 :: st) M := zv_callS hd hp lk rfl rfl hcat hx k
theorem zv_callV3 {m : ZMD} {d : Nat} {Q : Option Value → ZMem → Prop} {pc pc' : Nat} {L : ZLc} {st : List Value} {M : ZMem} {idx b ci : Nat} {m2 : ZMD} {x0 x1 x2 : Value} {fs : List (Option Nat)} {Q2 : Option Value → ZMem → Prop} (hd : decode m.2.1 pc = .ok (.invokevirtual idx, 3)) (hp : pc + 3 = pc') (lk : zlkV m.1.cls idx m2 3) (hb : zshL[b]? = some (.inr (.inl (ci, fs)))) (hci : (zcls[ci]?).map (fun q => q.1) = some m2.1.cls) (hcat : (st.map fun v => v.category).sum ≤ 8) (hx : ZEx m2 d (.ref b :: [x0, x1, x2]) M Q2)
    (k : ∀ (v : Option Value) (M' : ZMem), Q2 v M' → ZV m (d + 1) Q pc' L (v.toList ++ st) M') : ZV m (d + 1) Q pc L (x2 :: x1 :: x0 :: .ref b :: st) M := zv_callV hd hp lk hb hci rfl rfl hcat hx k
theorem zv_callS3 {m : ZMD} {d : Nat} {Q : Option Value → ZMem → Prop} {pc pc' : Nat} {L : ZLc} {st : List Value} {M : ZMem} {idx : Nat} {m2 : ZMD} {x0 x1 x2 : Value} {Q2 : Option Value → ZMem → Prop} (hd : decode m.2.1 pc = .ok (.invokestatic idx, 3)) (hp : pc + 3 = pc') (lk : zlkS m.1.cls idx m2 3) (hcat : (st.map fun v => v.category).sum ≤ 8) (hx : ZEx m2 d [x0, x1, x2] M Q2)
    (k : ∀ (v : Option Value) (M' : ZMem), Q2 v M' → ZV m (d + 1) Q pc' L (v.toList ++ st) M') : ZV m (d + 1) Q pc L (x2 :: x1 :: x0 :: st) M := zv_callS hd hp lk rfl rfl hcat hx k
theorem zv_callV4 {m : ZMD} {d : Nat} {Q : Option Value → ZMem → Prop} {pc pc' : Nat} {L : ZLc} {st : List Value} {M : ZMem} {idx b ci : Nat} {m2 : ZMD} {x0 x1 x2 x3 : Value} {fs : List (Option Nat)} {Q2 : Option Value → ZMem → Prop} (hd : decode m.2.1 pc = .ok (.invokevirtual idx, 3)) (hp : pc + 3 = pc') (lk : zlkV m.1.cls idx m2 4) (hb : zshL[b]? = some (.inr (.inl (ci, fs)))) (hci : (zcls[ci]?).map (fun q => q.1) = some m2.1.cls) (hcat : (st.map fun v => v.category).sum ≤ 8) (hx : ZEx m2 d (.ref b :: [x0, x1, x2, x3]) M Q2)
    (k : ∀ (v : Option Value) (M' : ZMem), Q2 v M' → ZV m (d + 1) Q pc' L (v.toList ++ st) M') : ZV m (d + 1) Q pc L (x3 :: x2 :: x1 :: x0 :: .ref b :: st) M := zv_callV hd hp lk hb hci rfl rfl hcat hx k
theorem zv_callS4 {m : ZMD} {d : Nat} {Q : Option Value → ZMem → Prop} {pc pc' : Nat} {L : ZLc} {st : List Value} {M : ZMem} {idx : Nat} {m2 : ZMD} {x0 x1 x2 x3 : Value} {Q2 : Option Value → ZMem → Prop} (hd : decode m.2.1 pc = .ok (.invokestatic idx, 3)) (hp : pc + 3 = pc') (lk : zlkS m.1.cls idx m2 4) (hcat : (st.map fun v => v.category).sum ≤ 8) (hx : ZEx m2 d [x0, x1, x2, x3] M Q2)
    (k : ∀ (v : Option Value) (M' : ZMem), Q2 v M' → ZV m (d + 1) Q pc' L (v.toList ++ st) M') : ZV m (d + 1) Q pc L (x3 :: x2 :: x1 :: x0 :: st) M := zv_callS hd hp lk rfl rfl hcat hx k
theorem zv_callV5 {m : ZMD} {d : Nat} {Q : Option Value → ZMem → Prop} {pc pc' : Nat} {L : ZLc} {st : List Value} {M : ZMem} {idx b ci : Nat} {m2 : ZMD} {x0 x1 x2 x3 x4 : Value} {fs : List (Option Nat)} {Q2 : Option Value → ZMem → Prop} (hd : decode m.2.1 pc = .ok (.invokevirtual idx, 3)) (hp : pc + 3 = pc') (lk : zlkV m.1.cls idx m2 5) (hb : zshL[b]? = some (.inr (.inl (ci, fs)))) (hci : (zcls[ci]?).map (fun q => q.1) = some m2.1.cls) (hcat : (st.map fun v => v.category).sum ≤ 8) (hx : ZEx m2 d (.ref b :: [x0, x1, x2, x3, x4]) M Q2)
    (k : ∀ (v : Option Value) (M' : ZMem), Q2 v M' → ZV m (d + 1) Q pc' L (v.toList ++ st) M') : ZV m (d + 1) Q pc L (x4 :: x3 :: x2 :: x1 :: x0 :: .ref b :: st) M := zv_callV hd hp lk hb hci rfl rfl hcat hx k
theorem zv_callS5 {m : ZMD} {d : Nat} {Q : Option Value → ZMem → Prop} {pc pc' : Nat} {L : ZLc} {st : List Value} {M : ZMem} {idx : Nat} {m2 : ZMD} {x0 x1 x2 x3 x4 : Value} {Q2 : Option Value → ZMem → Prop} (hd : decode m.2.1 pc = .ok (.invokestatic idx, 3)) (hp : pc + 3 = pc') (lk : zlkS m.1.cls idx m2 5) (hcat : (st.map fun v => v.category).sum ≤ 8) (hx : ZEx m2 d [x0, x1, x2, x3, x4] M Q2)
    (k : ∀ (v : Option Value) (M' : ZMem), Q2 v M' → ZV m (d + 1) Q pc' L (v.toList ++ st) M') : ZV m (d + 1) Q pc L (x4 :: x3 :: x2 :: x1 :: x0 :: st) M := zv_callS hd hp lk rfl rfl hcat hx k
theorem zv_callV6 {m : ZMD} {d : Nat} {Q : Option Value → ZMem → Prop} {pc pc' : Nat} {L : ZLc} {st : List Value} {M : ZMem} {idx b ci : Nat} {m2 : ZMD} {x0 x1 x2 x3 x4 x5 : Value} {fs : List (Option Nat)} {Q2 : Option Value → ZMem → Prop} (hd : decode m.2.1 pc = .ok (.invokevirtual idx, 3)) (hp : pc + 3 = pc') (lk : zlkV m.1.cls idx m2 6) (hb : zshL[b]? = some (.inr (.inl (ci, fs)))) (hci : (zcls[ci]?).map (fun q => q.1) = some m2.1.cls) (hcat : (st.map fun v => v.category).sum ≤ 8) (hx : ZEx m2 d (.ref b :: [x0, x1, x2, x3, x4, x5]) M Q2)
    (k : ∀ (v : Option Value) (M' : ZMem), Q2 v M' → ZV m (d + 1) Q pc' L (v.toList ++ st) M') : ZV m (d + 1) Q pc L (x5 :: x4 :: x3 :: x2 :: x1 :: x0 :: .ref b :: st) M := zv_callV hd hp lk hb hci rfl rfl hcat hx k
theorem zv_callS6 {m : ZMD} {d : Nat} {Q : Option Value → ZMem → Prop} {pc pc' : Nat} {L : ZLc} {st : List Value} {M : ZMem} {idx : Nat} {m2 : ZMD} {x0 x1 x2 x3 x4 x5 : Value} {Q2 : Option Value → ZMem → Prop} (hd : decode m.2.1 pc = .ok (.invokestatic idx, 3)) (hp : pc + 3 = pc') (lk : zlkS m.1.cls idx m2 6) (hcat : (st.map fun v => v.category).sum ≤ 8) (hx : ZEx m2 d [x0, x1, x2, x3, x4, x5] M Q2)
    (k : ∀ (v : Option Value) (M' : ZMem), Q2 v M' → ZV m (d + 1) Q pc' L (v.toList ++ st) M') : ZV m (d + 1) Q pc L (x5 :: x4 :: x3 :: x2 :: x1 :: x0 :: st) M := zv_callS hd hp lk rfl rfl hcat hx k
theorem zv_mmax {m : ZMD} {d : Nat} {Q : Option Value → ZMem → Prop} {pc pc' : Nat} {L : ZLc} {st : List Value} {M : ZMem} {idx : Nat} {x y : Int32} (hd : decode m.2.1 pc = .ok (.invokestatic idx, 3)) (hp : pc + 3 = pc') (lk : Cond.methodLink m.1.cls idx Lib.Math.max.name ∈ zgt ∧ Cond.static Lib.Math.max.name ∈ zgt ∧ Cond.initialized "java/lang/Math" ∈ zgt ∧ Cond.code Lib.Math.max.name Lib.Math.max.code 2 (some .int) ∈ zgt) (hcat : (st.map fun v => v.category).sum ≤ 8) (k : ZV m (d + 1) Q pc' L (.int (if x < y then y else x) :: st) M) : ZV m (d + 1) Q pc L (.int y :: .int x :: st) M := by
  subst hp
  intro G cI cQ ad A p l e s mi args below meth c H locs ls S hr hlk hK hW hS hL
  have hcats : ((st.map (zc ad)).map fun v => v.category).sum ≤ 8 := by rw [zc_cats]; exact hcat
  exact va_mmax S.1 S.2.1 (S.2.2.1.trans hL.1.symm) S.2.2.2.1 (S.2.2.2.2 _ lk.1) (S.2.2.2.2 _ lk.2.1) (S.2.2.2.2 _ lk.2.2.1) (S.2.2.2.2 _ lk.2.2.2) (by show 1 ≤ d + 1; omega) (by show _ ≤ 40 * (d + 1); omega) (Nat.le_refl _) (Nat.le_refl _) hd (k G cI cQ ad A p l e s mi args below meth c H locs ls S hr hlk hK hW hS hL)
theorem zv_mmin {m : ZMD} {d : Nat} {Q : Option Value → ZMem → Prop} {pc pc' : Nat} {L : ZLc} {st : List Value} {M : ZMem} {idx : Nat} {x y : Int32} (hd : decode m.2.1 pc = .ok (.invokestatic idx, 3)) (hp : pc + 3 = pc') (lk : Cond.methodLink m.1.cls idx Lib.Math.min.name ∈ zgt ∧ Cond.static Lib.Math.min.name ∈ zgt ∧ Cond.initialized "java/lang/Math" ∈ zgt ∧ Cond.code Lib.Math.min.name Lib.Math.min.code 2 (some .int) ∈ zgt) (hcat : (st.map fun v => v.category).sum ≤ 8) (k : ZV m (d + 1) Q pc' L (.int (if y < x then y else x) :: st) M) : ZV m (d + 1) Q pc L (.int y :: .int x :: st) M := by
  subst hp
  intro G cI cQ ad A p l e s mi args below meth c H locs ls S hr hlk hK hW hS hL
  have hcats : ((st.map (zc ad)).map fun v => v.category).sum ≤ 8 := by rw [zc_cats]; exact hcat
  exact va_mmin S.1 S.2.1 (S.2.2.1.trans hL.1.symm) S.2.2.2.1 (S.2.2.2.2 _ lk.1) (S.2.2.2.2 _ lk.2.1) (S.2.2.2.2 _ lk.2.2.1) (S.2.2.2.2 _ lk.2.2.2) (by show 1 ≤ d + 1; omega) (by show _ ≤ 40 * (d + 1); omega) (Nat.le_refl _) (Nat.le_refl _) hd (k G cI cQ ad A p l e s mi args below meth c H locs ls S hr hlk hK hW hS hL)
theorem zv_mabs {m : ZMD} {d : Nat} {Q : Option Value → ZMem → Prop} {pc pc' : Nat} {L : ZLc} {st : List Value} {M : ZMem} {idx : Nat} {x : Int32} (hd : decode m.2.1 pc = .ok (.invokestatic idx, 3)) (hp : pc + 3 = pc') (lk : Cond.methodLink m.1.cls idx Lib.Math.abs.name ∈ zgt ∧ Cond.static Lib.Math.abs.name ∈ zgt ∧ Cond.initialized "java/lang/Math" ∈ zgt ∧ Cond.code Lib.Math.abs.name Lib.Math.abs.code 1 (some .int) ∈ zgt) (hcat : (st.map fun v => v.category).sum ≤ 8) (k : ZV m (d + 1) Q pc' L (.int (if 0 ≤ x then x else 0 - x) :: st) M) : ZV m (d + 1) Q pc L (.int x :: st) M := by
  subst hp
  intro G cI cQ ad A p l e s mi args below meth c H locs ls S hr hlk hK hW hS hL
  have hcats : ((st.map (zc ad)).map fun v => v.category).sum ≤ 8 := by rw [zc_cats]; exact hcat
  exact va_mabs S.1 S.2.1 (S.2.2.1.trans hL.1.symm) S.2.2.2.1 (S.2.2.2.2 _ lk.1) (S.2.2.2.2 _ lk.2.1) (S.2.2.2.2 _ lk.2.2.1) (S.2.2.2.2 _ lk.2.2.2) (by show 1 ≤ d + 1; omega) (by show _ ≤ 40 * (d + 1); omega) (Nat.le_refl _) (Nat.le_refl _) hd (k G cI cQ ad A p l e s mi args below meth c H locs ls S hr hlk hK hW hS hL)
theorem zv_copy {m : ZMD} {d : Nat} {Q : Option Value → ZMem → Prop} {pc pc' : Nat} {L : ZLc} {st : List Value} {M : ZMem} {idx a b n0 n1 : Nat} {sp dp n : Int32} (hd : decode m.2.1 pc = .ok (.invokestatic idx, 3)) (hp : pc + 3 = pc') (lk : Cond.methodLink m.1.cls idx arraycopyName ∈ zgt ∧ Cond.native arraycopyName ∈ zgt ∧ Cond.static arraycopyName ∈ zgt ∧ Cond.initialized "java/lang/System" ∈ zgt) (ha : zshL[a]? = some (.inl n0)) (hb : zshL[b]? = some (.inl n1)) (hcat : (st.map fun v => v.category).sum ≤ 8) (h1 : ¬ sp < 0) (h2 : ¬ dp < 0) (h3 : ¬ n < 0) (h4 : sp.toNatClampNeg + n.toNatClampNeg ≤ n0) (h5 : dp.toNatClampNeg + n.toNatClampNeg ≤ n1) (hnf : nativeFrameWords "java/lang/System" "arraycopy" 5 + 11 ≤ 30)
    (k : ZV m (d + 1) Q pc' L st (zupf M b (va_cpy (M a) (M b) sp.toNatClampNeg dp.toNatClampNeg n.toNatClampNeg))) : ZV m (d + 1) Q pc L (.int n :: .int dp :: .ref b :: .int sp :: .ref a :: st) M := by
  subst hp
  intro G cI cQ ad A p l e s mi args below meth c H locs ls S hr hlk hK hW hS hL
  have hcats : ((st.map (zc ad)).map fun v => v.category).sum ≤ 8 := by rw [zc_cats]; exact hcat
  refine va_copyi (D := G) (ty := .int) S.1 S.2.1 (S.2.2.1.trans hL.1.symm) S.2.2.2.1 (S.2.2.2.2 _ lk.1) (S.2.2.2.2 _ lk.2.1) (S.2.2.2.2 _ lk.2.2.1) (S.2.2.2.2 _ lk.2.2.2) hK.1 hW.1 hW.2 hS a b 0 0 (zwl_at ha) (zwl_at hb) rfl rfl rfl h1 h2 h3 h4 h5 (fun i hi => rfl) (by show 1 ≤ d + 1; omega) (by show _ ≤ 40 * (d + 1); omega) hd (fun H1 locs1 hP1 hD1 hS1 => ?_)
  have ee : (zwl ad cI cQ M).set b (ad b, .inl (cI, n1, .inl (va_cpy (M a) (M b) sp.toNatClampNeg dp.toNatClampNeg n.toNatClampNeg))) = zwl ad cI cQ (zupf M b (va_cpy (M a) (M b) sp.toNatClampNeg dp.toNatClampNeg n.toNatClampNeg)) := zwl_set hb
  rw [ee] at hP1 hD1
  exact k G cI cQ ad A p l e s mi args below meth c H1 locs1 ls S hr hlk hK ⟨hP1, hD1⟩ hS1 hL
end
section
theorem zt0 {w : Cond} (h : w ∈ k2_sels lw_privs) : w ∈ lw_tbl := List.mem_append_left _ h
theorem zt1 {w : Cond} (h : w ∈ tables_1_1) : w ∈ lw_tbl := List.mem_append_right _ (List.mem_append_left _ h)
theorem zt2 {w : Cond} (h : w ∈ tables_1_2) : w ∈ lw_tbl := List.mem_append_right _ (List.mem_append_right _ (List.mem_append_left _ h))
theorem zt3 {w : Cond} (h : w ∈ tables_1_3) : w ∈ lw_tbl := List.mem_append_right _ (List.mem_append_right _ (List.mem_append_right _ (List.mem_append_left _ h)))
theorem zt4 {w : Cond} (h : w ∈ tables_1_4) : w ∈ lw_tbl := List.mem_append_right _ (List.mem_append_right _ (List.mem_append_right _ (List.mem_append_right _ (List.mem_append_left _ h))))
theorem zt5 {w : Cond} (h : w ∈ tables_1_5) : w ∈ lw_tbl := List.mem_append_right _ (List.mem_append_right _ (List.mem_append_right _ (List.mem_append_right _ (List.mem_append_right _ (List.mem_append_left _ h)))))
theorem zt6 {w : Cond} (h : w ∈ tables_1_6) : w ∈ lw_tbl := List.mem_append_right _ (List.mem_append_right _ (List.mem_append_right _ (List.mem_append_right _ (List.mem_append_right _ (List.mem_append_right _ (h))))))
abbrev mdX0_init : ZMD := (yX0_init, cX0_init, 1, none)
abbrev mdX0_become : ZMD := (yX0_become, cX0_become, 2, none)
abbrev mdX0_isAs : ZMD := (yX0_isAs, cX0_isAs, 3, (some .boolean))
abbrev mdX0_has : ZMD := (yX0_has, cX0_has, 2, (some .boolean))
abbrev mdX0_hasTwo : ZMD := (yX0_hasTwo, cX0_hasTwo, 3, (some .boolean))
abbrev mdX0_welcome : ZMD := (yX0_welcome, cX0_welcome, 4, (some .boolean))
abbrev mdX0_enrich : ZMD := (yX0_enrich, cX0_enrich, 3, (some .boolean))
abbrev mdX0_hasSigned : ZMD := (yX0_hasSigned, cX0_hasSigned, 3, (some .boolean))
abbrev mdX0_atFeud : ZMD := (yX0_atFeud, cX0_atFeud, 3, (some .boolean))
abbrev mdX0_isKin : ZMD := (yX0_isKin, cX0_isKin, 3, (some .boolean))
abbrev mdX0_kinOf : ZMD := (yX0_kinOf, cX0_kinOf, 4, (some .int))
abbrev mdX0_turnSigning : ZMD := (yX0_turnSigning, cX0_turnSigning, 3, (some .boolean))
abbrev mdX0_setSigning : ZMD := (yX0_setSigning, cX0_setSigning, 4, (some .boolean))
abbrev mdX0_signBoth : ZMD := (yX0_signBoth, cX0_signBoth, 3, (some .boolean))
abbrev mdX0_turnFeud : ZMD := (yX0_turnFeud, cX0_turnFeud, 3, (some .boolean))
abbrev mdX0_setFeud : ZMD := (yX0_setFeud, cX0_setFeud, 4, (some .boolean))
abbrev mdX0_withBit : ZMD := (yX0_withBit, cX0_withBit, 3, (some .int))
abbrev mdX0_changePlaces : ZMD := (yX0_changePlaces, cX0_changePlaces, 3, none)
abbrev mdX0_changeIn : ZMD := (yX0_changeIn, cX0_changeIn, 7, none)
abbrev mdX0_dues : ZMD := (yX0_dues, cX0_dues, 5, (some .int))
abbrev mdX0_mayPass : ZMD := (yX0_mayPass, cX0_mayPass, 2, (some .boolean))
abbrev mdX0_passYears : ZMD := (yX0_passYears, cX0_passYears, 3, (some .boolean))
abbrev mdX0_passYear : ZMD := (yX0_passYear, cX0_passYear, 5, none)
abbrev mdX0_pay : ZMD := (yX0_pay, cX0_pay, 4, none)
abbrev mdX0_wealth : ZMD := (yX0_wealth, cX0_wealth, 3, (some .int))
abbrev mdX0_signings : ZMD := (yX0_signings, cX0_signings, 3, (some .int))
abbrev mdX0_feudTwos : ZMD := (yX0_feudTwos, cX0_feudTwos, 3, (some .int))
abbrev mdX0_kinTwos : ZMD := (yX0_kinTwos, cX0_kinTwos, 3, (some .int))
abbrev mdX1_init : ZMD := (yX1_init, cX1_init, 1, none)
abbrev mdX1_isFull : ZMD := (yX1_isFull, cX1_isFull, 1, (some .boolean))
abbrev mdX1_add : ZMD := (yX1_add, cX1_add, 2, none)
abbrev mdX1_drop : ZMD := (yX1_drop, cX1_drop, 1, none)
abbrev mdX1_at : ZMD := (yX1_at, cX1_at, 2, (some .int))
abbrev mdX1_badForm : ZMD := (yX1_badForm, cX1_badForm, 4, (some .int))
abbrev mdX1_lengthFrom : ZMD := (yX1_lengthFrom, cX1_lengthFrom, 2, (some .int))
abbrev mdX1_badWithin : ZMD := (yX1_badWithin, cX1_badWithin, 6, (some .int))
abbrev mdX1_kindAt : ZMD := (yX1_kindAt, cX1_kindAt, 3, (some .int))
abbrev mdX1_isDigit : ZMD := (yX1_isDigit, cX1_isDigit, 1, (some .boolean))
abbrev mdX1_digitAt : ZMD := (yX1_digitAt, cX1_digitAt, 2, (some .int))
abbrev mdX1_numberAt : ZMD := (yX1_numberAt, cX1_numberAt, 2, (some .int))
abbrev mdX1_tellAll : ZMD := (yX1_tellAll, cX1_tellAll, 5, (some .int))
abbrev mdX1_tellOne : ZMD := (yX1_tellOne, cX1_tellOne, 5, (some .boolean))
abbrev mdX2_init : ZMD := (yX2_init, cX2_init, 2, none)
abbrev mdX2_goodWays : ZMD := (yX2_goodWays, cX2_goodWays, 7, (some .long))
abbrev mdX2_allWays : ZMD := (yX2_allWays, cX2_allWays, 5, (some .long))
abbrev mdX2_waysFrom : ZMD := (yX2_waysFrom, cX2_waysFrom, 6, (some .long))
abbrev mdX3_init : ZMD := (yX3_init, cX3_init, 1, none)
abbrev mdX3_pairAll : ZMD := (yX3_pairAll, cX3_pairAll, 5, (some .int))
abbrev mdX3_fitting : ZMD := (yX3_fitting, cX3_fitting, 6, (some .int))
abbrev mdX3_mostOf : ZMD := (yX3_mostOf, cX3_mostOf, 6, (some .int))
abbrev mdX3_leastIn : ZMD := (yX3_leastIn, cX3_leastIn, 3, (some .int))
abbrev mdX3_choose : ZMD := (yX3_choose, cX3_choose, 5, none)
abbrev mdX3_leastPartner : ZMD := (yX3_leastPartner, cX3_leastPartner, 5, (some .int))
abbrev mdX3_partnerOf : ZMD := (yX3_partnerOf, cX3_partnerOf, 2, (some .int))
abbrev mdX4_init : ZMD := (yX4_init, cX4_init, 1, none)
abbrev mdX4_seatAll : ZMD := (yX4_seatAll, cX4_seatAll, 3, (some .int))
abbrev mdX4_seatFrom : ZMD := (yX4_seatFrom, cX4_seatFrom, 5, (some .boolean))
abbrev mdX4_roomOf : ZMD := (yX4_roomOf, cX4_roomOf, 3, (some .int))
abbrev mdX5_init : ZMD := (yX5_init, cX5_init, 1, none)
abbrev mdX5_read : ZMD := (yX5_read, cX5_read, 3, none)
abbrev mdX5_spread : ZMD := (yX5_spread, cX5_spread, 4, (some .int))
abbrev mdX5_steps : ZMD := (yX5_steps, cX5_steps, 5, (some .int))
abbrev mdX5_reachOf : ZMD := (yX5_reachOf, cX5_reachOf, 4, (some .int))
abbrev mdX5_howManyGroups : ZMD := (yX5_howManyGroups, cX5_howManyGroups, 4, (some .int))
abbrev mdX5_mostInGroup : ZMD := (yX5_mostInGroup, cX5_mostInGroup, 3, (some .int))
abbrev mdX5_threes : ZMD := (yX5_threes, cX5_threes, 4, (some .int))
abbrev mdX5_greatestClan : ZMD := (yX5_greatestClan, cX5_greatestClan, 4, (some .int))
abbrev mdX5_isClan : ZMD := (yX5_isClan, cX5_isClan, 3, (some .boolean))
abbrev mdX6_init : ZMD := (yX6_init, cX6_init, 1, none)
abbrev mdX6_letter : ZMD := (yX6_letter, cX6_letter, 3, (some .int))
abbrev mdX6_county : ZMD := (yX6_county, cX6_county, 3, (some .int))
abbrev mdX6_person : ZMD := (yX6_person, cX6_person, 4, (some .int))
abbrev mdX6_tie : ZMD := (yX6_tie, cX6_tie, 5, (some .int))
abbrev mdX6_signs : ZMD := (yX6_signs, cX6_signs, 4, (some .int))
abbrev mdX6_feuds : ZMD := (yX6_feuds, cX6_feuds, 4, (some .int))
abbrev mdX6_gets : ZMD := (yX6_gets, cX6_gets, 5, (some .int))
abbrev mdX6_turn : ZMD := (yX6_turn, cX6_turn, 6, (some .int))
abbrev mdX6_years : ZMD := (yX6_years, cX6_years, 3, (some .int))
abbrev mdX6_hasThen : ZMD := (yX6_hasThen, cX6_hasThen, 5, (some .int))
abbrev mdX6_areKin : ZMD := (yX6_areKin, cX6_areKin, 5, (some .int))
abbrev mdX6_allMoney : ZMD := (yX6_allMoney, cX6_allMoney, 3, (some .int))
abbrev mdX6_ruined : ZMD := (yX6_ruined, cX6_ruined, 4, (some .int))
abbrev mdX6_first : ZMD := (yX6_first, cX6_first, 3, (some .int))
abbrev mdX6_richest : ZMD := (yX6_richest, cX6_richest, 6, (some .int))
abbrev mdX6_kin : ZMD := (yX6_kin, cX6_kin, 4, (some .int))
abbrev mdX6_removed : ZMD := (yX6_removed, cX6_removed, 4, (some .int))
abbrev mdX6_farthest : ZMD := (yX6_farthest, cX6_farthest, 8, (some .int))
abbrev mdX6_groups : ZMD := (yX6_groups, cX6_groups, 3, (some .int))
abbrev mdX6_clan : ZMD := (yX6_clan, cX6_clan, 4, (some .int))
abbrev mdX6_bestSign : ZMD := (yX6_bestSign, cX6_bestSign, 3, (some .int))
abbrev mdX6_bestCut : ZMD := (yX6_bestCut, cX6_bestCut, 3, (some .int))
abbrev mdX6_feudCosts : ZMD := (yX6_feudCosts, cX6_feudCosts, 5, (some .int))
abbrev mdX6_peace : ZMD := (yX6_peace, cX6_peace, 3, (some .int))
abbrev mdX6_will : ZMD := (yX6_will, cX6_will, 7, (some .int))
abbrev mdX6_rooms : ZMD := (yX6_rooms, cX6_rooms, 4, (some .int))
abbrev mdX6_couples : ZMD := (yX6_couples, cX6_couples, 5, (some .int))
abbrev mdX6_buys : ZMD := (yX6_buys, cX6_buys, 3, (some .int))
abbrev mdX6_matters : ZMD := (yX6_matters, cX6_matters, 8, (some .int))
abbrev mdX6_deaths : ZMD := (yX6_deaths, cX6_deaths, 10, (some .long))
abbrev mdX6_mean : ZMD := (yX6_mean, cX6_mean, 3, (some .long))
abbrev mdX6_two : ZMD := (yX6_two, cX6_two, 6, (some .int))
abbrev mdX6_whatIs : ZMD := (yX6_whatIs, cX6_whatIs, 7, (some .int))
abbrev mdX6_row : ZMD := (yX6_row, cX6_row, 3, (some .int))
abbrev mdX6_judge : ZMD := (yX6_judge, cX6_judge, 3, (some .int))
abbrev mdX6_clear : ZMD := (yX6_clear, cX6_clear, 2, (some .int))
abbrev mdX6_lots : ZMD := (yX6_lots, cX6_lots, 8, (some .int))
abbrev mdX6_image : ZMD := (yX6_image, cX6_image, 1, (some .int))
abbrev mdX6_on : ZMD := (yX6_on, cX6_on, 1, (some .int))
abbrev mdX6_count : ZMD := (yX6_count, cX6_count, 2, (some .int))
abbrev mdX6_refuse : ZMD := (yX6_refuse, cX6_refuse, 2, (some .int))
abbrev mdX6_firstOf : ZMD := (yX6_firstOf, cX6_firstOf, 3, (some .int))
abbrev mdX6_outside : ZMD := (yX6_outside, cX6_outside, 3, (some .int))
abbrev mdX6_otherThan : ZMD := (yX6_otherThan, cX6_otherThan, 2, (some .int))
abbrev mdX6_nobody : ZMD := (yX6_nobody, cX6_nobody, 2, (some .int))
abbrev mdX6_notTwo : ZMD := (yX6_notTwo, cX6_notTwo, 3, (some .int))
abbrev mdX6_notOdds : ZMD := (yX6_notOdds, cX6_notOdds, 3, (some .int))
abbrev mdX6_bit : ZMD := (yX6_bit, cX6_bit, 1, (some .int))
abbrev mdX6_isIn : ZMD := (yX6_isIn, cX6_isIn, 2, (some .boolean))
abbrev mdX6_thinkAhead : ZMD := (yX6_thinkAhead, cX6_thinkAhead, 2, none)
abbrev mdX6_steadyAfter : ZMD := (yX6_steadyAfter, cX6_steadyAfter, 2, (some .int))
abbrev mdX6_firstRuin : ZMD := (yX6_firstRuin, cX6_firstRuin, 4, (some .int))
abbrev mdX6_bestChange : ZMD := (yX6_bestChange, cX6_bestChange, 8, (some .int))
abbrev mdX6_mayChange : ZMD := (yX6_mayChange, cX6_mayChange, 4, (some .boolean))
abbrev mdX6_makeChange : ZMD := (yX6_makeChange, cX6_makeChange, 4, none)
abbrev mdX6_wealthWithFeud : ZMD := (yX6_wealthWithFeud, cX6_wealthWithFeud, 5, (some .int))
abbrev mdX6_goesAsTold : ZMD := (yX6_goesAsTold, cX6_goesAsTold, 3, (some .boolean))
abbrev mdX6_drawSignings : ZMD := (yX6_drawSignings, cX6_drawSignings, 6, (some .int))
abbrev mdX6_partOf : ZMD := (yX6_partOf, cX6_partOf, 7, (some .long))
abbrev mdX6_commonDivisor : ZMD := (yX6_commonDivisor, cX6_commonDivisor, 11, (some .long))
abbrev mdX7_init : ZMD := (yX7_init, cX7_init, 1, none)
abbrev mdX7_no : ZMD := (yX7_no, cX7_no, 2, (some .int))
abbrev mdX7_lower : ZMD := (yX7_lower, cX7_lower, 2, (some .int))
abbrev mdX7_lowestOf : ZMD := (yX7_lowestOf, cX7_lowestOf, 2, (some .long))
abbrev mdX7_isIn : ZMD := (yX7_isIn, cX7_isIn, 3, (some .boolean))
abbrev mdX7_bound : ZMD := (yX7_bound, cX7_bound, 3, (some .int))
abbrev mdX7_has : ZMD := (yX7_has, cX7_has, 2, (some .boolean))
abbrev mdX7_bits : ZMD := (yX7_bits, cX7_bits, 3, (some .int))
abbrev mdX7_isOne : ZMD := (yX7_isOne, cX7_isOne, 2, (some .boolean))
abbrev mdX7_areTwo : ZMD := (yX7_areTwo, cX7_areTwo, 3, (some .boolean))
abbrev mdX7_isKin : ZMD := (yX7_isKin, cX7_isKin, 3, (some .boolean))
abbrev mdX7_kinOf : ZMD := (yX7_kinOf, cX7_kinOf, 4, (some .int))
abbrev mdX7_letter : ZMD := (yX7_letter, cX7_letter, 3, (some .int))
abbrev mdX7_next : ZMD := (yX7_next, cX7_next, 1, (some .int))
abbrev mdX7_readsDigits : ZMD := (yX7_readsDigits, cX7_readsDigits, 5, (some .boolean))
abbrev mdX7_kindOf : ZMD := (yX7_kindOf, cX7_kindOf, 1, (some .int))
abbrev mdX7_readsOne : ZMD := (yX7_readsOne, cX7_readsOne, 2, (some .boolean))
abbrev mdX7_readsAll : ZMD := (yX7_readsAll, cX7_readsAll, 3, (some .boolean))
abbrev mdX7_statement : ZMD := (yX7_statement, cX7_statement, 2, (some .boolean))
abbrev mdX7_comesTie : ZMD := (yX7_comesTie, cX7_comesTie, 4, (some .boolean))
abbrev mdX7_comesYears : ZMD := (yX7_comesYears, cX7_comesYears, 2, (some .boolean))
abbrev mdX7_comes : ZMD := (yX7_comes, cX7_comes, 3, (some .boolean))
abbrev mdX7_county : ZMD := (yX7_county, cX7_county, 3, (some .int))
abbrev mdX7_passes : ZMD := (yX7_passes, cX7_passes, 3, none)
abbrev mdX7_passOne : ZMD := (yX7_passOne, cX7_passOne, 3, (some .int))
abbrev mdX7_passesAll : ZMD := (yX7_passesAll, cX7_passesAll, 3, none)
abbrev mdX7_thinks : ZMD := (yX7_thinks, cX7_thinks, 1, none)
abbrev mdX7_forgets : ZMD := (yX7_forgets, cX7_forgets, 1, none)
abbrev mdX7_changes : ZMD := (yX7_changes, cX7_changes, 1, none)
abbrev mdX7_changesBack : ZMD := (yX7_changesBack, cX7_changesBack, 1, none)
abbrev mdX7_image : ZMD := (yX7_image, cX7_image, 1, (some .int))
abbrev mdX7_on : ZMD := (yX7_on, cX7_on, 1, (some .int))
abbrev mdX7_adds : ZMD := (yX7_adds, cX7_adds, 4, none)
abbrev mdX7_turnsFeud : ZMD := (yX7_turnsFeud, cX7_turnsFeud, 3, none)
abbrev mdX7_paysOf : ZMD := (yX7_paysOf, cX7_paysOf, 5, (some .int))
abbrev mdX7_pays : ZMD := (yX7_pays, cX7_pays, 4, none)
abbrev mdX7_goesYear : ZMD := (yX7_goesYear, cX7_goesYear, 3, none)
abbrev mdX7_goes : ZMD := (yX7_goes, cX7_goes, 3, none)
abbrev mdX7_wealth : ZMD := (yX7_wealth, cX7_wealth, 3, (some .int))
abbrev mdX7_twosOfKin : ZMD := (yX7_twosOfKin, cX7_twosOfKin, 3, (some .int))
abbrev mdX7_person : ZMD := (yX7_person, cX7_person, 3, (some .int))
abbrev mdX7_tie : ZMD := (yX7_tie, cX7_tie, 4, (some .int))
abbrev mdX7_signs : ZMD := (yX7_signs, cX7_signs, 3, (some .int))
abbrev mdX7_feuds : ZMD := (yX7_feuds, cX7_feuds, 3, (some .int))
abbrev mdX7_gets : ZMD := (yX7_gets, cX7_gets, 5, (some .int))
abbrev mdX7_turn : ZMD := (yX7_turn, cX7_turn, 6, (some .int))
abbrev mdX7_years : ZMD := (yX7_years, cX7_years, 3, (some .int))
abbrev mdX7_notYears : ZMD := (yX7_notYears, cX7_notYears, 1, (some .int))
abbrev mdX7_moneyIn : ZMD := (yX7_moneyIn, cX7_moneyIn, 4, (some .int))
abbrev mdX7_wealthIn : ZMD := (yX7_wealthIn, cX7_wealthIn, 3, (some .int))
abbrev mdX7_hasThen : ZMD := (yX7_hasThen, cX7_hasThen, 6, (some .int))
abbrev mdX7_areKin : ZMD := (yX7_areKin, cX7_areKin, 6, (some .int))
abbrev mdX7_allMoney : ZMD := (yX7_allMoney, cX7_allMoney, 3, (some .int))
abbrev mdX7_ruinOf : ZMD := (yX7_ruinOf, cX7_ruinOf, 4, (some .int))
abbrev mdX7_ruined : ZMD := (yX7_ruined, cX7_ruined, 2, (some .int))
abbrev mdX7_isSteady : ZMD := (yX7_isSteady, cX7_isSteady, 2, (some .boolean))
abbrev mdX7_steadyAt : ZMD := (yX7_steadyAt, cX7_steadyAt, 3, (some .int))
abbrev mdX7_first : ZMD := (yX7_first, cX7_first, 6, (some .int))
abbrev mdX7_richest : ZMD := (yX7_richest, cX7_richest, 5, (some .int))
abbrev mdX7_findSteps : ZMD := (yX7_findSteps, cX7_findSteps, 5, none)
abbrev mdX7_reached : ZMD := (yX7_reached, cX7_reached, 4, (some .int))
abbrev mdX7_kin : ZMD := (yX7_kin, cX7_kin, 4, (some .int))
abbrev mdX7_removed : ZMD := (yX7_removed, cX7_removed, 3, (some .int))
abbrev mdX7_farthest : ZMD := (yX7_farthest, cX7_farthest, 6, (some .int))
abbrev mdX7_threes : ZMD := (yX7_threes, cX7_threes, 5, (some .int))
abbrev mdX7_groups : ZMD := (yX7_groups, cX7_groups, 6, (some .int))
abbrev mdX7_areAllKin : ZMD := (yX7_areAllKin, cX7_areAllKin, 3, (some .boolean))
abbrev mdX7_clan : ZMD := (yX7_clan, cX7_clan, 4, (some .int))
abbrev mdX7_notShort : ZMD := (yX7_notShort, cX7_notShort, 1, (some .int))
abbrev mdX7_moneySigning : ZMD := (yX7_moneySigning, cX7_moneySigning, 6, (some .int))
abbrev mdX7_bestTurn : ZMD := (yX7_bestTurn, cX7_bestTurn, 9, (some .int))
abbrev mdX7_bestSign : ZMD := (yX7_bestSign, cX7_bestSign, 4, (some .int))
abbrev mdX7_bestCut : ZMD := (yX7_bestCut, cX7_bestCut, 4, (some .int))
abbrev mdX7_feudCosts : ZMD := (yX7_feudCosts, cX7_feudCosts, 7, (some .int))
abbrev mdX7_peace : ZMD := (yX7_peace, cX7_peace, 4, (some .int))
abbrev mdX7_will : ZMD := (yX7_will, cX7_will, 5, (some .int))
abbrev mdX7_leastRoom : ZMD := (yX7_leastRoom, cX7_leastRoom, 5, (some .int))
abbrev mdX7_findRooms : ZMD := (yX7_findRooms, cX7_findRooms, 5, (some .boolean))
abbrev mdX7_rooms : ZMD := (yX7_rooms, cX7_rooms, 3, (some .int))
abbrev mdX7_isCouple : ZMD := (yX7_isCouple, cX7_isCouple, 5, (some .boolean))
abbrev mdX7_lowest : ZMD := (yX7_lowest, cX7_lowest, 2, (some .int))
abbrev mdX7_findCouples : ZMD := (yX7_findCouples, cX7_findCouples, 8, none)
abbrev mdX7_partnerIn : ZMD := (yX7_partnerIn, cX7_partnerIn, 6, (some .int))
abbrev mdX7_partnerOf : ZMD := (yX7_partnerOf, cX7_partnerOf, 6, (some .int))
abbrev mdX7_couples : ZMD := (yX7_couples, cX7_couples, 4, (some .int))
abbrev mdX7_turned : ZMD := (yX7_turned, cX7_turned, 4, (some .int))
abbrev mdX7_exchanges : ZMD := (yX7_exchanges, cX7_exchanges, 6, none)
abbrev mdX7_moneyChanged : ZMD := (yX7_moneyChanged, cX7_moneyChanged, 5, (some .int))
abbrev mdX7_buys : ZMD := (yX7_buys, cX7_buys, 8, (some .int))
abbrev mdX7_matters : ZMD := (yX7_matters, cX7_matters, 6, (some .int))
abbrev mdX7_divisor : ZMD := (yX7_divisor, cX7_divisor, 10, (some .long))
abbrev mdX7_partOf : ZMD := (yX7_partOf, cX7_partOf, 5, (some .long))
abbrev mdX7_deaths : ZMD := (yX7_deaths, cX7_deaths, 16, (some .long))
abbrev mdX7_mean : ZMD := (yX7_mean, cX7_mean, 2, (some .long))
abbrev mdX7_with : ZMD := (yX7_with, cX7_with, 3, (some .int))
abbrev mdX7_findTwo : ZMD := (yX7_findTwo, cX7_findTwo, 5, none)
abbrev mdX7_two : ZMD := (yX7_two, cX7_two, 6, (some .int))
abbrev mdX7_isSo : ZMD := (yX7_isSo, cX7_isSo, 4, (some .boolean))
abbrev mdX7_bitsFor : ZMD := (yX7_bitsFor, cX7_bitsFor, 7, (some .int))
abbrev mdX7_whatIs : ZMD := (yX7_whatIs, cX7_whatIs, 4, (some .int))
abbrev mdX7_row : ZMD := (yX7_row, cX7_row, 3, (some .int))
abbrev mdX7_judge : ZMD := (yX7_judge, cX7_judge, 3, (some .int))
abbrev mdX7_clear : ZMD := (yX7_clear, cX7_clear, 2, (some .int))
abbrev mdX7_draw : ZMD := (yX7_draw, cX7_draw, 2, (some .int))
abbrev mdX7_lots : ZMD := (yX7_lots, cX7_lots, 10, (some .int))
abbrev mdX7_count : ZMD := (yX7_count, cX7_count, 4, (some .int))
abbrev mdJ11_isValidCodePoint_9a6ad : ZMD := (yJ11_isValidCodePoint_9a6ad, cJ11_isValidCodePoint_9a6ad, 2, (some .boolean))
abbrev mdJ11_highSurrogate_5068e : ZMD := (yJ11_highSurrogate_5068e, cJ11_highSurrogate_5068e, 1, (some .char))
abbrev mdJ11_lowSurrogate_5068e : ZMD := (yJ11_lowSurrogate_5068e, cJ11_lowSurrogate_5068e, 1, (some .char))
abbrev mdJ6_bitCount_0f7a4 : ZMD := (yJ6_bitCount_0f7a4, cJ6_bitCount_0f7a4, 1, (some .int))
abbrev mdJ9_abs_0f7a4 : ZMD := (yJ9_abs_0f7a4, cJ9_abs_0f7a4, 1, (some .int))
abbrev mdJ9_max_7cf53 : ZMD := (yJ9_max_7cf53, cJ9_max_7cf53, 2, (some .int))
abbrev mdJ9_min_7cf53 : ZMD := (yJ9_min_7cf53, cJ9_min_7cf53, 2, (some .int))
abbrev mdJ0_length_8abf5 : ZMD := (yJ0_length_8abf5, cJ0_length_8abf5, 1, (some .int))
abbrev mdJ0_indexOf_0f7a4 : ZMD := (yJ0_indexOf_0f7a4, cJ0_indexOf_0f7a4, 2, (some .int))
abbrev mdJ0_indexOf_7cf53 : ZMD := (yJ0_indexOf_7cf53, cJ0_indexOf_7cf53, 3, (some .int))
abbrev mdJ0_coder_7d493 : ZMD := (yJ0_coder_7d493, cJ0_coder_7d493, 1, (some .byte))
abbrev mdJ0_isLatin1_aae02 : ZMD := (yJ0_isLatin1_aae02, cJ0_isLatin1_aae02, 1, (some .boolean))
abbrev mdJ0_checkBoundsBeginEnd_23922 : ZMD := (yJ0_checkBoundsBeginEnd_23922, cJ0_checkBoundsBeginEnd_23922, 3, none)
abbrev mdJ1_canEncode_9a6ad : ZMD := (yJ1_canEncode_9a6ad, cJ1_canEncode_9a6ad, 1, (some .boolean))
abbrev mdJ1_indexOf_4cfef : ZMD := (yJ1_indexOf_4cfef, cJ1_indexOf_4cfef, 4, (some .int))
abbrev mdJ1_indexOfChar_4cfef : ZMD := (yJ1_indexOfChar_4cfef, cJ1_indexOfChar_4cfef, 6, (some .int))
abbrev mdJ2_getChar_3b067 : ZMD := (yJ2_getChar_3b067, cJ2_getChar_3b067, 2, (some .char))
abbrev mdJ2_length_9d52b : ZMD := (yJ2_length_9d52b, cJ2_length_9d52b, 1, (some .int))
abbrev mdJ2_indexOf_4cfef : ZMD := (yJ2_indexOf_4cfef, cJ2_indexOf_4cfef, 4, (some .int))
abbrev mdJ2_indexOfChar_4cfef : ZMD := (yJ2_indexOfChar_4cfef, cJ2_indexOfChar_4cfef, 4, (some .int))
abbrev mdJ2_indexOfCharUnsafe_4cfef : ZMD := (yJ2_indexOfCharUnsafe_4cfef, cJ2_indexOfCharUnsafe_4cfef, 5, (some .int))
abbrev mdJ2_indexOfSupplementary_4cfef : ZMD := (yJ2_indexOfSupplementary_4cfef, cJ2_indexOfSupplementary_4cfef, 7, (some .int))
abbrev mdJ2_checkBoundsBeginEnd_d044e : ZMD := (yJ2_checkBoundsBeginEnd_d044e, cJ2_checkBoundsBeginEnd_d044e, 3, none)
abbrev mdJ7_fill_53178 : ZMD := (yJ7_fill_53178, cJ7_fill_53178, 4, none)
abbrev mdJ3_checkFromToIndex_8c36e : ZMD := (yJ3_checkFromToIndex_8c36e, cJ3_checkFromToIndex_8c36e, 4, (some .int))
set_option maxRecDepth 100000 in
theorem niRL : Cond.initialized RL ∈ zgt := zgt_in (zt1 (List.mem_of_getElem? (i := 0) rfl)) rfl
set_option maxRecDepth 100000 in
theorem niRX6 : Cond.initialized RX6 ∈ zgt := zgt_in (zt1 (List.mem_of_getElem? (i := 1) rfl)) rfl
set_option maxRecDepth 100000 in
theorem niRX0 : Cond.initialized RX0 ∈ zgt := zgt_in (zt1 (List.mem_of_getElem? (i := 2) rfl)) rfl
set_option maxRecDepth 100000 in
theorem niRX1 : Cond.initialized RX1 ∈ zgt := zgt_in (zt1 (List.mem_of_getElem? (i := 3) rfl)) rfl
set_option maxRecDepth 100000 in
theorem niRX5 : Cond.initialized RX5 ∈ zgt := zgt_in (zt1 (List.mem_of_getElem? (i := 4) rfl)) rfl
set_option maxRecDepth 100000 in
theorem niRX4 : Cond.initialized RX4 ∈ zgt := zgt_in (zt1 (List.mem_of_getElem? (i := 5) rfl)) rfl
set_option maxRecDepth 100000 in
theorem niRX3 : Cond.initialized RX3 ∈ zgt := zgt_in (zt1 (List.mem_of_getElem? (i := 6) rfl)) rfl
set_option maxRecDepth 100000 in
theorem niRX2 : Cond.initialized RX2 ∈ zgt := zgt_in (zt1 (List.mem_of_getElem? (i := 7) rfl)) rfl
set_option maxRecDepth 100000 in
theorem niRX7 : Cond.initialized RX7 ∈ zgt := zgt_in (zt1 (List.mem_of_getElem? (i := 8) rfl)) rfl
set_option maxRecDepth 100000 in
theorem niRJ0 : Cond.initialized RJ0 ∈ zgt := zgt_in (zt1 (List.mem_of_getElem? (i := 9) rfl)) rfl
set_option maxRecDepth 100000 in
theorem niRJ1 : Cond.initialized RJ1 ∈ zgt := zgt_in (zt1 (List.mem_of_getElem? (i := 10) rfl)) rfl
set_option maxRecDepth 100000 in
theorem niRJ9 : Cond.initialized RJ9 ∈ zgt := zgt_in (zt1 (List.mem_of_getElem? (i := 11) rfl)) rfl
set_option maxRecDepth 100000 in
theorem niRJ2 : Cond.initialized RJ2 ∈ zgt := zgt_in (zt1 (List.mem_of_getElem? (i := 12) rfl)) rfl
set_option maxRecDepth 100000 in
theorem niRJ3 : Cond.initialized RJ3 ∈ zgt := zgt_in (zt1 (List.mem_of_getElem? (i := 13) rfl)) rfl
set_option maxRecDepth 100000 in
theorem niRJ11 : Cond.initialized RJ11 ∈ zgt := zgt_in (zt1 (List.mem_of_getElem? (i := 14) rfl)) rfl
set_option maxRecDepth 100000 in
theorem niRJ10 : Cond.initialized RJ10 ∈ zgt := zgt_in (zt1 (List.mem_of_getElem? (i := 15) rfl)) rfl
set_option maxRecDepth 100000 in
theorem niRJ6 : Cond.initialized RJ6 ∈ zgt := zgt_in (zt1 (List.mem_of_getElem? (i := 16) rfl)) rfl
set_option maxRecDepth 100000 in
theorem niRJ7 : Cond.initialized RJ7 ∈ zgt := zgt_in (zt1 (List.mem_of_getElem? (i := 17) rfl)) rfl
set_option maxRecDepth 100000 in
theorem kcX0_init : Cond.code yX0_init cX0_init 1 none ∈ zgt := zgt_in (zt1 (List.mem_of_getElem? (i := 30) rfl)) rfl
set_option maxRecDepth 100000 in
theorem knX0_init : Cond.instanceMethod yX0_init ∈ zgt := zgt_in (zt1 (List.mem_of_getElem? (i := 29) rfl)) rfl
set_option maxRecDepth 100000 in
theorem kcX0_become : Cond.code yX0_become cX0_become 2 none ∈ zgt := zgt_in (zt2 (List.mem_of_getElem? (i := 103) rfl)) rfl
set_option maxRecDepth 100000 in
theorem knX0_become : Cond.instanceMethod yX0_become ∈ zgt := zgt_in (zt2 (List.mem_of_getElem? (i := 101) rfl)) rfl
set_option maxRecDepth 100000 in
theorem ksX0_become : Cond.selects RX0 yX0_become yX0_become ∈ zgt := zgt_in (zt2 (List.mem_of_getElem? (i := 102) rfl)) rfl
set_option maxRecDepth 100000 in
theorem kcX0_isAs : Cond.code yX0_isAs cX0_isAs 3 (some .boolean) ∈ zgt := zgt_in (zt3 (List.mem_of_getElem? (i := 61) rfl)) rfl
set_option maxRecDepth 100000 in
theorem knX0_isAs : Cond.instanceMethod yX0_isAs ∈ zgt := zgt_in (zt3 (List.mem_of_getElem? (i := 59) rfl)) rfl
set_option maxRecDepth 100000 in
theorem ksX0_isAs : Cond.selects RX0 yX0_isAs yX0_isAs ∈ zgt := zgt_in (zt3 (List.mem_of_getElem? (i := 60) rfl)) rfl
set_option maxRecDepth 100000 in
theorem kcX0_has : Cond.code yX0_has cX0_has 2 (some .boolean) ∈ zgt := zgt_in (zt2 (List.mem_of_getElem? (i := 142) rfl)) rfl
set_option maxRecDepth 100000 in
theorem knX0_has : Cond.instanceMethod yX0_has ∈ zgt := zgt_in (zt2 (List.mem_of_getElem? (i := 140) rfl)) rfl
set_option maxRecDepth 100000 in
theorem ksX0_has : Cond.selects RX0 yX0_has yX0_has ∈ zgt := zgt_in (zt2 (List.mem_of_getElem? (i := 141) rfl)) rfl
set_option maxRecDepth 100000 in
theorem kcX0_hasTwo : Cond.code yX0_hasTwo cX0_hasTwo 3 (some .boolean) ∈ zgt := zgt_in (zt2 (List.mem_of_getElem? (i := 138) rfl)) rfl
set_option maxRecDepth 100000 in
theorem knX0_hasTwo : Cond.instanceMethod yX0_hasTwo ∈ zgt := zgt_in (zt2 (List.mem_of_getElem? (i := 136) rfl)) rfl
set_option maxRecDepth 100000 in
theorem ksX0_hasTwo : Cond.selects RX0 yX0_hasTwo yX0_hasTwo ∈ zgt := zgt_in (zt2 (List.mem_of_getElem? (i := 137) rfl)) rfl
set_option maxRecDepth 100000 in
theorem kcX0_welcome : Cond.code yX0_welcome cX0_welcome 4 (some .boolean) ∈ zgt := zgt_in (zt2 (List.mem_of_getElem? (i := 126) rfl)) rfl
set_option maxRecDepth 100000 in
theorem knX0_welcome : Cond.instanceMethod yX0_welcome ∈ zgt := zgt_in (zt2 (List.mem_of_getElem? (i := 124) rfl)) rfl
set_option maxRecDepth 100000 in
theorem ksX0_welcome : Cond.selects RX0 yX0_welcome yX0_welcome ∈ zgt := zgt_in (zt2 (List.mem_of_getElem? (i := 125) rfl)) rfl
set_option maxRecDepth 100000 in
theorem kcX0_enrich : Cond.code yX0_enrich cX0_enrich 3 (some .boolean) ∈ zgt := zgt_in (zt2 (List.mem_of_getElem? (i := 172) rfl)) rfl
set_option maxRecDepth 100000 in
theorem knX0_enrich : Cond.instanceMethod yX0_enrich ∈ zgt := zgt_in (zt2 (List.mem_of_getElem? (i := 170) rfl)) rfl
set_option maxRecDepth 100000 in
theorem ksX0_enrich : Cond.selects RX0 yX0_enrich yX0_enrich ∈ zgt := zgt_in (zt2 (List.mem_of_getElem? (i := 171) rfl)) rfl
set_option maxRecDepth 100000 in
theorem kcX0_hasSigned : Cond.code yX0_hasSigned cX0_hasSigned 3 (some .boolean) ∈ zgt := zgt_in (zt2 (List.mem_of_getElem? (i := 134) rfl)) rfl
set_option maxRecDepth 100000 in
theorem knX0_hasSigned : Cond.instanceMethod yX0_hasSigned ∈ zgt := zgt_in (zt2 (List.mem_of_getElem? (i := 132) rfl)) rfl
set_option maxRecDepth 100000 in
theorem ksX0_hasSigned : Cond.selects RX0 yX0_hasSigned yX0_hasSigned ∈ zgt := zgt_in (zt2 (List.mem_of_getElem? (i := 133) rfl)) rfl
set_option maxRecDepth 100000 in
theorem kcX0_atFeud : Cond.code yX0_atFeud cX0_atFeud 3 (some .boolean) ∈ zgt := zgt_in (zt2 (List.mem_of_getElem? (i := 164) rfl)) rfl
set_option maxRecDepth 100000 in
theorem knX0_atFeud : Cond.instanceMethod yX0_atFeud ∈ zgt := zgt_in (zt2 (List.mem_of_getElem? (i := 162) rfl)) rfl
set_option maxRecDepth 100000 in
theorem ksX0_atFeud : Cond.selects RX0 yX0_atFeud yX0_atFeud ∈ zgt := zgt_in (zt2 (List.mem_of_getElem? (i := 163) rfl)) rfl
set_option maxRecDepth 100000 in
theorem kcX0_isKin : Cond.code yX0_isKin cX0_isKin 3 (some .boolean) ∈ zgt := zgt_in (zt2 (List.mem_of_getElem? (i := 239) rfl)) rfl
set_option maxRecDepth 100000 in
theorem knX0_isKin : Cond.instanceMethod yX0_isKin ∈ zgt := zgt_in (zt2 (List.mem_of_getElem? (i := 237) rfl)) rfl
set_option maxRecDepth 100000 in
theorem ksX0_isKin : Cond.selects RX0 yX0_isKin yX0_isKin ∈ zgt := zgt_in (zt2 (List.mem_of_getElem? (i := 238) rfl)) rfl
set_option maxRecDepth 100000 in
theorem kcX0_kinOf : Cond.code yX0_kinOf cX0_kinOf 4 (some .int) ∈ zgt := zgt_in (zt2 (List.mem_of_getElem? (i := 188) rfl)) rfl
set_option maxRecDepth 100000 in
theorem knX0_kinOf : Cond.instanceMethod yX0_kinOf ∈ zgt := zgt_in (zt2 (List.mem_of_getElem? (i := 186) rfl)) rfl
set_option maxRecDepth 100000 in
theorem ksX0_kinOf : Cond.selects RX0 yX0_kinOf yX0_kinOf ∈ zgt := zgt_in (zt2 (List.mem_of_getElem? (i := 187) rfl)) rfl
set_option maxRecDepth 100000 in
theorem kcX0_turnSigning : Cond.code yX0_turnSigning cX0_turnSigning 3 (some .boolean) ∈ zgt := zgt_in (zt2 (List.mem_of_getElem? (i := 130) rfl)) rfl
set_option maxRecDepth 100000 in
theorem knX0_turnSigning : Cond.instanceMethod yX0_turnSigning ∈ zgt := zgt_in (zt2 (List.mem_of_getElem? (i := 128) rfl)) rfl
set_option maxRecDepth 100000 in
theorem ksX0_turnSigning : Cond.selects RX0 yX0_turnSigning yX0_turnSigning ∈ zgt := zgt_in (zt2 (List.mem_of_getElem? (i := 129) rfl)) rfl
set_option maxRecDepth 100000 in
theorem kcX0_setSigning : Cond.code yX0_setSigning cX0_setSigning 4 (some .boolean) ∈ zgt := zgt_in (zt2 (List.mem_of_getElem? (i := 149) rfl)) rfl
set_option maxRecDepth 100000 in
theorem knX0_setSigning : Cond.instanceMethod yX0_setSigning ∈ zgt := zgt_in (zt2 (List.mem_of_getElem? (i := 147) rfl)) rfl
set_option maxRecDepth 100000 in
theorem ksX0_setSigning : Cond.selects RX0 yX0_setSigning yX0_setSigning ∈ zgt := zgt_in (zt2 (List.mem_of_getElem? (i := 148) rfl)) rfl
set_option maxRecDepth 100000 in
theorem kcX0_signBoth : Cond.code yX0_signBoth cX0_signBoth 3 (some .boolean) ∈ zgt := zgt_in (zt2 (List.mem_of_getElem? (i := 156) rfl)) rfl
set_option maxRecDepth 100000 in
theorem knX0_signBoth : Cond.instanceMethod yX0_signBoth ∈ zgt := zgt_in (zt2 (List.mem_of_getElem? (i := 154) rfl)) rfl
set_option maxRecDepth 100000 in
theorem ksX0_signBoth : Cond.selects RX0 yX0_signBoth yX0_signBoth ∈ zgt := zgt_in (zt2 (List.mem_of_getElem? (i := 155) rfl)) rfl
set_option maxRecDepth 100000 in
theorem kcX0_turnFeud : Cond.code yX0_turnFeud cX0_turnFeud 3 (some .boolean) ∈ zgt := zgt_in (zt2 (List.mem_of_getElem? (i := 160) rfl)) rfl
set_option maxRecDepth 100000 in
theorem knX0_turnFeud : Cond.instanceMethod yX0_turnFeud ∈ zgt := zgt_in (zt2 (List.mem_of_getElem? (i := 158) rfl)) rfl
set_option maxRecDepth 100000 in
theorem ksX0_turnFeud : Cond.selects RX0 yX0_turnFeud yX0_turnFeud ∈ zgt := zgt_in (zt2 (List.mem_of_getElem? (i := 159) rfl)) rfl
set_option maxRecDepth 100000 in
theorem kcX0_setFeud : Cond.code yX0_setFeud cX0_setFeud 4 (some .boolean) ∈ zgt := zgt_in (zt2 (List.mem_of_getElem? (i := 168) rfl)) rfl
set_option maxRecDepth 100000 in
theorem knX0_setFeud : Cond.instanceMethod yX0_setFeud ∈ zgt := zgt_in (zt2 (List.mem_of_getElem? (i := 166) rfl)) rfl
set_option maxRecDepth 100000 in
theorem ksX0_setFeud : Cond.selects RX0 yX0_setFeud yX0_setFeud ∈ zgt := zgt_in (zt2 (List.mem_of_getElem? (i := 167) rfl)) rfl
set_option maxRecDepth 100000 in
theorem kcX0_withBit : Cond.code yX0_withBit cX0_withBit 3 (some .int) ∈ zgt := zgt_in (zt2 (List.mem_of_getElem? (i := 152) rfl)) rfl
set_option maxRecDepth 100000 in
theorem ktX0_withBit : Cond.static yX0_withBit ∈ zgt := zgt_in (zt2 (List.mem_of_getElem? (i := 151) rfl)) rfl
set_option maxRecDepth 100000 in
theorem kcX0_changePlaces : Cond.code yX0_changePlaces cX0_changePlaces 3 none ∈ zgt := zgt_in (zt3 (List.mem_of_getElem? (i := 150) rfl)) rfl
set_option maxRecDepth 100000 in
theorem knX0_changePlaces : Cond.instanceMethod yX0_changePlaces ∈ zgt := zgt_in (zt3 (List.mem_of_getElem? (i := 148) rfl)) rfl
set_option maxRecDepth 100000 in
theorem ksX0_changePlaces : Cond.selects RX0 yX0_changePlaces yX0_changePlaces ∈ zgt := zgt_in (zt3 (List.mem_of_getElem? (i := 149) rfl)) rfl
set_option maxRecDepth 100000 in
theorem kcX0_changeIn : Cond.code yX0_changeIn cX0_changeIn 7 none ∈ zgt := zgt_in (zt3 (List.mem_of_getElem? (i := 154) rfl)) rfl
set_option maxRecDepth 100000 in
theorem knX0_changeIn : Cond.instanceMethod yX0_changeIn ∈ zgt := zgt_in (zt3 (List.mem_of_getElem? (i := 153) rfl)) rfl
set_option maxRecDepth 100000 in
theorem ksX0_changeIn : Cond.selects RX0 yX0_changeIn yX0_changeIn ∈ zgt := zgt_in (zt0 (List.mem_of_getElem? (i := 19) rfl)) rfl
set_option maxRecDepth 100000 in
theorem kcX0_dues : Cond.code yX0_dues cX0_dues 5 (some .int) ∈ zgt := zgt_in (zt2 (List.mem_of_getElem? (i := 196) rfl)) rfl
set_option maxRecDepth 100000 in
theorem knX0_dues : Cond.instanceMethod yX0_dues ∈ zgt := zgt_in (zt2 (List.mem_of_getElem? (i := 194) rfl)) rfl
set_option maxRecDepth 100000 in
theorem ksX0_dues : Cond.selects RX0 yX0_dues yX0_dues ∈ zgt := zgt_in (zt2 (List.mem_of_getElem? (i := 195) rfl)) rfl
set_option maxRecDepth 100000 in
theorem kcX0_mayPass : Cond.code yX0_mayPass cX0_mayPass 2 (some .boolean) ∈ zgt := zgt_in (zt2 (List.mem_of_getElem? (i := 176) rfl)) rfl
set_option maxRecDepth 100000 in
theorem knX0_mayPass : Cond.instanceMethod yX0_mayPass ∈ zgt := zgt_in (zt2 (List.mem_of_getElem? (i := 174) rfl)) rfl
set_option maxRecDepth 100000 in
theorem ksX0_mayPass : Cond.selects RX0 yX0_mayPass yX0_mayPass ∈ zgt := zgt_in (zt2 (List.mem_of_getElem? (i := 175) rfl)) rfl
set_option maxRecDepth 100000 in
theorem kcX0_passYears : Cond.code yX0_passYears cX0_passYears 3 (some .boolean) ∈ zgt := zgt_in (zt2 (List.mem_of_getElem? (i := 180) rfl)) rfl
set_option maxRecDepth 100000 in
theorem knX0_passYears : Cond.instanceMethod yX0_passYears ∈ zgt := zgt_in (zt2 (List.mem_of_getElem? (i := 178) rfl)) rfl
set_option maxRecDepth 100000 in
theorem ksX0_passYears : Cond.selects RX0 yX0_passYears yX0_passYears ∈ zgt := zgt_in (zt2 (List.mem_of_getElem? (i := 179) rfl)) rfl
set_option maxRecDepth 100000 in
theorem kcX0_passYear : Cond.code yX0_passYear cX0_passYear 5 none ∈ zgt := zgt_in (zt2 (List.mem_of_getElem? (i := 184) rfl)) rfl
set_option maxRecDepth 100000 in
theorem knX0_passYear : Cond.instanceMethod yX0_passYear ∈ zgt := zgt_in (zt2 (List.mem_of_getElem? (i := 182) rfl)) rfl
set_option maxRecDepth 100000 in
theorem ksX0_passYear : Cond.selects RX0 yX0_passYear yX0_passYear ∈ zgt := zgt_in (zt2 (List.mem_of_getElem? (i := 183) rfl)) rfl
set_option maxRecDepth 100000 in
theorem kcX0_pay : Cond.code yX0_pay cX0_pay 4 none ∈ zgt := zgt_in (zt2 (List.mem_of_getElem? (i := 192) rfl)) rfl
set_option maxRecDepth 100000 in
theorem knX0_pay : Cond.instanceMethod yX0_pay ∈ zgt := zgt_in (zt2 (List.mem_of_getElem? (i := 191) rfl)) rfl
set_option maxRecDepth 100000 in
theorem ksX0_pay : Cond.selects RX0 yX0_pay yX0_pay ∈ zgt := zgt_in (zt0 (List.mem_of_getElem? (i := 8) rfl)) rfl
set_option maxRecDepth 100000 in
theorem kcX0_wealth : Cond.code yX0_wealth cX0_wealth 3 (some .int) ∈ zgt := zgt_in (zt3 (List.mem_of_getElem? (i := 28) rfl)) rfl
set_option maxRecDepth 100000 in
theorem knX0_wealth : Cond.instanceMethod yX0_wealth ∈ zgt := zgt_in (zt3 (List.mem_of_getElem? (i := 26) rfl)) rfl
set_option maxRecDepth 100000 in
theorem ksX0_wealth : Cond.selects RX0 yX0_wealth yX0_wealth ∈ zgt := zgt_in (zt3 (List.mem_of_getElem? (i := 27) rfl)) rfl
set_option maxRecDepth 100000 in
theorem kcX0_signings : Cond.code yX0_signings cX0_signings 3 (some .int) ∈ zgt := zgt_in (zt4 (List.mem_of_getElem? (i := 95) rfl)) rfl
set_option maxRecDepth 100000 in
theorem knX0_signings : Cond.instanceMethod yX0_signings ∈ zgt := zgt_in (zt4 (List.mem_of_getElem? (i := 93) rfl)) rfl
set_option maxRecDepth 100000 in
theorem ksX0_signings : Cond.selects RX0 yX0_signings yX0_signings ∈ zgt := zgt_in (zt4 (List.mem_of_getElem? (i := 94) rfl)) rfl
set_option maxRecDepth 100000 in
theorem kcX0_feudTwos : Cond.code yX0_feudTwos cX0_feudTwos 3 (some .int) ∈ zgt := zgt_in (zt4 (List.mem_of_getElem? (i := 99) rfl)) rfl
set_option maxRecDepth 100000 in
theorem knX0_feudTwos : Cond.instanceMethod yX0_feudTwos ∈ zgt := zgt_in (zt4 (List.mem_of_getElem? (i := 97) rfl)) rfl
set_option maxRecDepth 100000 in
theorem ksX0_feudTwos : Cond.selects RX0 yX0_feudTwos yX0_feudTwos ∈ zgt := zgt_in (zt4 (List.mem_of_getElem? (i := 98) rfl)) rfl
set_option maxRecDepth 100000 in
theorem kcX0_kinTwos : Cond.code yX0_kinTwos cX0_kinTwos 3 (some .int) ∈ zgt := zgt_in (zt4 (List.mem_of_getElem? (i := 10) rfl)) rfl
set_option maxRecDepth 100000 in
theorem knX0_kinTwos : Cond.instanceMethod yX0_kinTwos ∈ zgt := zgt_in (zt4 (List.mem_of_getElem? (i := 8) rfl)) rfl
set_option maxRecDepth 100000 in
theorem ksX0_kinTwos : Cond.selects RX0 yX0_kinTwos yX0_kinTwos ∈ zgt := zgt_in (zt4 (List.mem_of_getElem? (i := 9) rfl)) rfl
set_option maxRecDepth 100000 in
theorem kcX1_init : Cond.code yX1_init cX1_init 1 none ∈ zgt := zgt_in (zt1 (List.mem_of_getElem? (i := 71) rfl)) rfl
set_option maxRecDepth 100000 in
theorem knX1_init : Cond.instanceMethod yX1_init ∈ zgt := zgt_in (zt1 (List.mem_of_getElem? (i := 70) rfl)) rfl
set_option maxRecDepth 100000 in
theorem kcX1_isFull : Cond.code yX1_isFull cX1_isFull 1 (some .boolean) ∈ zgt := zgt_in (zt1 (List.mem_of_getElem? (i := 213) rfl)) rfl
set_option maxRecDepth 100000 in
theorem knX1_isFull : Cond.instanceMethod yX1_isFull ∈ zgt := zgt_in (zt1 (List.mem_of_getElem? (i := 211) rfl)) rfl
set_option maxRecDepth 100000 in
theorem ksX1_isFull : Cond.selects RX1 yX1_isFull yX1_isFull ∈ zgt := zgt_in (zt1 (List.mem_of_getElem? (i := 212) rfl)) rfl
set_option maxRecDepth 100000 in
theorem kcX1_add : Cond.code yX1_add cX1_add 2 none ∈ zgt := zgt_in (zt1 (List.mem_of_getElem? (i := 224) rfl)) rfl
set_option maxRecDepth 100000 in
theorem knX1_add : Cond.instanceMethod yX1_add ∈ zgt := zgt_in (zt1 (List.mem_of_getElem? (i := 222) rfl)) rfl
set_option maxRecDepth 100000 in
theorem ksX1_add : Cond.selects RX1 yX1_add yX1_add ∈ zgt := zgt_in (zt1 (List.mem_of_getElem? (i := 223) rfl)) rfl
set_option maxRecDepth 100000 in
theorem kcX1_drop : Cond.code yX1_drop cX1_drop 1 none ∈ zgt := zgt_in (zt2 (List.mem_of_getElem? (i := 201) rfl)) rfl
set_option maxRecDepth 100000 in
theorem knX1_drop : Cond.instanceMethod yX1_drop ∈ zgt := zgt_in (zt2 (List.mem_of_getElem? (i := 199) rfl)) rfl
set_option maxRecDepth 100000 in
theorem ksX1_drop : Cond.selects RX1 yX1_drop yX1_drop ∈ zgt := zgt_in (zt2 (List.mem_of_getElem? (i := 200) rfl)) rfl
set_option maxRecDepth 100000 in
theorem kcX1_at : Cond.code yX1_at cX1_at 2 (some .int) ∈ zgt := zgt_in (zt2 (List.mem_of_getElem? (i := 1) rfl)) rfl
set_option maxRecDepth 100000 in
theorem knX1_at : Cond.instanceMethod yX1_at ∈ zgt := zgt_in (zt2 (List.mem_of_getElem? (i := 0) rfl)) rfl
set_option maxRecDepth 100000 in
theorem ksX1_at : Cond.selects RX1 yX1_at yX1_at ∈ zgt := zgt_in (zt0 (List.mem_of_getElem? (i := 2) rfl)) rfl
set_option maxRecDepth 100000 in
theorem kcX1_badForm : Cond.code yX1_badForm cX1_badForm 4 (some .int) ∈ zgt := zgt_in (zt1 (List.mem_of_getElem? (i := 233) rfl)) rfl
set_option maxRecDepth 100000 in
theorem knX1_badForm : Cond.instanceMethod yX1_badForm ∈ zgt := zgt_in (zt1 (List.mem_of_getElem? (i := 231) rfl)) rfl
set_option maxRecDepth 100000 in
theorem ksX1_badForm : Cond.selects RX1 yX1_badForm yX1_badForm ∈ zgt := zgt_in (zt1 (List.mem_of_getElem? (i := 232) rfl)) rfl
set_option maxRecDepth 100000 in
theorem kcX1_lengthFrom : Cond.code yX1_lengthFrom cX1_lengthFrom 2 (some .int) ∈ zgt := zgt_in (zt1 (List.mem_of_getElem? (i := 237) rfl)) rfl
set_option maxRecDepth 100000 in
theorem knX1_lengthFrom : Cond.instanceMethod yX1_lengthFrom ∈ zgt := zgt_in (zt1 (List.mem_of_getElem? (i := 236) rfl)) rfl
set_option maxRecDepth 100000 in
theorem ksX1_lengthFrom : Cond.selects RX1 yX1_lengthFrom yX1_lengthFrom ∈ zgt := zgt_in (zt0 (List.mem_of_getElem? (i := 1) rfl)) rfl
set_option maxRecDepth 100000 in
theorem kcX1_badWithin : Cond.code yX1_badWithin cX1_badWithin 6 (some .int) ∈ zgt := zgt_in (zt2 (List.mem_of_getElem? (i := 5) rfl)) rfl
set_option maxRecDepth 100000 in
theorem knX1_badWithin : Cond.instanceMethod yX1_badWithin ∈ zgt := zgt_in (zt2 (List.mem_of_getElem? (i := 4) rfl)) rfl
set_option maxRecDepth 100000 in
theorem ksX1_badWithin : Cond.selects RX1 yX1_badWithin yX1_badWithin ∈ zgt := zgt_in (zt0 (List.mem_of_getElem? (i := 3) rfl)) rfl
set_option maxRecDepth 100000 in
theorem kcX1_kindAt : Cond.code yX1_kindAt cX1_kindAt 3 (some .int) ∈ zgt := zgt_in (zt2 (List.mem_of_getElem? (i := 9) rfl)) rfl
set_option maxRecDepth 100000 in
theorem knX1_kindAt : Cond.instanceMethod yX1_kindAt ∈ zgt := zgt_in (zt2 (List.mem_of_getElem? (i := 8) rfl)) rfl
set_option maxRecDepth 100000 in
theorem ksX1_kindAt : Cond.selects RX1 yX1_kindAt yX1_kindAt ∈ zgt := zgt_in (zt0 (List.mem_of_getElem? (i := 4) rfl)) rfl
set_option maxRecDepth 100000 in
theorem kcX1_isDigit : Cond.code yX1_isDigit cX1_isDigit 1 (some .boolean) ∈ zgt := zgt_in (zt2 (List.mem_of_getElem? (i := 99) rfl)) rfl
set_option maxRecDepth 100000 in
theorem ktX1_isDigit : Cond.static yX1_isDigit ∈ zgt := zgt_in (zt2 (List.mem_of_getElem? (i := 98) rfl)) rfl
set_option maxRecDepth 100000 in
theorem kcX1_digitAt : Cond.code yX1_digitAt cX1_digitAt 2 (some .int) ∈ zgt := zgt_in (zt2 (List.mem_of_getElem? (i := 118) rfl)) rfl
set_option maxRecDepth 100000 in
theorem knX1_digitAt : Cond.instanceMethod yX1_digitAt ∈ zgt := zgt_in (zt2 (List.mem_of_getElem? (i := 117) rfl)) rfl
set_option maxRecDepth 100000 in
theorem ksX1_digitAt : Cond.selects RX1 yX1_digitAt yX1_digitAt ∈ zgt := zgt_in (zt0 (List.mem_of_getElem? (i := 6) rfl)) rfl
set_option maxRecDepth 100000 in
theorem kcX1_numberAt : Cond.code yX1_numberAt cX1_numberAt 2 (some .int) ∈ zgt := zgt_in (zt2 (List.mem_of_getElem? (i := 122) rfl)) rfl
set_option maxRecDepth 100000 in
theorem knX1_numberAt : Cond.instanceMethod yX1_numberAt ∈ zgt := zgt_in (zt2 (List.mem_of_getElem? (i := 121) rfl)) rfl
set_option maxRecDepth 100000 in
theorem ksX1_numberAt : Cond.selects RX1 yX1_numberAt yX1_numberAt ∈ zgt := zgt_in (zt0 (List.mem_of_getElem? (i := 7) rfl)) rfl
set_option maxRecDepth 100000 in
theorem kcX1_tellAll : Cond.code yX1_tellAll cX1_tellAll 5 (some .int) ∈ zgt := zgt_in (zt2 (List.mem_of_getElem? (i := 110) rfl)) rfl
set_option maxRecDepth 100000 in
theorem knX1_tellAll : Cond.instanceMethod yX1_tellAll ∈ zgt := zgt_in (zt2 (List.mem_of_getElem? (i := 108) rfl)) rfl
set_option maxRecDepth 100000 in
theorem ksX1_tellAll : Cond.selects RX1 yX1_tellAll yX1_tellAll ∈ zgt := zgt_in (zt2 (List.mem_of_getElem? (i := 109) rfl)) rfl
set_option maxRecDepth 100000 in
theorem kcX1_tellOne : Cond.code yX1_tellOne cX1_tellOne 5 (some .boolean) ∈ zgt := zgt_in (zt2 (List.mem_of_getElem? (i := 114) rfl)) rfl
set_option maxRecDepth 100000 in
theorem knX1_tellOne : Cond.instanceMethod yX1_tellOne ∈ zgt := zgt_in (zt2 (List.mem_of_getElem? (i := 113) rfl)) rfl
set_option maxRecDepth 100000 in
theorem ksX1_tellOne : Cond.selects RX1 yX1_tellOne yX1_tellOne ∈ zgt := zgt_in (zt0 (List.mem_of_getElem? (i := 5) rfl)) rfl
set_option maxRecDepth 100000 in
theorem kcX2_init : Cond.code yX2_init cX2_init 2 none ∈ zgt := zgt_in (zt1 (List.mem_of_getElem? (i := 133) rfl)) rfl
set_option maxRecDepth 100000 in
theorem knX2_init : Cond.instanceMethod yX2_init ∈ zgt := zgt_in (zt1 (List.mem_of_getElem? (i := 132) rfl)) rfl
set_option maxRecDepth 100000 in
theorem kcX2_goodWays : Cond.code yX2_goodWays cX2_goodWays 7 (some .long) ∈ zgt := zgt_in (zt4 (List.mem_of_getElem? (i := 23) rfl)) rfl
set_option maxRecDepth 100000 in
theorem knX2_goodWays : Cond.instanceMethod yX2_goodWays ∈ zgt := zgt_in (zt4 (List.mem_of_getElem? (i := 21) rfl)) rfl
set_option maxRecDepth 100000 in
theorem ksX2_goodWays : Cond.selects RX2 yX2_goodWays yX2_goodWays ∈ zgt := zgt_in (zt4 (List.mem_of_getElem? (i := 22) rfl)) rfl
set_option maxRecDepth 100000 in
theorem kcX2_allWays : Cond.code yX2_allWays cX2_allWays 5 (some .long) ∈ zgt := zgt_in (zt4 (List.mem_of_getElem? (i := 33) rfl)) rfl
set_option maxRecDepth 100000 in
theorem ktX2_allWays : Cond.static yX2_allWays ∈ zgt := zgt_in (zt4 (List.mem_of_getElem? (i := 32) rfl)) rfl
set_option maxRecDepth 100000 in
theorem kcX2_waysFrom : Cond.code yX2_waysFrom cX2_waysFrom 6 (some .long) ∈ zgt := zgt_in (zt4 (List.mem_of_getElem? (i := 28) rfl)) rfl
set_option maxRecDepth 100000 in
theorem knX2_waysFrom : Cond.instanceMethod yX2_waysFrom ∈ zgt := zgt_in (zt4 (List.mem_of_getElem? (i := 27) rfl)) rfl
set_option maxRecDepth 100000 in
theorem ksX2_waysFrom : Cond.selects RX2 yX2_waysFrom yX2_waysFrom ∈ zgt := zgt_in (zt0 (List.mem_of_getElem? (i := 26) rfl)) rfl
set_option maxRecDepth 100000 in
theorem kcX3_init : Cond.code yX3_init cX3_init 1 none ∈ zgt := zgt_in (zt1 (List.mem_of_getElem? (i := 114) rfl)) rfl
set_option maxRecDepth 100000 in
theorem knX3_init : Cond.instanceMethod yX3_init ∈ zgt := zgt_in (zt1 (List.mem_of_getElem? (i := 113) rfl)) rfl
set_option maxRecDepth 100000 in
theorem kcX3_pairAll : Cond.code yX3_pairAll cX3_pairAll 5 (some .int) ∈ zgt := zgt_in (zt3 (List.mem_of_getElem? (i := 208) rfl)) rfl
set_option maxRecDepth 100000 in
theorem knX3_pairAll : Cond.instanceMethod yX3_pairAll ∈ zgt := zgt_in (zt3 (List.mem_of_getElem? (i := 206) rfl)) rfl
set_option maxRecDepth 100000 in
theorem ksX3_pairAll : Cond.selects RX3 yX3_pairAll yX3_pairAll ∈ zgt := zgt_in (zt3 (List.mem_of_getElem? (i := 207) rfl)) rfl
set_option maxRecDepth 100000 in
theorem kcX3_fitting : Cond.code yX3_fitting cX3_fitting 6 (some .int) ∈ zgt := zgt_in (zt3 (List.mem_of_getElem? (i := 211) rfl)) rfl
set_option maxRecDepth 100000 in
theorem ktX3_fitting : Cond.static yX3_fitting ∈ zgt := zgt_in (zt3 (List.mem_of_getElem? (i := 210) rfl)) rfl
set_option maxRecDepth 100000 in
theorem kcX3_mostOf : Cond.code yX3_mostOf cX3_mostOf 6 (some .int) ∈ zgt := zgt_in (zt3 (List.mem_of_getElem? (i := 219) rfl)) rfl
set_option maxRecDepth 100000 in
theorem knX3_mostOf : Cond.instanceMethod yX3_mostOf ∈ zgt := zgt_in (zt3 (List.mem_of_getElem? (i := 218) rfl)) rfl
set_option maxRecDepth 100000 in
theorem ksX3_mostOf : Cond.selects RX3 yX3_mostOf yX3_mostOf ∈ zgt := zgt_in (zt0 (List.mem_of_getElem? (i := 22) rfl)) rfl
set_option maxRecDepth 100000 in
theorem kcX3_leastIn : Cond.code yX3_leastIn cX3_leastIn 3 (some .int) ∈ zgt := zgt_in (zt3 (List.mem_of_getElem? (i := 223) rfl)) rfl
set_option maxRecDepth 100000 in
theorem knX3_leastIn : Cond.instanceMethod yX3_leastIn ∈ zgt := zgt_in (zt3 (List.mem_of_getElem? (i := 222) rfl)) rfl
set_option maxRecDepth 100000 in
theorem ksX3_leastIn : Cond.selects RX3 yX3_leastIn yX3_leastIn ∈ zgt := zgt_in (zt0 (List.mem_of_getElem? (i := 23) rfl)) rfl
set_option maxRecDepth 100000 in
theorem kcX3_choose : Cond.code yX3_choose cX3_choose 5 none ∈ zgt := zgt_in (zt3 (List.mem_of_getElem? (i := 229) rfl)) rfl
set_option maxRecDepth 100000 in
theorem knX3_choose : Cond.instanceMethod yX3_choose ∈ zgt := zgt_in (zt3 (List.mem_of_getElem? (i := 228) rfl)) rfl
set_option maxRecDepth 100000 in
theorem ksX3_choose : Cond.selects RX3 yX3_choose yX3_choose ∈ zgt := zgt_in (zt0 (List.mem_of_getElem? (i := 24) rfl)) rfl
set_option maxRecDepth 100000 in
theorem kcX3_leastPartner : Cond.code yX3_leastPartner cX3_leastPartner 5 (some .int) ∈ zgt := zgt_in (zt3 (List.mem_of_getElem? (i := 234) rfl)) rfl
set_option maxRecDepth 100000 in
theorem knX3_leastPartner : Cond.instanceMethod yX3_leastPartner ∈ zgt := zgt_in (zt3 (List.mem_of_getElem? (i := 233) rfl)) rfl
set_option maxRecDepth 100000 in
theorem ksX3_leastPartner : Cond.selects RX3 yX3_leastPartner yX3_leastPartner ∈ zgt := zgt_in (zt0 (List.mem_of_getElem? (i := 25) rfl)) rfl
set_option maxRecDepth 100000 in
theorem kcX3_partnerOf : Cond.code yX3_partnerOf cX3_partnerOf 2 (some .int) ∈ zgt := zgt_in (zt3 (List.mem_of_getElem? (i := 238) rfl)) rfl
set_option maxRecDepth 100000 in
theorem knX3_partnerOf : Cond.instanceMethod yX3_partnerOf ∈ zgt := zgt_in (zt3 (List.mem_of_getElem? (i := 236) rfl)) rfl
set_option maxRecDepth 100000 in
theorem ksX3_partnerOf : Cond.selects RX3 yX3_partnerOf yX3_partnerOf ∈ zgt := zgt_in (zt3 (List.mem_of_getElem? (i := 237) rfl)) rfl
set_option maxRecDepth 100000 in
theorem kcX4_init : Cond.code yX4_init cX4_init 1 none ∈ zgt := zgt_in (zt1 (List.mem_of_getElem? (i := 98) rfl)) rfl
set_option maxRecDepth 100000 in
theorem knX4_init : Cond.instanceMethod yX4_init ∈ zgt := zgt_in (zt1 (List.mem_of_getElem? (i := 97) rfl)) rfl
set_option maxRecDepth 100000 in
theorem kcX4_seatAll : Cond.code yX4_seatAll cX4_seatAll 3 (some .int) ∈ zgt := zgt_in (zt3 (List.mem_of_getElem? (i := 186) rfl)) rfl
set_option maxRecDepth 100000 in
theorem knX4_seatAll : Cond.instanceMethod yX4_seatAll ∈ zgt := zgt_in (zt3 (List.mem_of_getElem? (i := 184) rfl)) rfl
set_option maxRecDepth 100000 in
theorem ksX4_seatAll : Cond.selects RX4 yX4_seatAll yX4_seatAll ∈ zgt := zgt_in (zt3 (List.mem_of_getElem? (i := 185) rfl)) rfl
set_option maxRecDepth 100000 in
theorem kcX4_seatFrom : Cond.code yX4_seatFrom cX4_seatFrom 5 (some .boolean) ∈ zgt := zgt_in (zt3 (List.mem_of_getElem? (i := 194) rfl)) rfl
set_option maxRecDepth 100000 in
theorem knX4_seatFrom : Cond.instanceMethod yX4_seatFrom ∈ zgt := zgt_in (zt3 (List.mem_of_getElem? (i := 193) rfl)) rfl
set_option maxRecDepth 100000 in
theorem ksX4_seatFrom : Cond.selects RX4 yX4_seatFrom yX4_seatFrom ∈ zgt := zgt_in (zt0 (List.mem_of_getElem? (i := 21) rfl)) rfl
set_option maxRecDepth 100000 in
theorem kcX4_roomOf : Cond.code yX4_roomOf cX4_roomOf 3 (some .int) ∈ zgt := zgt_in (zt3 (List.mem_of_getElem? (i := 199) rfl)) rfl
set_option maxRecDepth 100000 in
theorem knX4_roomOf : Cond.instanceMethod yX4_roomOf ∈ zgt := zgt_in (zt3 (List.mem_of_getElem? (i := 197) rfl)) rfl
set_option maxRecDepth 100000 in
theorem ksX4_roomOf : Cond.selects RX4 yX4_roomOf yX4_roomOf ∈ zgt := zgt_in (zt3 (List.mem_of_getElem? (i := 198) rfl)) rfl
set_option maxRecDepth 100000 in
theorem kcX5_init : Cond.code yX5_init cX5_init 1 none ∈ zgt := zgt_in (zt1 (List.mem_of_getElem? (i := 85) rfl)) rfl
set_option maxRecDepth 100000 in
theorem knX5_init : Cond.instanceMethod yX5_init ∈ zgt := zgt_in (zt1 (List.mem_of_getElem? (i := 84) rfl)) rfl
set_option maxRecDepth 100000 in
theorem kcX5_read : Cond.code yX5_read cX5_read 3 none ∈ zgt := zgt_in (zt3 (List.mem_of_getElem? (i := 77) rfl)) rfl
set_option maxRecDepth 100000 in
theorem knX5_read : Cond.instanceMethod yX5_read ∈ zgt := zgt_in (zt3 (List.mem_of_getElem? (i := 75) rfl)) rfl
set_option maxRecDepth 100000 in
theorem ksX5_read : Cond.selects RX5 yX5_read yX5_read ∈ zgt := zgt_in (zt3 (List.mem_of_getElem? (i := 76) rfl)) rfl
set_option maxRecDepth 100000 in
theorem kcX5_spread : Cond.code yX5_spread cX5_spread 4 (some .int) ∈ zgt := zgt_in (zt3 (List.mem_of_getElem? (i := 86) rfl)) rfl
set_option maxRecDepth 100000 in
theorem knX5_spread : Cond.instanceMethod yX5_spread ∈ zgt := zgt_in (zt3 (List.mem_of_getElem? (i := 85) rfl)) rfl
set_option maxRecDepth 100000 in
theorem ksX5_spread : Cond.selects RX5 yX5_spread yX5_spread ∈ zgt := zgt_in (zt0 (List.mem_of_getElem? (i := 14) rfl)) rfl
set_option maxRecDepth 100000 in
theorem kcX5_steps : Cond.code yX5_steps cX5_steps 5 (some .int) ∈ zgt := zgt_in (zt3 (List.mem_of_getElem? (i := 95) rfl)) rfl
set_option maxRecDepth 100000 in
theorem knX5_steps : Cond.instanceMethod yX5_steps ∈ zgt := zgt_in (zt3 (List.mem_of_getElem? (i := 93) rfl)) rfl
set_option maxRecDepth 100000 in
theorem ksX5_steps : Cond.selects RX5 yX5_steps yX5_steps ∈ zgt := zgt_in (zt3 (List.mem_of_getElem? (i := 94) rfl)) rfl
set_option maxRecDepth 100000 in
theorem kcX5_reachOf : Cond.code yX5_reachOf cX5_reachOf 4 (some .int) ∈ zgt := zgt_in (zt3 (List.mem_of_getElem? (i := 82) rfl)) rfl
set_option maxRecDepth 100000 in
theorem knX5_reachOf : Cond.instanceMethod yX5_reachOf ∈ zgt := zgt_in (zt3 (List.mem_of_getElem? (i := 80) rfl)) rfl
set_option maxRecDepth 100000 in
theorem ksX5_reachOf : Cond.selects RX5 yX5_reachOf yX5_reachOf ∈ zgt := zgt_in (zt3 (List.mem_of_getElem? (i := 81) rfl)) rfl
set_option maxRecDepth 100000 in
theorem kcX5_howManyGroups : Cond.code yX5_howManyGroups cX5_howManyGroups 4 (some .int) ∈ zgt := zgt_in (zt3 (List.mem_of_getElem? (i := 107) rfl)) rfl
set_option maxRecDepth 100000 in
theorem knX5_howManyGroups : Cond.instanceMethod yX5_howManyGroups ∈ zgt := zgt_in (zt3 (List.mem_of_getElem? (i := 105) rfl)) rfl
set_option maxRecDepth 100000 in
theorem ksX5_howManyGroups : Cond.selects RX5 yX5_howManyGroups yX5_howManyGroups ∈ zgt := zgt_in (zt3 (List.mem_of_getElem? (i := 106) rfl)) rfl
set_option maxRecDepth 100000 in
theorem kcX5_mostInGroup : Cond.code yX5_mostInGroup cX5_mostInGroup 3 (some .int) ∈ zgt := zgt_in (zt3 (List.mem_of_getElem? (i := 112) rfl)) rfl
set_option maxRecDepth 100000 in
theorem knX5_mostInGroup : Cond.instanceMethod yX5_mostInGroup ∈ zgt := zgt_in (zt3 (List.mem_of_getElem? (i := 110) rfl)) rfl
set_option maxRecDepth 100000 in
theorem ksX5_mostInGroup : Cond.selects RX5 yX5_mostInGroup yX5_mostInGroup ∈ zgt := zgt_in (zt3 (List.mem_of_getElem? (i := 111) rfl)) rfl
set_option maxRecDepth 100000 in
theorem kcX5_threes : Cond.code yX5_threes cX5_threes 4 (some .int) ∈ zgt := zgt_in (zt3 (List.mem_of_getElem? (i := 118) rfl)) rfl
set_option maxRecDepth 100000 in
theorem knX5_threes : Cond.instanceMethod yX5_threes ∈ zgt := zgt_in (zt3 (List.mem_of_getElem? (i := 116) rfl)) rfl
set_option maxRecDepth 100000 in
theorem ksX5_threes : Cond.selects RX5 yX5_threes yX5_threes ∈ zgt := zgt_in (zt3 (List.mem_of_getElem? (i := 117) rfl)) rfl
set_option maxRecDepth 100000 in
theorem kcX5_greatestClan : Cond.code yX5_greatestClan cX5_greatestClan 4 (some .int) ∈ zgt := zgt_in (zt3 (List.mem_of_getElem? (i := 126) rfl)) rfl
set_option maxRecDepth 100000 in
theorem knX5_greatestClan : Cond.instanceMethod yX5_greatestClan ∈ zgt := zgt_in (zt3 (List.mem_of_getElem? (i := 124) rfl)) rfl
set_option maxRecDepth 100000 in
theorem ksX5_greatestClan : Cond.selects RX5 yX5_greatestClan yX5_greatestClan ∈ zgt := zgt_in (zt3 (List.mem_of_getElem? (i := 125) rfl)) rfl
set_option maxRecDepth 100000 in
theorem kcX5_isClan : Cond.code yX5_isClan cX5_isClan 3 (some .boolean) ∈ zgt := zgt_in (zt3 (List.mem_of_getElem? (i := 130) rfl)) rfl
set_option maxRecDepth 100000 in
theorem knX5_isClan : Cond.instanceMethod yX5_isClan ∈ zgt := zgt_in (zt3 (List.mem_of_getElem? (i := 129) rfl)) rfl
set_option maxRecDepth 100000 in
theorem ksX5_isClan : Cond.selects RX5 yX5_isClan yX5_isClan ∈ zgt := zgt_in (zt0 (List.mem_of_getElem? (i := 15) rfl)) rfl
set_option maxRecDepth 100000 in
theorem kcX6_init : Cond.code yX6_init cX6_init 1 none ∈ zgt := zgt_in (zt1 (List.mem_of_getElem? (i := 22) rfl)) rfl
set_option maxRecDepth 100000 in
theorem knX6_init : Cond.instanceMethod yX6_init ∈ zgt := zgt_in (zt1 (List.mem_of_getElem? (i := 21) rfl)) rfl
set_option maxRecDepth 100000 in
theorem kcX6_letter : Cond.code yX6_letter cX6_letter 3 (some .int) ∈ zgt := zgt_in (zt1 (List.mem_of_getElem? (i := 206) rfl)) rfl
set_option maxRecDepth 100000 in
theorem knX6_letter : Cond.instanceMethod yX6_letter ∈ zgt := zgt_in (zt1 (List.mem_of_getElem? (i := 204) rfl)) rfl
set_option maxRecDepth 100000 in
theorem ksX6_letter : Cond.selects RX6 yX6_letter yX6_letter ∈ zgt := zgt_in (zt1 (List.mem_of_getElem? (i := 205) rfl)) rfl
set_option maxRecDepth 100000 in
theorem kcX6_county : Cond.code yX6_county cX6_county 3 (some .int) ∈ zgt := zgt_in (zt1 (List.mem_of_getElem? (i := 229) rfl)) rfl
set_option maxRecDepth 100000 in
theorem knX6_county : Cond.instanceMethod yX6_county ∈ zgt := zgt_in (zt1 (List.mem_of_getElem? (i := 227) rfl)) rfl
set_option maxRecDepth 100000 in
theorem ksX6_county : Cond.selects RX6 yX6_county yX6_county ∈ zgt := zgt_in (zt1 (List.mem_of_getElem? (i := 228) rfl)) rfl
set_option maxRecDepth 100000 in
theorem kcX6_person : Cond.code yX6_person cX6_person 4 (some .int) ∈ zgt := zgt_in (zt2 (List.mem_of_getElem? (i := 206) rfl)) rfl
set_option maxRecDepth 100000 in
theorem knX6_person : Cond.instanceMethod yX6_person ∈ zgt := zgt_in (zt2 (List.mem_of_getElem? (i := 204) rfl)) rfl
set_option maxRecDepth 100000 in
theorem ksX6_person : Cond.selects RX6 yX6_person yX6_person ∈ zgt := zgt_in (zt2 (List.mem_of_getElem? (i := 205) rfl)) rfl
set_option maxRecDepth 100000 in
theorem kcX6_tie : Cond.code yX6_tie cX6_tie 5 (some .int) ∈ zgt := zgt_in (zt2 (List.mem_of_getElem? (i := 225) rfl)) rfl
set_option maxRecDepth 100000 in
theorem knX6_tie : Cond.instanceMethod yX6_tie ∈ zgt := zgt_in (zt2 (List.mem_of_getElem? (i := 223) rfl)) rfl
set_option maxRecDepth 100000 in
theorem ksX6_tie : Cond.selects RX6 yX6_tie yX6_tie ∈ zgt := zgt_in (zt2 (List.mem_of_getElem? (i := 224) rfl)) rfl
set_option maxRecDepth 100000 in
theorem kcX6_signs : Cond.code yX6_signs cX6_signs 4 (some .int) ∈ zgt := zgt_in (zt3 (List.mem_of_getElem? (i := 4) rfl)) rfl
set_option maxRecDepth 100000 in
theorem knX6_signs : Cond.instanceMethod yX6_signs ∈ zgt := zgt_in (zt3 (List.mem_of_getElem? (i := 2) rfl)) rfl
set_option maxRecDepth 100000 in
theorem ksX6_signs : Cond.selects RX6 yX6_signs yX6_signs ∈ zgt := zgt_in (zt3 (List.mem_of_getElem? (i := 3) rfl)) rfl
set_option maxRecDepth 100000 in
theorem kcX6_feuds : Cond.code yX6_feuds cX6_feuds 4 (some .int) ∈ zgt := zgt_in (zt3 (List.mem_of_getElem? (i := 9) rfl)) rfl
set_option maxRecDepth 100000 in
theorem knX6_feuds : Cond.instanceMethod yX6_feuds ∈ zgt := zgt_in (zt3 (List.mem_of_getElem? (i := 7) rfl)) rfl
set_option maxRecDepth 100000 in
theorem ksX6_feuds : Cond.selects RX6 yX6_feuds yX6_feuds ∈ zgt := zgt_in (zt3 (List.mem_of_getElem? (i := 8) rfl)) rfl
set_option maxRecDepth 100000 in
theorem kcX6_gets : Cond.code yX6_gets cX6_gets 5 (some .int) ∈ zgt := zgt_in (zt3 (List.mem_of_getElem? (i := 14) rfl)) rfl
set_option maxRecDepth 100000 in
theorem knX6_gets : Cond.instanceMethod yX6_gets ∈ zgt := zgt_in (zt3 (List.mem_of_getElem? (i := 12) rfl)) rfl
set_option maxRecDepth 100000 in
theorem ksX6_gets : Cond.selects RX6 yX6_gets yX6_gets ∈ zgt := zgt_in (zt3 (List.mem_of_getElem? (i := 13) rfl)) rfl
set_option maxRecDepth 100000 in
theorem kcX6_turn : Cond.code yX6_turn cX6_turn 6 (some .int) ∈ zgt := zgt_in (zt3 (List.mem_of_getElem? (i := 18) rfl)) rfl
set_option maxRecDepth 100000 in
theorem knX6_turn : Cond.instanceMethod yX6_turn ∈ zgt := zgt_in (zt3 (List.mem_of_getElem? (i := 16) rfl)) rfl
set_option maxRecDepth 100000 in
theorem ksX6_turn : Cond.selects RX6 yX6_turn yX6_turn ∈ zgt := zgt_in (zt3 (List.mem_of_getElem? (i := 17) rfl)) rfl
set_option maxRecDepth 100000 in
theorem kcX6_years : Cond.code yX6_years cX6_years 3 (some .int) ∈ zgt := zgt_in (zt3 (List.mem_of_getElem? (i := 22) rfl)) rfl
set_option maxRecDepth 100000 in
theorem knX6_years : Cond.instanceMethod yX6_years ∈ zgt := zgt_in (zt3 (List.mem_of_getElem? (i := 20) rfl)) rfl
set_option maxRecDepth 100000 in
theorem ksX6_years : Cond.selects RX6 yX6_years yX6_years ∈ zgt := zgt_in (zt3 (List.mem_of_getElem? (i := 21) rfl)) rfl
set_option maxRecDepth 100000 in
theorem kcX6_hasThen : Cond.code yX6_hasThen cX6_hasThen 5 (some .int) ∈ zgt := zgt_in (zt3 (List.mem_of_getElem? (i := 32) rfl)) rfl
set_option maxRecDepth 100000 in
theorem knX6_hasThen : Cond.instanceMethod yX6_hasThen ∈ zgt := zgt_in (zt3 (List.mem_of_getElem? (i := 30) rfl)) rfl
set_option maxRecDepth 100000 in
theorem ksX6_hasThen : Cond.selects RX6 yX6_hasThen yX6_hasThen ∈ zgt := zgt_in (zt3 (List.mem_of_getElem? (i := 31) rfl)) rfl
set_option maxRecDepth 100000 in
theorem kcX6_areKin : Cond.code yX6_areKin cX6_areKin 5 (some .int) ∈ zgt := zgt_in (zt3 (List.mem_of_getElem? (i := 40) rfl)) rfl
set_option maxRecDepth 100000 in
theorem knX6_areKin : Cond.instanceMethod yX6_areKin ∈ zgt := zgt_in (zt3 (List.mem_of_getElem? (i := 38) rfl)) rfl
set_option maxRecDepth 100000 in
theorem ksX6_areKin : Cond.selects RX6 yX6_areKin yX6_areKin ∈ zgt := zgt_in (zt3 (List.mem_of_getElem? (i := 39) rfl)) rfl
set_option maxRecDepth 100000 in
theorem kcX6_allMoney : Cond.code yX6_allMoney cX6_allMoney 3 (some .int) ∈ zgt := zgt_in (zt3 (List.mem_of_getElem? (i := 44) rfl)) rfl
set_option maxRecDepth 100000 in
theorem knX6_allMoney : Cond.instanceMethod yX6_allMoney ∈ zgt := zgt_in (zt3 (List.mem_of_getElem? (i := 42) rfl)) rfl
set_option maxRecDepth 100000 in
theorem ksX6_allMoney : Cond.selects RX6 yX6_allMoney yX6_allMoney ∈ zgt := zgt_in (zt3 (List.mem_of_getElem? (i := 43) rfl)) rfl
set_option maxRecDepth 100000 in
theorem kcX6_ruined : Cond.code yX6_ruined cX6_ruined 4 (some .int) ∈ zgt := zgt_in (zt3 (List.mem_of_getElem? (i := 48) rfl)) rfl
set_option maxRecDepth 100000 in
theorem knX6_ruined : Cond.instanceMethod yX6_ruined ∈ zgt := zgt_in (zt3 (List.mem_of_getElem? (i := 46) rfl)) rfl
set_option maxRecDepth 100000 in
theorem ksX6_ruined : Cond.selects RX6 yX6_ruined yX6_ruined ∈ zgt := zgt_in (zt3 (List.mem_of_getElem? (i := 47) rfl)) rfl
set_option maxRecDepth 100000 in
theorem kcX6_first : Cond.code yX6_first cX6_first 3 (some .int) ∈ zgt := zgt_in (zt3 (List.mem_of_getElem? (i := 53) rfl)) rfl
set_option maxRecDepth 100000 in
theorem knX6_first : Cond.instanceMethod yX6_first ∈ zgt := zgt_in (zt3 (List.mem_of_getElem? (i := 51) rfl)) rfl
set_option maxRecDepth 100000 in
theorem ksX6_first : Cond.selects RX6 yX6_first yX6_first ∈ zgt := zgt_in (zt3 (List.mem_of_getElem? (i := 52) rfl)) rfl
set_option maxRecDepth 100000 in
theorem kcX6_richest : Cond.code yX6_richest cX6_richest 6 (some .int) ∈ zgt := zgt_in (zt3 (List.mem_of_getElem? (i := 69) rfl)) rfl
set_option maxRecDepth 100000 in
theorem knX6_richest : Cond.instanceMethod yX6_richest ∈ zgt := zgt_in (zt3 (List.mem_of_getElem? (i := 67) rfl)) rfl
set_option maxRecDepth 100000 in
theorem ksX6_richest : Cond.selects RX6 yX6_richest yX6_richest ∈ zgt := zgt_in (zt3 (List.mem_of_getElem? (i := 68) rfl)) rfl
set_option maxRecDepth 100000 in
theorem kcX6_kin : Cond.code yX6_kin cX6_kin 4 (some .int) ∈ zgt := zgt_in (zt3 (List.mem_of_getElem? (i := 73) rfl)) rfl
set_option maxRecDepth 100000 in
theorem knX6_kin : Cond.instanceMethod yX6_kin ∈ zgt := zgt_in (zt3 (List.mem_of_getElem? (i := 71) rfl)) rfl
set_option maxRecDepth 100000 in
theorem ksX6_kin : Cond.selects RX6 yX6_kin yX6_kin ∈ zgt := zgt_in (zt3 (List.mem_of_getElem? (i := 72) rfl)) rfl
set_option maxRecDepth 100000 in
theorem kcX6_removed : Cond.code yX6_removed cX6_removed 4 (some .int) ∈ zgt := zgt_in (zt3 (List.mem_of_getElem? (i := 91) rfl)) rfl
set_option maxRecDepth 100000 in
theorem knX6_removed : Cond.instanceMethod yX6_removed ∈ zgt := zgt_in (zt3 (List.mem_of_getElem? (i := 89) rfl)) rfl
set_option maxRecDepth 100000 in
theorem ksX6_removed : Cond.selects RX6 yX6_removed yX6_removed ∈ zgt := zgt_in (zt3 (List.mem_of_getElem? (i := 90) rfl)) rfl
set_option maxRecDepth 100000 in
theorem kcX6_farthest : Cond.code yX6_farthest cX6_farthest 8 (some .int) ∈ zgt := zgt_in (zt3 (List.mem_of_getElem? (i := 99) rfl)) rfl
set_option maxRecDepth 100000 in
theorem knX6_farthest : Cond.instanceMethod yX6_farthest ∈ zgt := zgt_in (zt3 (List.mem_of_getElem? (i := 97) rfl)) rfl
set_option maxRecDepth 100000 in
theorem ksX6_farthest : Cond.selects RX6 yX6_farthest yX6_farthest ∈ zgt := zgt_in (zt3 (List.mem_of_getElem? (i := 98) rfl)) rfl
set_option maxRecDepth 100000 in
theorem kcX6_groups : Cond.code yX6_groups cX6_groups 3 (some .int) ∈ zgt := zgt_in (zt3 (List.mem_of_getElem? (i := 103) rfl)) rfl
set_option maxRecDepth 100000 in
theorem knX6_groups : Cond.instanceMethod yX6_groups ∈ zgt := zgt_in (zt3 (List.mem_of_getElem? (i := 101) rfl)) rfl
set_option maxRecDepth 100000 in
theorem ksX6_groups : Cond.selects RX6 yX6_groups yX6_groups ∈ zgt := zgt_in (zt3 (List.mem_of_getElem? (i := 102) rfl)) rfl
set_option maxRecDepth 100000 in
theorem kcX6_clan : Cond.code yX6_clan cX6_clan 4 (some .int) ∈ zgt := zgt_in (zt3 (List.mem_of_getElem? (i := 122) rfl)) rfl
set_option maxRecDepth 100000 in
theorem knX6_clan : Cond.instanceMethod yX6_clan ∈ zgt := zgt_in (zt3 (List.mem_of_getElem? (i := 120) rfl)) rfl
set_option maxRecDepth 100000 in
theorem ksX6_clan : Cond.selects RX6 yX6_clan yX6_clan ∈ zgt := zgt_in (zt3 (List.mem_of_getElem? (i := 121) rfl)) rfl
set_option maxRecDepth 100000 in
theorem kcX6_bestSign : Cond.code yX6_bestSign cX6_bestSign 3 (some .int) ∈ zgt := zgt_in (zt3 (List.mem_of_getElem? (i := 134) rfl)) rfl
set_option maxRecDepth 100000 in
theorem knX6_bestSign : Cond.instanceMethod yX6_bestSign ∈ zgt := zgt_in (zt3 (List.mem_of_getElem? (i := 132) rfl)) rfl
set_option maxRecDepth 100000 in
theorem ksX6_bestSign : Cond.selects RX6 yX6_bestSign yX6_bestSign ∈ zgt := zgt_in (zt3 (List.mem_of_getElem? (i := 133) rfl)) rfl
set_option maxRecDepth 100000 in
theorem kcX6_bestCut : Cond.code yX6_bestCut cX6_bestCut 3 (some .int) ∈ zgt := zgt_in (zt3 (List.mem_of_getElem? (i := 159) rfl)) rfl
set_option maxRecDepth 100000 in
theorem knX6_bestCut : Cond.instanceMethod yX6_bestCut ∈ zgt := zgt_in (zt3 (List.mem_of_getElem? (i := 157) rfl)) rfl
set_option maxRecDepth 100000 in
theorem ksX6_bestCut : Cond.selects RX6 yX6_bestCut yX6_bestCut ∈ zgt := zgt_in (zt3 (List.mem_of_getElem? (i := 158) rfl)) rfl
set_option maxRecDepth 100000 in
theorem kcX6_feudCosts : Cond.code yX6_feudCosts cX6_feudCosts 5 (some .int) ∈ zgt := zgt_in (zt3 (List.mem_of_getElem? (i := 163) rfl)) rfl
set_option maxRecDepth 100000 in
theorem knX6_feudCosts : Cond.instanceMethod yX6_feudCosts ∈ zgt := zgt_in (zt3 (List.mem_of_getElem? (i := 161) rfl)) rfl
set_option maxRecDepth 100000 in
theorem ksX6_feudCosts : Cond.selects RX6 yX6_feudCosts yX6_feudCosts ∈ zgt := zgt_in (zt3 (List.mem_of_getElem? (i := 162) rfl)) rfl
set_option maxRecDepth 100000 in
theorem kcX6_peace : Cond.code yX6_peace cX6_peace 3 (some .int) ∈ zgt := zgt_in (zt3 (List.mem_of_getElem? (i := 173) rfl)) rfl
set_option maxRecDepth 100000 in
theorem knX6_peace : Cond.instanceMethod yX6_peace ∈ zgt := zgt_in (zt3 (List.mem_of_getElem? (i := 171) rfl)) rfl
set_option maxRecDepth 100000 in
theorem ksX6_peace : Cond.selects RX6 yX6_peace yX6_peace ∈ zgt := zgt_in (zt3 (List.mem_of_getElem? (i := 172) rfl)) rfl
set_option maxRecDepth 100000 in
theorem kcX6_will : Cond.code yX6_will cX6_will 7 (some .int) ∈ zgt := zgt_in (zt3 (List.mem_of_getElem? (i := 177) rfl)) rfl
set_option maxRecDepth 100000 in
theorem knX6_will : Cond.instanceMethod yX6_will ∈ zgt := zgt_in (zt3 (List.mem_of_getElem? (i := 175) rfl)) rfl
set_option maxRecDepth 100000 in
theorem ksX6_will : Cond.selects RX6 yX6_will yX6_will ∈ zgt := zgt_in (zt3 (List.mem_of_getElem? (i := 176) rfl)) rfl
set_option maxRecDepth 100000 in
theorem kcX6_rooms : Cond.code yX6_rooms cX6_rooms 4 (some .int) ∈ zgt := zgt_in (zt3 (List.mem_of_getElem? (i := 182) rfl)) rfl
set_option maxRecDepth 100000 in
theorem knX6_rooms : Cond.instanceMethod yX6_rooms ∈ zgt := zgt_in (zt3 (List.mem_of_getElem? (i := 180) rfl)) rfl
set_option maxRecDepth 100000 in
theorem ksX6_rooms : Cond.selects RX6 yX6_rooms yX6_rooms ∈ zgt := zgt_in (zt3 (List.mem_of_getElem? (i := 181) rfl)) rfl
set_option maxRecDepth 100000 in
theorem kcX6_couples : Cond.code yX6_couples cX6_couples 5 (some .int) ∈ zgt := zgt_in (zt3 (List.mem_of_getElem? (i := 204) rfl)) rfl
set_option maxRecDepth 100000 in
theorem knX6_couples : Cond.instanceMethod yX6_couples ∈ zgt := zgt_in (zt3 (List.mem_of_getElem? (i := 202) rfl)) rfl
set_option maxRecDepth 100000 in
theorem ksX6_couples : Cond.selects RX6 yX6_couples yX6_couples ∈ zgt := zgt_in (zt3 (List.mem_of_getElem? (i := 203) rfl)) rfl
set_option maxRecDepth 100000 in
theorem kcX6_buys : Cond.code yX6_buys cX6_buys 3 (some .int) ∈ zgt := zgt_in (zt4 (List.mem_of_getElem? (i := 2) rfl)) rfl
set_option maxRecDepth 100000 in
theorem knX6_buys : Cond.instanceMethod yX6_buys ∈ zgt := zgt_in (zt4 (List.mem_of_getElem? (i := 0) rfl)) rfl
set_option maxRecDepth 100000 in
theorem ksX6_buys : Cond.selects RX6 yX6_buys yX6_buys ∈ zgt := zgt_in (zt4 (List.mem_of_getElem? (i := 1) rfl)) rfl
set_option maxRecDepth 100000 in
theorem kcX6_matters : Cond.code yX6_matters cX6_matters 8 (some .int) ∈ zgt := zgt_in (zt4 (List.mem_of_getElem? (i := 6) rfl)) rfl
set_option maxRecDepth 100000 in
theorem knX6_matters : Cond.instanceMethod yX6_matters ∈ zgt := zgt_in (zt4 (List.mem_of_getElem? (i := 4) rfl)) rfl
set_option maxRecDepth 100000 in
theorem ksX6_matters : Cond.selects RX6 yX6_matters yX6_matters ∈ zgt := zgt_in (zt4 (List.mem_of_getElem? (i := 5) rfl)) rfl
set_option maxRecDepth 100000 in
theorem kcX6_deaths : Cond.code yX6_deaths cX6_deaths 10 (some .long) ∈ zgt := zgt_in (zt4 (List.mem_of_getElem? (i := 15) rfl)) rfl
set_option maxRecDepth 100000 in
theorem knX6_deaths : Cond.instanceMethod yX6_deaths ∈ zgt := zgt_in (zt4 (List.mem_of_getElem? (i := 13) rfl)) rfl
set_option maxRecDepth 100000 in
theorem ksX6_deaths : Cond.selects RX6 yX6_deaths yX6_deaths ∈ zgt := zgt_in (zt4 (List.mem_of_getElem? (i := 14) rfl)) rfl
set_option maxRecDepth 100000 in
theorem kcX6_mean : Cond.code yX6_mean cX6_mean 3 (some .long) ∈ zgt := zgt_in (zt4 (List.mem_of_getElem? (i := 43) rfl)) rfl
set_option maxRecDepth 100000 in
theorem knX6_mean : Cond.instanceMethod yX6_mean ∈ zgt := zgt_in (zt4 (List.mem_of_getElem? (i := 41) rfl)) rfl
set_option maxRecDepth 100000 in
theorem ksX6_mean : Cond.selects RX6 yX6_mean yX6_mean ∈ zgt := zgt_in (zt4 (List.mem_of_getElem? (i := 42) rfl)) rfl
set_option maxRecDepth 100000 in
theorem kcX6_two : Cond.code yX6_two cX6_two 6 (some .int) ∈ zgt := zgt_in (zt4 (List.mem_of_getElem? (i := 48) rfl)) rfl
set_option maxRecDepth 100000 in
theorem knX6_two : Cond.instanceMethod yX6_two ∈ zgt := zgt_in (zt4 (List.mem_of_getElem? (i := 46) rfl)) rfl
set_option maxRecDepth 100000 in
theorem ksX6_two : Cond.selects RX6 yX6_two yX6_two ∈ zgt := zgt_in (zt4 (List.mem_of_getElem? (i := 47) rfl)) rfl
set_option maxRecDepth 100000 in
theorem kcX6_whatIs : Cond.code yX6_whatIs cX6_whatIs 7 (some .int) ∈ zgt := zgt_in (zt4 (List.mem_of_getElem? (i := 52) rfl)) rfl
set_option maxRecDepth 100000 in
theorem knX6_whatIs : Cond.instanceMethod yX6_whatIs ∈ zgt := zgt_in (zt4 (List.mem_of_getElem? (i := 50) rfl)) rfl
set_option maxRecDepth 100000 in
theorem ksX6_whatIs : Cond.selects RX6 yX6_whatIs yX6_whatIs ∈ zgt := zgt_in (zt4 (List.mem_of_getElem? (i := 51) rfl)) rfl
set_option maxRecDepth 100000 in
theorem kcX6_row : Cond.code yX6_row cX6_row 3 (some .int) ∈ zgt := zgt_in (zt4 (List.mem_of_getElem? (i := 60) rfl)) rfl
set_option maxRecDepth 100000 in
theorem knX6_row : Cond.instanceMethod yX6_row ∈ zgt := zgt_in (zt4 (List.mem_of_getElem? (i := 58) rfl)) rfl
set_option maxRecDepth 100000 in
theorem ksX6_row : Cond.selects RX6 yX6_row yX6_row ∈ zgt := zgt_in (zt4 (List.mem_of_getElem? (i := 59) rfl)) rfl
set_option maxRecDepth 100000 in
theorem kcX6_judge : Cond.code yX6_judge cX6_judge 3 (some .int) ∈ zgt := zgt_in (zt4 (List.mem_of_getElem? (i := 64) rfl)) rfl
set_option maxRecDepth 100000 in
theorem knX6_judge : Cond.instanceMethod yX6_judge ∈ zgt := zgt_in (zt4 (List.mem_of_getElem? (i := 62) rfl)) rfl
set_option maxRecDepth 100000 in
theorem ksX6_judge : Cond.selects RX6 yX6_judge yX6_judge ∈ zgt := zgt_in (zt4 (List.mem_of_getElem? (i := 63) rfl)) rfl
set_option maxRecDepth 100000 in
theorem kcX6_clear : Cond.code yX6_clear cX6_clear 2 (some .int) ∈ zgt := zgt_in (zt4 (List.mem_of_getElem? (i := 68) rfl)) rfl
set_option maxRecDepth 100000 in
theorem knX6_clear : Cond.instanceMethod yX6_clear ∈ zgt := zgt_in (zt4 (List.mem_of_getElem? (i := 66) rfl)) rfl
set_option maxRecDepth 100000 in
theorem ksX6_clear : Cond.selects RX6 yX6_clear yX6_clear ∈ zgt := zgt_in (zt4 (List.mem_of_getElem? (i := 67) rfl)) rfl
set_option maxRecDepth 100000 in
theorem kcX6_lots : Cond.code yX6_lots cX6_lots 8 (some .int) ∈ zgt := zgt_in (zt4 (List.mem_of_getElem? (i := 72) rfl)) rfl
set_option maxRecDepth 100000 in
theorem knX6_lots : Cond.instanceMethod yX6_lots ∈ zgt := zgt_in (zt4 (List.mem_of_getElem? (i := 70) rfl)) rfl
set_option maxRecDepth 100000 in
theorem ksX6_lots : Cond.selects RX6 yX6_lots yX6_lots ∈ zgt := zgt_in (zt4 (List.mem_of_getElem? (i := 71) rfl)) rfl
set_option maxRecDepth 100000 in
theorem kcX6_image : Cond.code yX6_image cX6_image 1 (some .int) ∈ zgt := zgt_in (zt4 (List.mem_of_getElem? (i := 83) rfl)) rfl
set_option maxRecDepth 100000 in
theorem knX6_image : Cond.instanceMethod yX6_image ∈ zgt := zgt_in (zt4 (List.mem_of_getElem? (i := 81) rfl)) rfl
set_option maxRecDepth 100000 in
theorem ksX6_image : Cond.selects RX6 yX6_image yX6_image ∈ zgt := zgt_in (zt4 (List.mem_of_getElem? (i := 82) rfl)) rfl
set_option maxRecDepth 100000 in
theorem kcX6_on : Cond.code yX6_on cX6_on 1 (some .int) ∈ zgt := zgt_in (zt4 (List.mem_of_getElem? (i := 87) rfl)) rfl
set_option maxRecDepth 100000 in
theorem knX6_on : Cond.instanceMethod yX6_on ∈ zgt := zgt_in (zt4 (List.mem_of_getElem? (i := 85) rfl)) rfl
set_option maxRecDepth 100000 in
theorem ksX6_on : Cond.selects RX6 yX6_on yX6_on ∈ zgt := zgt_in (zt4 (List.mem_of_getElem? (i := 86) rfl)) rfl
set_option maxRecDepth 100000 in
theorem kcX6_count : Cond.code yX6_count cX6_count 2 (some .int) ∈ zgt := zgt_in (zt4 (List.mem_of_getElem? (i := 91) rfl)) rfl
set_option maxRecDepth 100000 in
theorem knX6_count : Cond.instanceMethod yX6_count ∈ zgt := zgt_in (zt4 (List.mem_of_getElem? (i := 89) rfl)) rfl
set_option maxRecDepth 100000 in
theorem ksX6_count : Cond.selects RX6 yX6_count yX6_count ∈ zgt := zgt_in (zt4 (List.mem_of_getElem? (i := 90) rfl)) rfl
set_option maxRecDepth 100000 in
theorem kcX6_refuse : Cond.code yX6_refuse cX6_refuse 2 (some .int) ∈ zgt := zgt_in (zt1 (List.mem_of_getElem? (i := 220) rfl)) rfl
set_option maxRecDepth 100000 in
theorem knX6_refuse : Cond.instanceMethod yX6_refuse ∈ zgt := zgt_in (zt1 (List.mem_of_getElem? (i := 219) rfl)) rfl
set_option maxRecDepth 100000 in
theorem ksX6_refuse : Cond.selects RX6 yX6_refuse yX6_refuse ∈ zgt := zgt_in (zt0 (List.mem_of_getElem? (i := 0) rfl)) rfl
set_option maxRecDepth 100000 in
theorem kcX6_firstOf : Cond.code yX6_firstOf cX6_firstOf 3 (some .int) ∈ zgt := zgt_in (zt1 (List.mem_of_getElem? (i := 216) rfl)) rfl
set_option maxRecDepth 100000 in
theorem ktX6_firstOf : Cond.static yX6_firstOf ∈ zgt := zgt_in (zt1 (List.mem_of_getElem? (i := 215) rfl)) rfl
set_option maxRecDepth 100000 in
theorem kcX6_outside : Cond.code yX6_outside cX6_outside 3 (some .int) ∈ zgt := zgt_in (zt1 (List.mem_of_getElem? (i := 209) rfl)) rfl
set_option maxRecDepth 100000 in
theorem ktX6_outside : Cond.static yX6_outside ∈ zgt := zgt_in (zt1 (List.mem_of_getElem? (i := 208) rfl)) rfl
set_option maxRecDepth 100000 in
theorem kcX6_otherThan : Cond.code yX6_otherThan cX6_otherThan 2 (some .int) ∈ zgt := zgt_in (zt2 (List.mem_of_getElem? (i := 214) rfl)) rfl
set_option maxRecDepth 100000 in
theorem ktX6_otherThan : Cond.static yX6_otherThan ∈ zgt := zgt_in (zt2 (List.mem_of_getElem? (i := 213) rfl)) rfl
set_option maxRecDepth 100000 in
theorem kcX6_nobody : Cond.code yX6_nobody cX6_nobody 2 (some .int) ∈ zgt := zgt_in (zt2 (List.mem_of_getElem? (i := 210) rfl)) rfl
set_option maxRecDepth 100000 in
theorem knX6_nobody : Cond.instanceMethod yX6_nobody ∈ zgt := zgt_in (zt2 (List.mem_of_getElem? (i := 209) rfl)) rfl
set_option maxRecDepth 100000 in
theorem ksX6_nobody : Cond.selects RX6 yX6_nobody yX6_nobody ∈ zgt := zgt_in (zt0 (List.mem_of_getElem? (i := 9) rfl)) rfl
set_option maxRecDepth 100000 in
theorem kcX6_notTwo : Cond.code yX6_notTwo cX6_notTwo 3 (some .int) ∈ zgt := zgt_in (zt2 (List.mem_of_getElem? (i := 229) rfl)) rfl
set_option maxRecDepth 100000 in
theorem knX6_notTwo : Cond.instanceMethod yX6_notTwo ∈ zgt := zgt_in (zt2 (List.mem_of_getElem? (i := 228) rfl)) rfl
set_option maxRecDepth 100000 in
theorem ksX6_notTwo : Cond.selects RX6 yX6_notTwo yX6_notTwo ∈ zgt := zgt_in (zt0 (List.mem_of_getElem? (i := 10) rfl)) rfl
set_option maxRecDepth 100000 in
theorem kcX6_notOdds : Cond.code yX6_notOdds cX6_notOdds 3 (some .int) ∈ zgt := zgt_in (zt4 (List.mem_of_getElem? (i := 18) rfl)) rfl
set_option maxRecDepth 100000 in
theorem ktX6_notOdds : Cond.static yX6_notOdds ∈ zgt := zgt_in (zt4 (List.mem_of_getElem? (i := 17) rfl)) rfl
set_option maxRecDepth 100000 in
theorem kcX6_bit : Cond.code yX6_bit cX6_bit 1 (some .int) ∈ zgt := zgt_in (zt2 (List.mem_of_getElem? (i := 234) rfl)) rfl
set_option maxRecDepth 100000 in
theorem ktX6_bit : Cond.static yX6_bit ∈ zgt := zgt_in (zt2 (List.mem_of_getElem? (i := 233) rfl)) rfl
set_option maxRecDepth 100000 in
theorem kcX6_isIn : Cond.code yX6_isIn cX6_isIn 2 (some .boolean) ∈ zgt := zgt_in (zt2 (List.mem_of_getElem? (i := 145) rfl)) rfl
set_option maxRecDepth 100000 in
theorem ktX6_isIn : Cond.static yX6_isIn ∈ zgt := zgt_in (zt2 (List.mem_of_getElem? (i := 144) rfl)) rfl
set_option maxRecDepth 100000 in
theorem kcX6_thinkAhead : Cond.code yX6_thinkAhead cX6_thinkAhead 2 none ∈ zgt := zgt_in (zt3 (List.mem_of_getElem? (i := 36) rfl)) rfl
set_option maxRecDepth 100000 in
theorem knX6_thinkAhead : Cond.instanceMethod yX6_thinkAhead ∈ zgt := zgt_in (zt3 (List.mem_of_getElem? (i := 35) rfl)) rfl
set_option maxRecDepth 100000 in
theorem ksX6_thinkAhead : Cond.selects RX6 yX6_thinkAhead yX6_thinkAhead ∈ zgt := zgt_in (zt0 (List.mem_of_getElem? (i := 11) rfl)) rfl
set_option maxRecDepth 100000 in
theorem kcX6_steadyAfter : Cond.code yX6_steadyAfter cX6_steadyAfter 2 (some .int) ∈ zgt := zgt_in (zt3 (List.mem_of_getElem? (i := 57) rfl)) rfl
set_option maxRecDepth 100000 in
theorem knX6_steadyAfter : Cond.instanceMethod yX6_steadyAfter ∈ zgt := zgt_in (zt3 (List.mem_of_getElem? (i := 56) rfl)) rfl
set_option maxRecDepth 100000 in
theorem ksX6_steadyAfter : Cond.selects RX6 yX6_steadyAfter yX6_steadyAfter ∈ zgt := zgt_in (zt0 (List.mem_of_getElem? (i := 12) rfl)) rfl
set_option maxRecDepth 100000 in
theorem kcX6_firstRuin : Cond.code yX6_firstRuin cX6_firstRuin 4 (some .int) ∈ zgt := zgt_in (zt3 (List.mem_of_getElem? (i := 65) rfl)) rfl
set_option maxRecDepth 100000 in
theorem knX6_firstRuin : Cond.instanceMethod yX6_firstRuin ∈ zgt := zgt_in (zt3 (List.mem_of_getElem? (i := 64) rfl)) rfl
set_option maxRecDepth 100000 in
theorem ksX6_firstRuin : Cond.selects RX6 yX6_firstRuin yX6_firstRuin ∈ zgt := zgt_in (zt0 (List.mem_of_getElem? (i := 13) rfl)) rfl
set_option maxRecDepth 100000 in
theorem kcX6_bestChange : Cond.code yX6_bestChange cX6_bestChange 8 (some .int) ∈ zgt := zgt_in (zt3 (List.mem_of_getElem? (i := 138) rfl)) rfl
set_option maxRecDepth 100000 in
theorem knX6_bestChange : Cond.instanceMethod yX6_bestChange ∈ zgt := zgt_in (zt3 (List.mem_of_getElem? (i := 137) rfl)) rfl
set_option maxRecDepth 100000 in
theorem ksX6_bestChange : Cond.selects RX6 yX6_bestChange yX6_bestChange ∈ zgt := zgt_in (zt0 (List.mem_of_getElem? (i := 16) rfl)) rfl
set_option maxRecDepth 100000 in
theorem kcX6_mayChange : Cond.code yX6_mayChange cX6_mayChange 4 (some .boolean) ∈ zgt := zgt_in (zt3 (List.mem_of_getElem? (i := 142) rfl)) rfl
set_option maxRecDepth 100000 in
theorem knX6_mayChange : Cond.instanceMethod yX6_mayChange ∈ zgt := zgt_in (zt3 (List.mem_of_getElem? (i := 141) rfl)) rfl
set_option maxRecDepth 100000 in
theorem ksX6_mayChange : Cond.selects RX6 yX6_mayChange yX6_mayChange ∈ zgt := zgt_in (zt0 (List.mem_of_getElem? (i := 17) rfl)) rfl
set_option maxRecDepth 100000 in
theorem kcX6_makeChange : Cond.code yX6_makeChange cX6_makeChange 4 none ∈ zgt := zgt_in (zt3 (List.mem_of_getElem? (i := 146) rfl)) rfl
set_option maxRecDepth 100000 in
theorem knX6_makeChange : Cond.instanceMethod yX6_makeChange ∈ zgt := zgt_in (zt3 (List.mem_of_getElem? (i := 145) rfl)) rfl
set_option maxRecDepth 100000 in
theorem ksX6_makeChange : Cond.selects RX6 yX6_makeChange yX6_makeChange ∈ zgt := zgt_in (zt0 (List.mem_of_getElem? (i := 18) rfl)) rfl
set_option maxRecDepth 100000 in
theorem kcX6_wealthWithFeud : Cond.code yX6_wealthWithFeud cX6_wealthWithFeud 5 (some .int) ∈ zgt := zgt_in (zt3 (List.mem_of_getElem? (i := 168) rfl)) rfl
set_option maxRecDepth 100000 in
theorem knX6_wealthWithFeud : Cond.instanceMethod yX6_wealthWithFeud ∈ zgt := zgt_in (zt3 (List.mem_of_getElem? (i := 167) rfl)) rfl
set_option maxRecDepth 100000 in
theorem ksX6_wealthWithFeud : Cond.selects RX6 yX6_wealthWithFeud yX6_wealthWithFeud ∈ zgt := zgt_in (zt0 (List.mem_of_getElem? (i := 20) rfl)) rfl
set_option maxRecDepth 100000 in
theorem kcX6_goesAsTold : Cond.code yX6_goesAsTold cX6_goesAsTold 3 (some .boolean) ∈ zgt := zgt_in (zt4 (List.mem_of_getElem? (i := 56) rfl)) rfl
set_option maxRecDepth 100000 in
theorem knX6_goesAsTold : Cond.instanceMethod yX6_goesAsTold ∈ zgt := zgt_in (zt4 (List.mem_of_getElem? (i := 55) rfl)) rfl
set_option maxRecDepth 100000 in
theorem ksX6_goesAsTold : Cond.selects RX6 yX6_goesAsTold yX6_goesAsTold ∈ zgt := zgt_in (zt0 (List.mem_of_getElem? (i := 27) rfl)) rfl
set_option maxRecDepth 100000 in
theorem kcX6_drawSignings : Cond.code yX6_drawSignings cX6_drawSignings 6 (some .int) ∈ zgt := zgt_in (zt4 (List.mem_of_getElem? (i := 76) rfl)) rfl
set_option maxRecDepth 100000 in
theorem knX6_drawSignings : Cond.instanceMethod yX6_drawSignings ∈ zgt := zgt_in (zt4 (List.mem_of_getElem? (i := 75) rfl)) rfl
set_option maxRecDepth 100000 in
theorem ksX6_drawSignings : Cond.selects RX6 yX6_drawSignings yX6_drawSignings ∈ zgt := zgt_in (zt0 (List.mem_of_getElem? (i := 28) rfl)) rfl
set_option maxRecDepth 100000 in
theorem kcX6_partOf : Cond.code yX6_partOf cX6_partOf 7 (some .long) ∈ zgt := zgt_in (zt4 (List.mem_of_getElem? (i := 36) rfl)) rfl
set_option maxRecDepth 100000 in
theorem ktX6_partOf : Cond.static yX6_partOf ∈ zgt := zgt_in (zt4 (List.mem_of_getElem? (i := 35) rfl)) rfl
set_option maxRecDepth 100000 in
theorem kcX6_commonDivisor : Cond.code yX6_commonDivisor cX6_commonDivisor 11 (some .long) ∈ zgt := zgt_in (zt4 (List.mem_of_getElem? (i := 39) rfl)) rfl
set_option maxRecDepth 100000 in
theorem ktX6_commonDivisor : Cond.static yX6_commonDivisor ∈ zgt := zgt_in (zt4 (List.mem_of_getElem? (i := 38) rfl)) rfl
set_option maxRecDepth 100000 in
theorem kcX7_init : Cond.code yX7_init cX7_init 1 none ∈ zgt := zgt_in (zt4 (List.mem_of_getElem? (i := 104) rfl)) rfl
set_option maxRecDepth 100000 in
theorem knX7_init : Cond.instanceMethod yX7_init ∈ zgt := zgt_in (zt4 (List.mem_of_getElem? (i := 103) rfl)) rfl
set_option maxRecDepth 100000 in
theorem kcX7_no : Cond.code yX7_no cX7_no 2 (some .int) ∈ zgt := zgt_in (zt4 (List.mem_of_getElem? (i := 201) rfl)) rfl
set_option maxRecDepth 100000 in
theorem knX7_no : Cond.instanceMethod yX7_no ∈ zgt := zgt_in (zt4 (List.mem_of_getElem? (i := 200) rfl)) rfl
set_option maxRecDepth 100000 in
theorem ksX7_no : Cond.selects RX7 yX7_no yX7_no ∈ zgt := zgt_in (zt0 (List.mem_of_getElem? (i := 29) rfl)) rfl
set_option maxRecDepth 100000 in
theorem kcX7_lower : Cond.code yX7_lower cX7_lower 2 (some .int) ∈ zgt := zgt_in (zt5 (List.mem_of_getElem? (i := 219) rfl)) rfl
set_option maxRecDepth 100000 in
theorem knX7_lower : Cond.instanceMethod yX7_lower ∈ zgt := zgt_in (zt5 (List.mem_of_getElem? (i := 218) rfl)) rfl
set_option maxRecDepth 100000 in
theorem ksX7_lower : Cond.selects RX7 yX7_lower yX7_lower ∈ zgt := zgt_in (zt0 (List.mem_of_getElem? (i := 65) rfl)) rfl
set_option maxRecDepth 100000 in
theorem kcX7_lowestOf : Cond.code yX7_lowestOf cX7_lowestOf 2 (some .long) ∈ zgt := zgt_in (zt6 (List.mem_of_getElem? (i := 62) rfl)) rfl
set_option maxRecDepth 100000 in
theorem knX7_lowestOf : Cond.instanceMethod yX7_lowestOf ∈ zgt := zgt_in (zt6 (List.mem_of_getElem? (i := 61) rfl)) rfl
set_option maxRecDepth 100000 in
theorem ksX7_lowestOf : Cond.selects RX7 yX7_lowestOf yX7_lowestOf ∈ zgt := zgt_in (zt0 (List.mem_of_getElem? (i := 77) rfl)) rfl
set_option maxRecDepth 100000 in
theorem kcX7_isIn : Cond.code yX7_isIn cX7_isIn 3 (some .boolean) ∈ zgt := zgt_in (zt4 (List.mem_of_getElem? (i := 231) rfl)) rfl
set_option maxRecDepth 100000 in
theorem ktX7_isIn : Cond.static yX7_isIn ∈ zgt := zgt_in (zt4 (List.mem_of_getElem? (i := 230) rfl)) rfl
set_option maxRecDepth 100000 in
theorem kcX7_bound : Cond.code yX7_bound cX7_bound 3 (some .int) ∈ zgt := zgt_in (zt4 (List.mem_of_getElem? (i := 197) rfl)) rfl
set_option maxRecDepth 100000 in
theorem ktX7_bound : Cond.static yX7_bound ∈ zgt := zgt_in (zt4 (List.mem_of_getElem? (i := 196) rfl)) rfl
set_option maxRecDepth 100000 in
theorem kcX7_has : Cond.code yX7_has cX7_has 2 (some .boolean) ∈ zgt := zgt_in (zt5 (List.mem_of_getElem? (i := 34) rfl)) rfl
set_option maxRecDepth 100000 in
theorem ktX7_has : Cond.static yX7_has ∈ zgt := zgt_in (zt5 (List.mem_of_getElem? (i := 33) rfl)) rfl
set_option maxRecDepth 100000 in
theorem kcX7_bits : Cond.code yX7_bits cX7_bits 3 (some .int) ∈ zgt := zgt_in (zt5 (List.mem_of_getElem? (i := 73) rfl)) rfl
set_option maxRecDepth 100000 in
theorem ktX7_bits : Cond.static yX7_bits ∈ zgt := zgt_in (zt5 (List.mem_of_getElem? (i := 72) rfl)) rfl
set_option maxRecDepth 100000 in
theorem kcX7_isOne : Cond.code yX7_isOne cX7_isOne 2 (some .boolean) ∈ zgt := zgt_in (zt5 (List.mem_of_getElem? (i := 15) rfl)) rfl
set_option maxRecDepth 100000 in
theorem knX7_isOne : Cond.instanceMethod yX7_isOne ∈ zgt := zgt_in (zt5 (List.mem_of_getElem? (i := 14) rfl)) rfl
set_option maxRecDepth 100000 in
theorem ksX7_isOne : Cond.selects RX7 yX7_isOne yX7_isOne ∈ zgt := zgt_in (zt0 (List.mem_of_getElem? (i := 40) rfl)) rfl
set_option maxRecDepth 100000 in
theorem kcX7_areTwo : Cond.code yX7_areTwo cX7_areTwo 3 (some .boolean) ∈ zgt := zgt_in (zt5 (List.mem_of_getElem? (i := 50) rfl)) rfl
set_option maxRecDepth 100000 in
theorem knX7_areTwo : Cond.instanceMethod yX7_areTwo ∈ zgt := zgt_in (zt5 (List.mem_of_getElem? (i := 49) rfl)) rfl
set_option maxRecDepth 100000 in
theorem ksX7_areTwo : Cond.selects RX7 yX7_areTwo yX7_areTwo ∈ zgt := zgt_in (zt0 (List.mem_of_getElem? (i := 48) rfl)) rfl
set_option maxRecDepth 100000 in
theorem kcX7_isKin : Cond.code yX7_isKin cX7_isKin 3 (some .boolean) ∈ zgt := zgt_in (zt5 (List.mem_of_getElem? (i := 31) rfl)) rfl
set_option maxRecDepth 100000 in
theorem knX7_isKin : Cond.instanceMethod yX7_isKin ∈ zgt := zgt_in (zt5 (List.mem_of_getElem? (i := 30) rfl)) rfl
set_option maxRecDepth 100000 in
theorem ksX7_isKin : Cond.selects RX7 yX7_isKin yX7_isKin ∈ zgt := zgt_in (zt0 (List.mem_of_getElem? (i := 44) rfl)) rfl
set_option maxRecDepth 100000 in
theorem kcX7_kinOf : Cond.code yX7_kinOf cX7_kinOf 4 (some .int) ∈ zgt := zgt_in (zt5 (List.mem_of_getElem? (i := 70) rfl)) rfl
set_option maxRecDepth 100000 in
theorem knX7_kinOf : Cond.instanceMethod yX7_kinOf ∈ zgt := zgt_in (zt5 (List.mem_of_getElem? (i := 69) rfl)) rfl
set_option maxRecDepth 100000 in
theorem ksX7_kinOf : Cond.selects RX7 yX7_kinOf yX7_kinOf ∈ zgt := zgt_in (zt0 (List.mem_of_getElem? (i := 50) rfl)) rfl
set_option maxRecDepth 100000 in
theorem kcX7_letter : Cond.code yX7_letter cX7_letter 3 (some .int) ∈ zgt := zgt_in (zt4 (List.mem_of_getElem? (i := 194) rfl)) rfl
set_option maxRecDepth 100000 in
theorem knX7_letter : Cond.instanceMethod yX7_letter ∈ zgt := zgt_in (zt4 (List.mem_of_getElem? (i := 192) rfl)) rfl
set_option maxRecDepth 100000 in
theorem ksX7_letter : Cond.selects RX7 yX7_letter yX7_letter ∈ zgt := zgt_in (zt4 (List.mem_of_getElem? (i := 193) rfl)) rfl
set_option maxRecDepth 100000 in
theorem kcX7_next : Cond.code yX7_next cX7_next 1 (some .int) ∈ zgt := zgt_in (zt4 (List.mem_of_getElem? (i := 213) rfl)) rfl
set_option maxRecDepth 100000 in
theorem knX7_next : Cond.instanceMethod yX7_next ∈ zgt := zgt_in (zt4 (List.mem_of_getElem? (i := 212) rfl)) rfl
set_option maxRecDepth 100000 in
theorem ksX7_next : Cond.selects RX7 yX7_next yX7_next ∈ zgt := zgt_in (zt0 (List.mem_of_getElem? (i := 31) rfl)) rfl
set_option maxRecDepth 100000 in
theorem kcX7_readsDigits : Cond.code yX7_readsDigits cX7_readsDigits 5 (some .boolean) ∈ zgt := zgt_in (zt4 (List.mem_of_getElem? (i := 228) rfl)) rfl
set_option maxRecDepth 100000 in
theorem knX7_readsDigits : Cond.instanceMethod yX7_readsDigits ∈ zgt := zgt_in (zt4 (List.mem_of_getElem? (i := 227) rfl)) rfl
set_option maxRecDepth 100000 in
theorem ksX7_readsDigits : Cond.selects RX7 yX7_readsDigits yX7_readsDigits ∈ zgt := zgt_in (zt0 (List.mem_of_getElem? (i := 34) rfl)) rfl
set_option maxRecDepth 100000 in
theorem kcX7_kindOf : Cond.code yX7_kindOf cX7_kindOf 1 (some .int) ∈ zgt := zgt_in (zt4 (List.mem_of_getElem? (i := 224) rfl)) rfl
set_option maxRecDepth 100000 in
theorem ktX7_kindOf : Cond.static yX7_kindOf ∈ zgt := zgt_in (zt4 (List.mem_of_getElem? (i := 223) rfl)) rfl
set_option maxRecDepth 100000 in
theorem kcX7_readsOne : Cond.code yX7_readsOne cX7_readsOne 2 (some .boolean) ∈ zgt := zgt_in (zt4 (List.mem_of_getElem? (i := 221) rfl)) rfl
set_option maxRecDepth 100000 in
theorem knX7_readsOne : Cond.instanceMethod yX7_readsOne ∈ zgt := zgt_in (zt4 (List.mem_of_getElem? (i := 220) rfl)) rfl
set_option maxRecDepth 100000 in
theorem ksX7_readsOne : Cond.selects RX7 yX7_readsOne yX7_readsOne ∈ zgt := zgt_in (zt0 (List.mem_of_getElem? (i := 33) rfl)) rfl
set_option maxRecDepth 100000 in
theorem kcX7_readsAll : Cond.code yX7_readsAll cX7_readsAll 3 (some .boolean) ∈ zgt := zgt_in (zt4 (List.mem_of_getElem? (i := 217) rfl)) rfl
set_option maxRecDepth 100000 in
theorem knX7_readsAll : Cond.instanceMethod yX7_readsAll ∈ zgt := zgt_in (zt4 (List.mem_of_getElem? (i := 216) rfl)) rfl
set_option maxRecDepth 100000 in
theorem ksX7_readsAll : Cond.selects RX7 yX7_readsAll yX7_readsAll ∈ zgt := zgt_in (zt0 (List.mem_of_getElem? (i := 32) rfl)) rfl
set_option maxRecDepth 100000 in
theorem kcX7_statement : Cond.code yX7_statement cX7_statement 2 (some .boolean) ∈ zgt := zgt_in (zt4 (List.mem_of_getElem? (i := 209) rfl)) rfl
set_option maxRecDepth 100000 in
theorem knX7_statement : Cond.instanceMethod yX7_statement ∈ zgt := zgt_in (zt4 (List.mem_of_getElem? (i := 208) rfl)) rfl
set_option maxRecDepth 100000 in
theorem ksX7_statement : Cond.selects RX7 yX7_statement yX7_statement ∈ zgt := zgt_in (zt0 (List.mem_of_getElem? (i := 30) rfl)) rfl
set_option maxRecDepth 100000 in
theorem kcX7_comesTie : Cond.code yX7_comesTie cX7_comesTie 4 (some .boolean) ∈ zgt := zgt_in (zt5 (List.mem_of_getElem? (i := 46) rfl)) rfl
set_option maxRecDepth 100000 in
theorem knX7_comesTie : Cond.instanceMethod yX7_comesTie ∈ zgt := zgt_in (zt5 (List.mem_of_getElem? (i := 45) rfl)) rfl
set_option maxRecDepth 100000 in
theorem ksX7_comesTie : Cond.selects RX7 yX7_comesTie yX7_comesTie ∈ zgt := zgt_in (zt0 (List.mem_of_getElem? (i := 47) rfl)) rfl
set_option maxRecDepth 100000 in
theorem kcX7_comesYears : Cond.code yX7_comesYears cX7_comesYears 2 (some .boolean) ∈ zgt := zgt_in (zt5 (List.mem_of_getElem? (i := 19) rfl)) rfl
set_option maxRecDepth 100000 in
theorem knX7_comesYears : Cond.instanceMethod yX7_comesYears ∈ zgt := zgt_in (zt5 (List.mem_of_getElem? (i := 18) rfl)) rfl
set_option maxRecDepth 100000 in
theorem ksX7_comesYears : Cond.selects RX7 yX7_comesYears yX7_comesYears ∈ zgt := zgt_in (zt0 (List.mem_of_getElem? (i := 41) rfl)) rfl
set_option maxRecDepth 100000 in
theorem kcX7_comes : Cond.code yX7_comes cX7_comes 3 (some .boolean) ∈ zgt := zgt_in (zt5 (List.mem_of_getElem? (i := 7) rfl)) rfl
set_option maxRecDepth 100000 in
theorem knX7_comes : Cond.instanceMethod yX7_comes ∈ zgt := zgt_in (zt5 (List.mem_of_getElem? (i := 6) rfl)) rfl
set_option maxRecDepth 100000 in
theorem ksX7_comes : Cond.selects RX7 yX7_comes yX7_comes ∈ zgt := zgt_in (zt0 (List.mem_of_getElem? (i := 38) rfl)) rfl
set_option maxRecDepth 100000 in
theorem kcX7_county : Cond.code yX7_county cX7_county 3 (some .int) ∈ zgt := zgt_in (zt4 (List.mem_of_getElem? (i := 205) rfl)) rfl
set_option maxRecDepth 100000 in
theorem knX7_county : Cond.instanceMethod yX7_county ∈ zgt := zgt_in (zt4 (List.mem_of_getElem? (i := 203) rfl)) rfl
set_option maxRecDepth 100000 in
theorem ksX7_county : Cond.selects RX7 yX7_county yX7_county ∈ zgt := zgt_in (zt4 (List.mem_of_getElem? (i := 204) rfl)) rfl
set_option maxRecDepth 100000 in
theorem kcX7_passes : Cond.code yX7_passes cX7_passes 3 none ∈ zgt := zgt_in (zt4 (List.mem_of_getElem? (i := 239) rfl)) rfl
set_option maxRecDepth 100000 in
theorem knX7_passes : Cond.instanceMethod yX7_passes ∈ zgt := zgt_in (zt4 (List.mem_of_getElem? (i := 238) rfl)) rfl
set_option maxRecDepth 100000 in
theorem ksX7_passes : Cond.selects RX7 yX7_passes yX7_passes ∈ zgt := zgt_in (zt0 (List.mem_of_getElem? (i := 36) rfl)) rfl
set_option maxRecDepth 100000 in
theorem kcX7_passOne : Cond.code yX7_passOne cX7_passOne 3 (some .int) ∈ zgt := zgt_in (zt5 (List.mem_of_getElem? (i := 3) rfl)) rfl
set_option maxRecDepth 100000 in
theorem knX7_passOne : Cond.instanceMethod yX7_passOne ∈ zgt := zgt_in (zt5 (List.mem_of_getElem? (i := 2) rfl)) rfl
set_option maxRecDepth 100000 in
theorem ksX7_passOne : Cond.selects RX7 yX7_passOne yX7_passOne ∈ zgt := zgt_in (zt0 (List.mem_of_getElem? (i := 37) rfl)) rfl
set_option maxRecDepth 100000 in
theorem kcX7_passesAll : Cond.code yX7_passesAll cX7_passesAll 3 none ∈ zgt := zgt_in (zt4 (List.mem_of_getElem? (i := 235) rfl)) rfl
set_option maxRecDepth 100000 in
theorem knX7_passesAll : Cond.instanceMethod yX7_passesAll ∈ zgt := zgt_in (zt4 (List.mem_of_getElem? (i := 234) rfl)) rfl
set_option maxRecDepth 100000 in
theorem ksX7_passesAll : Cond.selects RX7 yX7_passesAll yX7_passesAll ∈ zgt := zgt_in (zt0 (List.mem_of_getElem? (i := 35) rfl)) rfl
set_option maxRecDepth 100000 in
theorem kcX7_thinks : Cond.code yX7_thinks cX7_thinks 1 none ∈ zgt := zgt_in (zt5 (List.mem_of_getElem? (i := 116) rfl)) rfl
set_option maxRecDepth 100000 in
theorem knX7_thinks : Cond.instanceMethod yX7_thinks ∈ zgt := zgt_in (zt5 (List.mem_of_getElem? (i := 115) rfl)) rfl
set_option maxRecDepth 100000 in
theorem ksX7_thinks : Cond.selects RX7 yX7_thinks yX7_thinks ∈ zgt := zgt_in (zt0 (List.mem_of_getElem? (i := 53) rfl)) rfl
set_option maxRecDepth 100000 in
theorem kcX7_forgets : Cond.code yX7_forgets cX7_forgets 1 none ∈ zgt := zgt_in (zt5 (List.mem_of_getElem? (i := 120) rfl)) rfl
set_option maxRecDepth 100000 in
theorem knX7_forgets : Cond.instanceMethod yX7_forgets ∈ zgt := zgt_in (zt5 (List.mem_of_getElem? (i := 119) rfl)) rfl
set_option maxRecDepth 100000 in
theorem ksX7_forgets : Cond.selects RX7 yX7_forgets yX7_forgets ∈ zgt := zgt_in (zt0 (List.mem_of_getElem? (i := 54) rfl)) rfl
set_option maxRecDepth 100000 in
theorem kcX7_changes : Cond.code yX7_changes cX7_changes 1 none ∈ zgt := zgt_in (zt6 (List.mem_of_getElem? (i := 35) rfl)) rfl
set_option maxRecDepth 100000 in
theorem knX7_changes : Cond.instanceMethod yX7_changes ∈ zgt := zgt_in (zt6 (List.mem_of_getElem? (i := 34) rfl)) rfl
set_option maxRecDepth 100000 in
theorem ksX7_changes : Cond.selects RX7 yX7_changes yX7_changes ∈ zgt := zgt_in (zt0 (List.mem_of_getElem? (i := 73) rfl)) rfl
set_option maxRecDepth 100000 in
theorem kcX7_changesBack : Cond.code yX7_changesBack cX7_changesBack 1 none ∈ zgt := zgt_in (zt6 (List.mem_of_getElem? (i := 46) rfl)) rfl
set_option maxRecDepth 100000 in
theorem knX7_changesBack : Cond.instanceMethod yX7_changesBack ∈ zgt := zgt_in (zt6 (List.mem_of_getElem? (i := 45) rfl)) rfl
set_option maxRecDepth 100000 in
theorem ksX7_changesBack : Cond.selects RX7 yX7_changesBack yX7_changesBack ∈ zgt := zgt_in (zt0 (List.mem_of_getElem? (i := 75) rfl)) rfl
set_option maxRecDepth 100000 in
theorem kcX7_image : Cond.code yX7_image cX7_image 1 (some .int) ∈ zgt := zgt_in (zt5 (List.mem_of_getElem? (i := 58) rfl)) rfl
set_option maxRecDepth 100000 in
theorem knX7_image : Cond.instanceMethod yX7_image ∈ zgt := zgt_in (zt5 (List.mem_of_getElem? (i := 56) rfl)) rfl
set_option maxRecDepth 100000 in
theorem ksX7_image : Cond.selects RX7 yX7_image yX7_image ∈ zgt := zgt_in (zt5 (List.mem_of_getElem? (i := 57) rfl)) rfl
set_option maxRecDepth 100000 in
theorem kcX7_on : Cond.code yX7_on cX7_on 1 (some .int) ∈ zgt := zgt_in (zt5 (List.mem_of_getElem? (i := 62) rfl)) rfl
set_option maxRecDepth 100000 in
theorem knX7_on : Cond.instanceMethod yX7_on ∈ zgt := zgt_in (zt5 (List.mem_of_getElem? (i := 60) rfl)) rfl
set_option maxRecDepth 100000 in
theorem ksX7_on : Cond.selects RX7 yX7_on yX7_on ∈ zgt := zgt_in (zt5 (List.mem_of_getElem? (i := 61) rfl)) rfl
set_option maxRecDepth 100000 in
theorem kcX7_adds : Cond.code yX7_adds cX7_adds 4 none ∈ zgt := zgt_in (zt5 (List.mem_of_getElem? (i := 11) rfl)) rfl
set_option maxRecDepth 100000 in
theorem knX7_adds : Cond.instanceMethod yX7_adds ∈ zgt := zgt_in (zt5 (List.mem_of_getElem? (i := 10) rfl)) rfl
set_option maxRecDepth 100000 in
theorem ksX7_adds : Cond.selects RX7 yX7_adds yX7_adds ∈ zgt := zgt_in (zt0 (List.mem_of_getElem? (i := 39) rfl)) rfl
set_option maxRecDepth 100000 in
theorem kcX7_turnsFeud : Cond.code yX7_turnsFeud cX7_turnsFeud 3 none ∈ zgt := zgt_in (zt5 (List.mem_of_getElem? (i := 54) rfl)) rfl
set_option maxRecDepth 100000 in
theorem knX7_turnsFeud : Cond.instanceMethod yX7_turnsFeud ∈ zgt := zgt_in (zt5 (List.mem_of_getElem? (i := 53) rfl)) rfl
set_option maxRecDepth 100000 in
theorem ksX7_turnsFeud : Cond.selects RX7 yX7_turnsFeud yX7_turnsFeud ∈ zgt := zgt_in (zt0 (List.mem_of_getElem? (i := 49) rfl)) rfl
set_option maxRecDepth 100000 in
theorem kcX7_paysOf : Cond.code yX7_paysOf cX7_paysOf 5 (some .int) ∈ zgt := zgt_in (zt5 (List.mem_of_getElem? (i := 42) rfl)) rfl
set_option maxRecDepth 100000 in
theorem knX7_paysOf : Cond.instanceMethod yX7_paysOf ∈ zgt := zgt_in (zt5 (List.mem_of_getElem? (i := 41) rfl)) rfl
set_option maxRecDepth 100000 in
theorem ksX7_paysOf : Cond.selects RX7 yX7_paysOf yX7_paysOf ∈ zgt := zgt_in (zt0 (List.mem_of_getElem? (i := 46) rfl)) rfl
set_option maxRecDepth 100000 in
theorem kcX7_pays : Cond.code yX7_pays cX7_pays 4 none ∈ zgt := zgt_in (zt5 (List.mem_of_getElem? (i := 38) rfl)) rfl
set_option maxRecDepth 100000 in
theorem knX7_pays : Cond.instanceMethod yX7_pays ∈ zgt := zgt_in (zt5 (List.mem_of_getElem? (i := 37) rfl)) rfl
set_option maxRecDepth 100000 in
theorem ksX7_pays : Cond.selects RX7 yX7_pays yX7_pays ∈ zgt := zgt_in (zt0 (List.mem_of_getElem? (i := 45) rfl)) rfl
set_option maxRecDepth 100000 in
theorem kcX7_goesYear : Cond.code yX7_goesYear cX7_goesYear 3 none ∈ zgt := zgt_in (zt5 (List.mem_of_getElem? (i := 27) rfl)) rfl
set_option maxRecDepth 100000 in
theorem knX7_goesYear : Cond.instanceMethod yX7_goesYear ∈ zgt := zgt_in (zt5 (List.mem_of_getElem? (i := 26) rfl)) rfl
set_option maxRecDepth 100000 in
theorem ksX7_goesYear : Cond.selects RX7 yX7_goesYear yX7_goesYear ∈ zgt := zgt_in (zt0 (List.mem_of_getElem? (i := 43) rfl)) rfl
set_option maxRecDepth 100000 in
theorem kcX7_goes : Cond.code yX7_goes cX7_goes 3 none ∈ zgt := zgt_in (zt5 (List.mem_of_getElem? (i := 23) rfl)) rfl
set_option maxRecDepth 100000 in
theorem knX7_goes : Cond.instanceMethod yX7_goes ∈ zgt := zgt_in (zt5 (List.mem_of_getElem? (i := 22) rfl)) rfl
set_option maxRecDepth 100000 in
theorem ksX7_goes : Cond.selects RX7 yX7_goes yX7_goes ∈ zgt := zgt_in (zt0 (List.mem_of_getElem? (i := 42) rfl)) rfl
set_option maxRecDepth 100000 in
theorem kcX7_wealth : Cond.code yX7_wealth cX7_wealth 3 (some .int) ∈ zgt := zgt_in (zt5 (List.mem_of_getElem? (i := 101) rfl)) rfl
set_option maxRecDepth 100000 in
theorem knX7_wealth : Cond.instanceMethod yX7_wealth ∈ zgt := zgt_in (zt5 (List.mem_of_getElem? (i := 100) rfl)) rfl
set_option maxRecDepth 100000 in
theorem ksX7_wealth : Cond.selects RX7 yX7_wealth yX7_wealth ∈ zgt := zgt_in (zt0 (List.mem_of_getElem? (i := 51) rfl)) rfl
set_option maxRecDepth 100000 in
theorem kcX7_twosOfKin : Cond.code yX7_twosOfKin cX7_twosOfKin 3 (some .int) ∈ zgt := zgt_in (zt6 (List.mem_of_getElem? (i := 54) rfl)) rfl
set_option maxRecDepth 100000 in
theorem knX7_twosOfKin : Cond.instanceMethod yX7_twosOfKin ∈ zgt := zgt_in (zt6 (List.mem_of_getElem? (i := 53) rfl)) rfl
set_option maxRecDepth 100000 in
theorem ksX7_twosOfKin : Cond.selects RX7 yX7_twosOfKin yX7_twosOfKin ∈ zgt := zgt_in (zt0 (List.mem_of_getElem? (i := 76) rfl)) rfl
set_option maxRecDepth 100000 in
theorem kcX7_person : Cond.code yX7_person cX7_person 3 (some .int) ∈ zgt := zgt_in (zt5 (List.mem_of_getElem? (i := 66) rfl)) rfl
set_option maxRecDepth 100000 in
theorem knX7_person : Cond.instanceMethod yX7_person ∈ zgt := zgt_in (zt5 (List.mem_of_getElem? (i := 64) rfl)) rfl
set_option maxRecDepth 100000 in
theorem ksX7_person : Cond.selects RX7 yX7_person yX7_person ∈ zgt := zgt_in (zt5 (List.mem_of_getElem? (i := 65) rfl)) rfl
set_option maxRecDepth 100000 in
theorem kcX7_tie : Cond.code yX7_tie cX7_tie 4 (some .int) ∈ zgt := zgt_in (zt5 (List.mem_of_getElem? (i := 77) rfl)) rfl
set_option maxRecDepth 100000 in
theorem knX7_tie : Cond.instanceMethod yX7_tie ∈ zgt := zgt_in (zt5 (List.mem_of_getElem? (i := 75) rfl)) rfl
set_option maxRecDepth 100000 in
theorem ksX7_tie : Cond.selects RX7 yX7_tie yX7_tie ∈ zgt := zgt_in (zt5 (List.mem_of_getElem? (i := 76) rfl)) rfl
set_option maxRecDepth 100000 in
theorem kcX7_signs : Cond.code yX7_signs cX7_signs 3 (some .int) ∈ zgt := zgt_in (zt5 (List.mem_of_getElem? (i := 81) rfl)) rfl
set_option maxRecDepth 100000 in
theorem knX7_signs : Cond.instanceMethod yX7_signs ∈ zgt := zgt_in (zt5 (List.mem_of_getElem? (i := 79) rfl)) rfl
set_option maxRecDepth 100000 in
theorem ksX7_signs : Cond.selects RX7 yX7_signs yX7_signs ∈ zgt := zgt_in (zt5 (List.mem_of_getElem? (i := 80) rfl)) rfl
set_option maxRecDepth 100000 in
theorem kcX7_feuds : Cond.code yX7_feuds cX7_feuds 3 (some .int) ∈ zgt := zgt_in (zt5 (List.mem_of_getElem? (i := 85) rfl)) rfl
set_option maxRecDepth 100000 in
theorem knX7_feuds : Cond.instanceMethod yX7_feuds ∈ zgt := zgt_in (zt5 (List.mem_of_getElem? (i := 83) rfl)) rfl
set_option maxRecDepth 100000 in
theorem ksX7_feuds : Cond.selects RX7 yX7_feuds yX7_feuds ∈ zgt := zgt_in (zt5 (List.mem_of_getElem? (i := 84) rfl)) rfl
set_option maxRecDepth 100000 in
theorem kcX7_gets : Cond.code yX7_gets cX7_gets 5 (some .int) ∈ zgt := zgt_in (zt5 (List.mem_of_getElem? (i := 89) rfl)) rfl
set_option maxRecDepth 100000 in
theorem knX7_gets : Cond.instanceMethod yX7_gets ∈ zgt := zgt_in (zt5 (List.mem_of_getElem? (i := 87) rfl)) rfl
set_option maxRecDepth 100000 in
theorem ksX7_gets : Cond.selects RX7 yX7_gets yX7_gets ∈ zgt := zgt_in (zt5 (List.mem_of_getElem? (i := 88) rfl)) rfl
set_option maxRecDepth 100000 in
theorem kcX7_turn : Cond.code yX7_turn cX7_turn 6 (some .int) ∈ zgt := zgt_in (zt5 (List.mem_of_getElem? (i := 93) rfl)) rfl
set_option maxRecDepth 100000 in
theorem knX7_turn : Cond.instanceMethod yX7_turn ∈ zgt := zgt_in (zt5 (List.mem_of_getElem? (i := 91) rfl)) rfl
set_option maxRecDepth 100000 in
theorem ksX7_turn : Cond.selects RX7 yX7_turn yX7_turn ∈ zgt := zgt_in (zt5 (List.mem_of_getElem? (i := 92) rfl)) rfl
set_option maxRecDepth 100000 in
theorem kcX7_years : Cond.code yX7_years cX7_years 3 (some .int) ∈ zgt := zgt_in (zt5 (List.mem_of_getElem? (i := 97) rfl)) rfl
set_option maxRecDepth 100000 in
theorem knX7_years : Cond.instanceMethod yX7_years ∈ zgt := zgt_in (zt5 (List.mem_of_getElem? (i := 95) rfl)) rfl
set_option maxRecDepth 100000 in
theorem ksX7_years : Cond.selects RX7 yX7_years yX7_years ∈ zgt := zgt_in (zt5 (List.mem_of_getElem? (i := 96) rfl)) rfl
set_option maxRecDepth 100000 in
theorem kcX7_notYears : Cond.code yX7_notYears cX7_notYears 1 (some .int) ∈ zgt := zgt_in (zt5 (List.mem_of_getElem? (i := 108) rfl)) rfl
set_option maxRecDepth 100000 in
theorem ktX7_notYears : Cond.static yX7_notYears ∈ zgt := zgt_in (zt5 (List.mem_of_getElem? (i := 107) rfl)) rfl
set_option maxRecDepth 100000 in
theorem kcX7_moneyIn : Cond.code yX7_moneyIn cX7_moneyIn 4 (some .int) ∈ zgt := zgt_in (zt5 (List.mem_of_getElem? (i := 112) rfl)) rfl
set_option maxRecDepth 100000 in
theorem knX7_moneyIn : Cond.instanceMethod yX7_moneyIn ∈ zgt := zgt_in (zt5 (List.mem_of_getElem? (i := 111) rfl)) rfl
set_option maxRecDepth 100000 in
theorem ksX7_moneyIn : Cond.selects RX7 yX7_moneyIn yX7_moneyIn ∈ zgt := zgt_in (zt0 (List.mem_of_getElem? (i := 52) rfl)) rfl
set_option maxRecDepth 100000 in
theorem kcX7_wealthIn : Cond.code yX7_wealthIn cX7_wealthIn 3 (some .int) ∈ zgt := zgt_in (zt5 (List.mem_of_getElem? (i := 132) rfl)) rfl
set_option maxRecDepth 100000 in
theorem knX7_wealthIn : Cond.instanceMethod yX7_wealthIn ∈ zgt := zgt_in (zt5 (List.mem_of_getElem? (i := 131) rfl)) rfl
set_option maxRecDepth 100000 in
theorem ksX7_wealthIn : Cond.selects RX7 yX7_wealthIn yX7_wealthIn ∈ zgt := zgt_in (zt0 (List.mem_of_getElem? (i := 55) rfl)) rfl
set_option maxRecDepth 100000 in
theorem kcX7_hasThen : Cond.code yX7_hasThen cX7_hasThen 6 (some .int) ∈ zgt := zgt_in (zt5 (List.mem_of_getElem? (i := 105) rfl)) rfl
set_option maxRecDepth 100000 in
theorem knX7_hasThen : Cond.instanceMethod yX7_hasThen ∈ zgt := zgt_in (zt5 (List.mem_of_getElem? (i := 103) rfl)) rfl
set_option maxRecDepth 100000 in
theorem ksX7_hasThen : Cond.selects RX7 yX7_hasThen yX7_hasThen ∈ zgt := zgt_in (zt5 (List.mem_of_getElem? (i := 104) rfl)) rfl
set_option maxRecDepth 100000 in
theorem kcX7_areKin : Cond.code yX7_areKin cX7_areKin 6 (some .int) ∈ zgt := zgt_in (zt5 (List.mem_of_getElem? (i := 124) rfl)) rfl
set_option maxRecDepth 100000 in
theorem knX7_areKin : Cond.instanceMethod yX7_areKin ∈ zgt := zgt_in (zt5 (List.mem_of_getElem? (i := 122) rfl)) rfl
set_option maxRecDepth 100000 in
theorem ksX7_areKin : Cond.selects RX7 yX7_areKin yX7_areKin ∈ zgt := zgt_in (zt5 (List.mem_of_getElem? (i := 123) rfl)) rfl
set_option maxRecDepth 100000 in
theorem kcX7_allMoney : Cond.code yX7_allMoney cX7_allMoney 3 (some .int) ∈ zgt := zgt_in (zt5 (List.mem_of_getElem? (i := 128) rfl)) rfl
set_option maxRecDepth 100000 in
theorem knX7_allMoney : Cond.instanceMethod yX7_allMoney ∈ zgt := zgt_in (zt5 (List.mem_of_getElem? (i := 126) rfl)) rfl
set_option maxRecDepth 100000 in
theorem ksX7_allMoney : Cond.selects RX7 yX7_allMoney yX7_allMoney ∈ zgt := zgt_in (zt5 (List.mem_of_getElem? (i := 127) rfl)) rfl
set_option maxRecDepth 100000 in
theorem kcX7_ruinOf : Cond.code yX7_ruinOf cX7_ruinOf 4 (some .int) ∈ zgt := zgt_in (zt5 (List.mem_of_getElem? (i := 140) rfl)) rfl
set_option maxRecDepth 100000 in
theorem knX7_ruinOf : Cond.instanceMethod yX7_ruinOf ∈ zgt := zgt_in (zt5 (List.mem_of_getElem? (i := 139) rfl)) rfl
set_option maxRecDepth 100000 in
theorem ksX7_ruinOf : Cond.selects RX7 yX7_ruinOf yX7_ruinOf ∈ zgt := zgt_in (zt0 (List.mem_of_getElem? (i := 56) rfl)) rfl
set_option maxRecDepth 100000 in
theorem kcX7_ruined : Cond.code yX7_ruined cX7_ruined 2 (some .int) ∈ zgt := zgt_in (zt5 (List.mem_of_getElem? (i := 136) rfl)) rfl
set_option maxRecDepth 100000 in
theorem knX7_ruined : Cond.instanceMethod yX7_ruined ∈ zgt := zgt_in (zt5 (List.mem_of_getElem? (i := 134) rfl)) rfl
set_option maxRecDepth 100000 in
theorem ksX7_ruined : Cond.selects RX7 yX7_ruined yX7_ruined ∈ zgt := zgt_in (zt5 (List.mem_of_getElem? (i := 135) rfl)) rfl
set_option maxRecDepth 100000 in
theorem kcX7_isSteady : Cond.code yX7_isSteady cX7_isSteady 2 (some .boolean) ∈ zgt := zgt_in (zt5 (List.mem_of_getElem? (i := 152) rfl)) rfl
set_option maxRecDepth 100000 in
theorem knX7_isSteady : Cond.instanceMethod yX7_isSteady ∈ zgt := zgt_in (zt5 (List.mem_of_getElem? (i := 151) rfl)) rfl
set_option maxRecDepth 100000 in
theorem ksX7_isSteady : Cond.selects RX7 yX7_isSteady yX7_isSteady ∈ zgt := zgt_in (zt0 (List.mem_of_getElem? (i := 58) rfl)) rfl
set_option maxRecDepth 100000 in
theorem kcX7_steadyAt : Cond.code yX7_steadyAt cX7_steadyAt 3 (some .int) ∈ zgt := zgt_in (zt5 (List.mem_of_getElem? (i := 148) rfl)) rfl
set_option maxRecDepth 100000 in
theorem knX7_steadyAt : Cond.instanceMethod yX7_steadyAt ∈ zgt := zgt_in (zt5 (List.mem_of_getElem? (i := 147) rfl)) rfl
set_option maxRecDepth 100000 in
theorem ksX7_steadyAt : Cond.selects RX7 yX7_steadyAt yX7_steadyAt ∈ zgt := zgt_in (zt0 (List.mem_of_getElem? (i := 57) rfl)) rfl
set_option maxRecDepth 100000 in
theorem kcX7_first : Cond.code yX7_first cX7_first 6 (some .int) ∈ zgt := zgt_in (zt5 (List.mem_of_getElem? (i := 144) rfl)) rfl
set_option maxRecDepth 100000 in
theorem knX7_first : Cond.instanceMethod yX7_first ∈ zgt := zgt_in (zt5 (List.mem_of_getElem? (i := 142) rfl)) rfl
set_option maxRecDepth 100000 in
theorem ksX7_first : Cond.selects RX7 yX7_first yX7_first ∈ zgt := zgt_in (zt5 (List.mem_of_getElem? (i := 143) rfl)) rfl
set_option maxRecDepth 100000 in
theorem kcX7_richest : Cond.code yX7_richest cX7_richest 5 (some .int) ∈ zgt := zgt_in (zt5 (List.mem_of_getElem? (i := 156) rfl)) rfl
set_option maxRecDepth 100000 in
theorem knX7_richest : Cond.instanceMethod yX7_richest ∈ zgt := zgt_in (zt5 (List.mem_of_getElem? (i := 154) rfl)) rfl
set_option maxRecDepth 100000 in
theorem ksX7_richest : Cond.selects RX7 yX7_richest yX7_richest ∈ zgt := zgt_in (zt5 (List.mem_of_getElem? (i := 155) rfl)) rfl
set_option maxRecDepth 100000 in
theorem kcX7_findSteps : Cond.code yX7_findSteps cX7_findSteps 5 none ∈ zgt := zgt_in (zt5 (List.mem_of_getElem? (i := 168) rfl)) rfl
set_option maxRecDepth 100000 in
theorem knX7_findSteps : Cond.instanceMethod yX7_findSteps ∈ zgt := zgt_in (zt5 (List.mem_of_getElem? (i := 167) rfl)) rfl
set_option maxRecDepth 100000 in
theorem ksX7_findSteps : Cond.selects RX7 yX7_findSteps yX7_findSteps ∈ zgt := zgt_in (zt0 (List.mem_of_getElem? (i := 60) rfl)) rfl
set_option maxRecDepth 100000 in
theorem kcX7_reached : Cond.code yX7_reached cX7_reached 4 (some .int) ∈ zgt := zgt_in (zt5 (List.mem_of_getElem? (i := 164) rfl)) rfl
set_option maxRecDepth 100000 in
theorem knX7_reached : Cond.instanceMethod yX7_reached ∈ zgt := zgt_in (zt5 (List.mem_of_getElem? (i := 163) rfl)) rfl
set_option maxRecDepth 100000 in
theorem ksX7_reached : Cond.selects RX7 yX7_reached yX7_reached ∈ zgt := zgt_in (zt0 (List.mem_of_getElem? (i := 59) rfl)) rfl
set_option maxRecDepth 100000 in
theorem kcX7_kin : Cond.code yX7_kin cX7_kin 4 (some .int) ∈ zgt := zgt_in (zt5 (List.mem_of_getElem? (i := 160) rfl)) rfl
set_option maxRecDepth 100000 in
theorem knX7_kin : Cond.instanceMethod yX7_kin ∈ zgt := zgt_in (zt5 (List.mem_of_getElem? (i := 158) rfl)) rfl
set_option maxRecDepth 100000 in
theorem ksX7_kin : Cond.selects RX7 yX7_kin yX7_kin ∈ zgt := zgt_in (zt5 (List.mem_of_getElem? (i := 159) rfl)) rfl
set_option maxRecDepth 100000 in
theorem kcX7_removed : Cond.code yX7_removed cX7_removed 3 (some .int) ∈ zgt := zgt_in (zt5 (List.mem_of_getElem? (i := 172) rfl)) rfl
set_option maxRecDepth 100000 in
theorem knX7_removed : Cond.instanceMethod yX7_removed ∈ zgt := zgt_in (zt5 (List.mem_of_getElem? (i := 170) rfl)) rfl
set_option maxRecDepth 100000 in
theorem ksX7_removed : Cond.selects RX7 yX7_removed yX7_removed ∈ zgt := zgt_in (zt5 (List.mem_of_getElem? (i := 171) rfl)) rfl
set_option maxRecDepth 100000 in
theorem kcX7_farthest : Cond.code yX7_farthest cX7_farthest 6 (some .int) ∈ zgt := zgt_in (zt5 (List.mem_of_getElem? (i := 176) rfl)) rfl
set_option maxRecDepth 100000 in
theorem knX7_farthest : Cond.instanceMethod yX7_farthest ∈ zgt := zgt_in (zt5 (List.mem_of_getElem? (i := 174) rfl)) rfl
set_option maxRecDepth 100000 in
theorem ksX7_farthest : Cond.selects RX7 yX7_farthest yX7_farthest ∈ zgt := zgt_in (zt5 (List.mem_of_getElem? (i := 175) rfl)) rfl
set_option maxRecDepth 100000 in
theorem kcX7_threes : Cond.code yX7_threes cX7_threes 5 (some .int) ∈ zgt := zgt_in (zt5 (List.mem_of_getElem? (i := 184) rfl)) rfl
set_option maxRecDepth 100000 in
theorem knX7_threes : Cond.instanceMethod yX7_threes ∈ zgt := zgt_in (zt5 (List.mem_of_getElem? (i := 183) rfl)) rfl
set_option maxRecDepth 100000 in
theorem ksX7_threes : Cond.selects RX7 yX7_threes yX7_threes ∈ zgt := zgt_in (zt0 (List.mem_of_getElem? (i := 61) rfl)) rfl
set_option maxRecDepth 100000 in
theorem kcX7_groups : Cond.code yX7_groups cX7_groups 6 (some .int) ∈ zgt := zgt_in (zt5 (List.mem_of_getElem? (i := 180) rfl)) rfl
set_option maxRecDepth 100000 in
theorem knX7_groups : Cond.instanceMethod yX7_groups ∈ zgt := zgt_in (zt5 (List.mem_of_getElem? (i := 178) rfl)) rfl
set_option maxRecDepth 100000 in
theorem ksX7_groups : Cond.selects RX7 yX7_groups yX7_groups ∈ zgt := zgt_in (zt5 (List.mem_of_getElem? (i := 179) rfl)) rfl
set_option maxRecDepth 100000 in
theorem kcX7_areAllKin : Cond.code yX7_areAllKin cX7_areAllKin 3 (some .boolean) ∈ zgt := zgt_in (zt5 (List.mem_of_getElem? (i := 192) rfl)) rfl
set_option maxRecDepth 100000 in
theorem knX7_areAllKin : Cond.instanceMethod yX7_areAllKin ∈ zgt := zgt_in (zt5 (List.mem_of_getElem? (i := 191) rfl)) rfl
set_option maxRecDepth 100000 in
theorem ksX7_areAllKin : Cond.selects RX7 yX7_areAllKin yX7_areAllKin ∈ zgt := zgt_in (zt0 (List.mem_of_getElem? (i := 62) rfl)) rfl
set_option maxRecDepth 100000 in
theorem kcX7_clan : Cond.code yX7_clan cX7_clan 4 (some .int) ∈ zgt := zgt_in (zt5 (List.mem_of_getElem? (i := 188) rfl)) rfl
set_option maxRecDepth 100000 in
theorem knX7_clan : Cond.instanceMethod yX7_clan ∈ zgt := zgt_in (zt5 (List.mem_of_getElem? (i := 186) rfl)) rfl
set_option maxRecDepth 100000 in
theorem ksX7_clan : Cond.selects RX7 yX7_clan yX7_clan ∈ zgt := zgt_in (zt5 (List.mem_of_getElem? (i := 187) rfl)) rfl
set_option maxRecDepth 100000 in
theorem kcX7_notShort : Cond.code yX7_notShort cX7_notShort 1 (some .int) ∈ zgt := zgt_in (zt5 (List.mem_of_getElem? (i := 199) rfl)) rfl
set_option maxRecDepth 100000 in
theorem ktX7_notShort : Cond.static yX7_notShort ∈ zgt := zgt_in (zt5 (List.mem_of_getElem? (i := 198) rfl)) rfl
set_option maxRecDepth 100000 in
theorem kcX7_moneySigning : Cond.code yX7_moneySigning cX7_moneySigning 6 (some .int) ∈ zgt := zgt_in (zt5 (List.mem_of_getElem? (i := 207) rfl)) rfl
set_option maxRecDepth 100000 in
theorem knX7_moneySigning : Cond.instanceMethod yX7_moneySigning ∈ zgt := zgt_in (zt5 (List.mem_of_getElem? (i := 206) rfl)) rfl
set_option maxRecDepth 100000 in
theorem ksX7_moneySigning : Cond.selects RX7 yX7_moneySigning yX7_moneySigning ∈ zgt := zgt_in (zt0 (List.mem_of_getElem? (i := 64) rfl)) rfl
set_option maxRecDepth 100000 in
theorem kcX7_bestTurn : Cond.code yX7_bestTurn cX7_bestTurn 9 (some .int) ∈ zgt := zgt_in (zt5 (List.mem_of_getElem? (i := 203) rfl)) rfl
set_option maxRecDepth 100000 in
theorem knX7_bestTurn : Cond.instanceMethod yX7_bestTurn ∈ zgt := zgt_in (zt5 (List.mem_of_getElem? (i := 202) rfl)) rfl
set_option maxRecDepth 100000 in
theorem ksX7_bestTurn : Cond.selects RX7 yX7_bestTurn yX7_bestTurn ∈ zgt := zgt_in (zt0 (List.mem_of_getElem? (i := 63) rfl)) rfl
set_option maxRecDepth 100000 in
theorem kcX7_bestSign : Cond.code yX7_bestSign cX7_bestSign 4 (some .int) ∈ zgt := zgt_in (zt5 (List.mem_of_getElem? (i := 196) rfl)) rfl
set_option maxRecDepth 100000 in
theorem knX7_bestSign : Cond.instanceMethod yX7_bestSign ∈ zgt := zgt_in (zt5 (List.mem_of_getElem? (i := 194) rfl)) rfl
set_option maxRecDepth 100000 in
theorem ksX7_bestSign : Cond.selects RX7 yX7_bestSign yX7_bestSign ∈ zgt := zgt_in (zt5 (List.mem_of_getElem? (i := 195) rfl)) rfl
set_option maxRecDepth 100000 in
theorem kcX7_bestCut : Cond.code yX7_bestCut cX7_bestCut 4 (some .int) ∈ zgt := zgt_in (zt5 (List.mem_of_getElem? (i := 211) rfl)) rfl
set_option maxRecDepth 100000 in
theorem knX7_bestCut : Cond.instanceMethod yX7_bestCut ∈ zgt := zgt_in (zt5 (List.mem_of_getElem? (i := 209) rfl)) rfl
set_option maxRecDepth 100000 in
theorem ksX7_bestCut : Cond.selects RX7 yX7_bestCut yX7_bestCut ∈ zgt := zgt_in (zt5 (List.mem_of_getElem? (i := 210) rfl)) rfl
set_option maxRecDepth 100000 in
theorem kcX7_feudCosts : Cond.code yX7_feudCosts cX7_feudCosts 7 (some .int) ∈ zgt := zgt_in (zt5 (List.mem_of_getElem? (i := 215) rfl)) rfl
set_option maxRecDepth 100000 in
theorem knX7_feudCosts : Cond.instanceMethod yX7_feudCosts ∈ zgt := zgt_in (zt5 (List.mem_of_getElem? (i := 213) rfl)) rfl
set_option maxRecDepth 100000 in
theorem ksX7_feudCosts : Cond.selects RX7 yX7_feudCosts yX7_feudCosts ∈ zgt := zgt_in (zt5 (List.mem_of_getElem? (i := 214) rfl)) rfl
set_option maxRecDepth 100000 in
theorem kcX7_peace : Cond.code yX7_peace cX7_peace 4 (some .int) ∈ zgt := zgt_in (zt5 (List.mem_of_getElem? (i := 224) rfl)) rfl
set_option maxRecDepth 100000 in
theorem knX7_peace : Cond.instanceMethod yX7_peace ∈ zgt := zgt_in (zt5 (List.mem_of_getElem? (i := 222) rfl)) rfl
set_option maxRecDepth 100000 in
theorem ksX7_peace : Cond.selects RX7 yX7_peace yX7_peace ∈ zgt := zgt_in (zt5 (List.mem_of_getElem? (i := 223) rfl)) rfl
set_option maxRecDepth 100000 in
theorem kcX7_will : Cond.code yX7_will cX7_will 5 (some .int) ∈ zgt := zgt_in (zt5 (List.mem_of_getElem? (i := 228) rfl)) rfl
set_option maxRecDepth 100000 in
theorem knX7_will : Cond.instanceMethod yX7_will ∈ zgt := zgt_in (zt5 (List.mem_of_getElem? (i := 226) rfl)) rfl
set_option maxRecDepth 100000 in
theorem ksX7_will : Cond.selects RX7 yX7_will yX7_will ∈ zgt := zgt_in (zt5 (List.mem_of_getElem? (i := 227) rfl)) rfl
set_option maxRecDepth 100000 in
theorem kcX7_leastRoom : Cond.code yX7_leastRoom cX7_leastRoom 5 (some .int) ∈ zgt := zgt_in (zt6 (List.mem_of_getElem? (i := 0) rfl)) rfl
set_option maxRecDepth 100000 in
theorem knX7_leastRoom : Cond.instanceMethod yX7_leastRoom ∈ zgt := zgt_in (zt5 (List.mem_of_getElem? (i := 239) rfl)) rfl
set_option maxRecDepth 100000 in
theorem ksX7_leastRoom : Cond.selects RX7 yX7_leastRoom yX7_leastRoom ∈ zgt := zgt_in (zt0 (List.mem_of_getElem? (i := 67) rfl)) rfl
set_option maxRecDepth 100000 in
theorem kcX7_findRooms : Cond.code yX7_findRooms cX7_findRooms 5 (some .boolean) ∈ zgt := zgt_in (zt5 (List.mem_of_getElem? (i := 236) rfl)) rfl
set_option maxRecDepth 100000 in
theorem knX7_findRooms : Cond.instanceMethod yX7_findRooms ∈ zgt := zgt_in (zt5 (List.mem_of_getElem? (i := 235) rfl)) rfl
set_option maxRecDepth 100000 in
theorem ksX7_findRooms : Cond.selects RX7 yX7_findRooms yX7_findRooms ∈ zgt := zgt_in (zt0 (List.mem_of_getElem? (i := 66) rfl)) rfl
set_option maxRecDepth 100000 in
theorem kcX7_rooms : Cond.code yX7_rooms cX7_rooms 3 (some .int) ∈ zgt := zgt_in (zt5 (List.mem_of_getElem? (i := 232) rfl)) rfl
set_option maxRecDepth 100000 in
theorem knX7_rooms : Cond.instanceMethod yX7_rooms ∈ zgt := zgt_in (zt5 (List.mem_of_getElem? (i := 230) rfl)) rfl
set_option maxRecDepth 100000 in
theorem ksX7_rooms : Cond.selects RX7 yX7_rooms yX7_rooms ∈ zgt := zgt_in (zt5 (List.mem_of_getElem? (i := 231) rfl)) rfl
set_option maxRecDepth 100000 in
theorem kcX7_isCouple : Cond.code yX7_isCouple cX7_isCouple 5 (some .boolean) ∈ zgt := zgt_in (zt6 (List.mem_of_getElem? (i := 15) rfl)) rfl
set_option maxRecDepth 100000 in
theorem knX7_isCouple : Cond.instanceMethod yX7_isCouple ∈ zgt := zgt_in (zt6 (List.mem_of_getElem? (i := 14) rfl)) rfl
set_option maxRecDepth 100000 in
theorem ksX7_isCouple : Cond.selects RX7 yX7_isCouple yX7_isCouple ∈ zgt := zgt_in (zt0 (List.mem_of_getElem? (i := 69) rfl)) rfl
set_option maxRecDepth 100000 in
theorem kcX7_lowest : Cond.code yX7_lowest cX7_lowest 2 (some .int) ∈ zgt := zgt_in (zt6 (List.mem_of_getElem? (i := 11) rfl)) rfl
set_option maxRecDepth 100000 in
theorem ktX7_lowest : Cond.static yX7_lowest ∈ zgt := zgt_in (zt6 (List.mem_of_getElem? (i := 10) rfl)) rfl
set_option maxRecDepth 100000 in
theorem kcX7_findCouples : Cond.code yX7_findCouples cX7_findCouples 8 none ∈ zgt := zgt_in (zt6 (List.mem_of_getElem? (i := 8) rfl)) rfl
set_option maxRecDepth 100000 in
theorem knX7_findCouples : Cond.instanceMethod yX7_findCouples ∈ zgt := zgt_in (zt6 (List.mem_of_getElem? (i := 7) rfl)) rfl
set_option maxRecDepth 100000 in
theorem ksX7_findCouples : Cond.selects RX7 yX7_findCouples yX7_findCouples ∈ zgt := zgt_in (zt0 (List.mem_of_getElem? (i := 68) rfl)) rfl
set_option maxRecDepth 100000 in
theorem kcX7_partnerIn : Cond.code yX7_partnerIn cX7_partnerIn 6 (some .int) ∈ zgt := zgt_in (zt6 (List.mem_of_getElem? (i := 23) rfl)) rfl
set_option maxRecDepth 100000 in
theorem knX7_partnerIn : Cond.instanceMethod yX7_partnerIn ∈ zgt := zgt_in (zt6 (List.mem_of_getElem? (i := 22) rfl)) rfl
set_option maxRecDepth 100000 in
theorem ksX7_partnerIn : Cond.selects RX7 yX7_partnerIn yX7_partnerIn ∈ zgt := zgt_in (zt0 (List.mem_of_getElem? (i := 71) rfl)) rfl
set_option maxRecDepth 100000 in
theorem kcX7_partnerOf : Cond.code yX7_partnerOf cX7_partnerOf 6 (some .int) ∈ zgt := zgt_in (zt6 (List.mem_of_getElem? (i := 19) rfl)) rfl
set_option maxRecDepth 100000 in
theorem knX7_partnerOf : Cond.instanceMethod yX7_partnerOf ∈ zgt := zgt_in (zt6 (List.mem_of_getElem? (i := 18) rfl)) rfl
set_option maxRecDepth 100000 in
theorem ksX7_partnerOf : Cond.selects RX7 yX7_partnerOf yX7_partnerOf ∈ zgt := zgt_in (zt0 (List.mem_of_getElem? (i := 70) rfl)) rfl
set_option maxRecDepth 100000 in
theorem kcX7_couples : Cond.code yX7_couples cX7_couples 4 (some .int) ∈ zgt := zgt_in (zt6 (List.mem_of_getElem? (i := 4) rfl)) rfl
set_option maxRecDepth 100000 in
theorem knX7_couples : Cond.instanceMethod yX7_couples ∈ zgt := zgt_in (zt6 (List.mem_of_getElem? (i := 2) rfl)) rfl
set_option maxRecDepth 100000 in
theorem ksX7_couples : Cond.selects RX7 yX7_couples yX7_couples ∈ zgt := zgt_in (zt6 (List.mem_of_getElem? (i := 3) rfl)) rfl
set_option maxRecDepth 100000 in
theorem kcX7_turned : Cond.code yX7_turned cX7_turned 4 (some .int) ∈ zgt := zgt_in (zt6 (List.mem_of_getElem? (i := 42) rfl)) rfl
set_option maxRecDepth 100000 in
theorem ktX7_turned : Cond.static yX7_turned ∈ zgt := zgt_in (zt6 (List.mem_of_getElem? (i := 41) rfl)) rfl
set_option maxRecDepth 100000 in
theorem kcX7_exchanges : Cond.code yX7_exchanges cX7_exchanges 6 none ∈ zgt := zgt_in (zt6 (List.mem_of_getElem? (i := 39) rfl)) rfl
set_option maxRecDepth 100000 in
theorem knX7_exchanges : Cond.instanceMethod yX7_exchanges ∈ zgt := zgt_in (zt6 (List.mem_of_getElem? (i := 38) rfl)) rfl
set_option maxRecDepth 100000 in
theorem ksX7_exchanges : Cond.selects RX7 yX7_exchanges yX7_exchanges ∈ zgt := zgt_in (zt0 (List.mem_of_getElem? (i := 74) rfl)) rfl
set_option maxRecDepth 100000 in
theorem kcX7_moneyChanged : Cond.code yX7_moneyChanged cX7_moneyChanged 5 (some .int) ∈ zgt := zgt_in (zt6 (List.mem_of_getElem? (i := 31) rfl)) rfl
set_option maxRecDepth 100000 in
theorem knX7_moneyChanged : Cond.instanceMethod yX7_moneyChanged ∈ zgt := zgt_in (zt6 (List.mem_of_getElem? (i := 30) rfl)) rfl
set_option maxRecDepth 100000 in
theorem ksX7_moneyChanged : Cond.selects RX7 yX7_moneyChanged yX7_moneyChanged ∈ zgt := zgt_in (zt0 (List.mem_of_getElem? (i := 72) rfl)) rfl
set_option maxRecDepth 100000 in
theorem kcX7_buys : Cond.code yX7_buys cX7_buys 8 (some .int) ∈ zgt := zgt_in (zt6 (List.mem_of_getElem? (i := 27) rfl)) rfl
set_option maxRecDepth 100000 in
theorem knX7_buys : Cond.instanceMethod yX7_buys ∈ zgt := zgt_in (zt6 (List.mem_of_getElem? (i := 25) rfl)) rfl
set_option maxRecDepth 100000 in
theorem ksX7_buys : Cond.selects RX7 yX7_buys yX7_buys ∈ zgt := zgt_in (zt6 (List.mem_of_getElem? (i := 26) rfl)) rfl
set_option maxRecDepth 100000 in
theorem kcX7_matters : Cond.code yX7_matters cX7_matters 6 (some .int) ∈ zgt := zgt_in (zt6 (List.mem_of_getElem? (i := 50) rfl)) rfl
set_option maxRecDepth 100000 in
theorem knX7_matters : Cond.instanceMethod yX7_matters ∈ zgt := zgt_in (zt6 (List.mem_of_getElem? (i := 48) rfl)) rfl
set_option maxRecDepth 100000 in
theorem ksX7_matters : Cond.selects RX7 yX7_matters yX7_matters ∈ zgt := zgt_in (zt6 (List.mem_of_getElem? (i := 49) rfl)) rfl
set_option maxRecDepth 100000 in
theorem kcX7_divisor : Cond.code yX7_divisor cX7_divisor 10 (some .long) ∈ zgt := zgt_in (zt6 (List.mem_of_getElem? (i := 69) rfl)) rfl
set_option maxRecDepth 100000 in
theorem ktX7_divisor : Cond.static yX7_divisor ∈ zgt := zgt_in (zt6 (List.mem_of_getElem? (i := 68) rfl)) rfl
set_option maxRecDepth 100000 in
theorem kcX7_partOf : Cond.code yX7_partOf cX7_partOf 5 (some .long) ∈ zgt := zgt_in (zt6 (List.mem_of_getElem? (i := 66) rfl)) rfl
set_option maxRecDepth 100000 in
theorem ktX7_partOf : Cond.static yX7_partOf ∈ zgt := zgt_in (zt6 (List.mem_of_getElem? (i := 65) rfl)) rfl
set_option maxRecDepth 100000 in
theorem kcX7_deaths : Cond.code yX7_deaths cX7_deaths 16 (some .long) ∈ zgt := zgt_in (zt6 (List.mem_of_getElem? (i := 58) rfl)) rfl
set_option maxRecDepth 100000 in
theorem knX7_deaths : Cond.instanceMethod yX7_deaths ∈ zgt := zgt_in (zt6 (List.mem_of_getElem? (i := 56) rfl)) rfl
set_option maxRecDepth 100000 in
theorem ksX7_deaths : Cond.selects RX7 yX7_deaths yX7_deaths ∈ zgt := zgt_in (zt6 (List.mem_of_getElem? (i := 57) rfl)) rfl
set_option maxRecDepth 100000 in
theorem kcX7_mean : Cond.code yX7_mean cX7_mean 2 (some .long) ∈ zgt := zgt_in (zt6 (List.mem_of_getElem? (i := 73) rfl)) rfl
set_option maxRecDepth 100000 in
theorem knX7_mean : Cond.instanceMethod yX7_mean ∈ zgt := zgt_in (zt6 (List.mem_of_getElem? (i := 71) rfl)) rfl
set_option maxRecDepth 100000 in
theorem ksX7_mean : Cond.selects RX7 yX7_mean yX7_mean ∈ zgt := zgt_in (zt6 (List.mem_of_getElem? (i := 72) rfl)) rfl
set_option maxRecDepth 100000 in
theorem kcX7_with : Cond.code yX7_with cX7_with 3 (some .int) ∈ zgt := zgt_in (zt6 (List.mem_of_getElem? (i := 84) rfl)) rfl
set_option maxRecDepth 100000 in
theorem ktX7_with : Cond.static yX7_with ∈ zgt := zgt_in (zt6 (List.mem_of_getElem? (i := 83) rfl)) rfl
set_option maxRecDepth 100000 in
theorem kcX7_findTwo : Cond.code yX7_findTwo cX7_findTwo 5 none ∈ zgt := zgt_in (zt6 (List.mem_of_getElem? (i := 81) rfl)) rfl
set_option maxRecDepth 100000 in
theorem knX7_findTwo : Cond.instanceMethod yX7_findTwo ∈ zgt := zgt_in (zt6 (List.mem_of_getElem? (i := 80) rfl)) rfl
set_option maxRecDepth 100000 in
theorem ksX7_findTwo : Cond.selects RX7 yX7_findTwo yX7_findTwo ∈ zgt := zgt_in (zt0 (List.mem_of_getElem? (i := 78) rfl)) rfl
set_option maxRecDepth 100000 in
theorem kcX7_two : Cond.code yX7_two cX7_two 6 (some .int) ∈ zgt := zgt_in (zt6 (List.mem_of_getElem? (i := 77) rfl)) rfl
set_option maxRecDepth 100000 in
theorem knX7_two : Cond.instanceMethod yX7_two ∈ zgt := zgt_in (zt6 (List.mem_of_getElem? (i := 75) rfl)) rfl
set_option maxRecDepth 100000 in
theorem ksX7_two : Cond.selects RX7 yX7_two yX7_two ∈ zgt := zgt_in (zt6 (List.mem_of_getElem? (i := 76) rfl)) rfl
set_option maxRecDepth 100000 in
theorem kcX7_isSo : Cond.code yX7_isSo cX7_isSo 4 (some .boolean) ∈ zgt := zgt_in (zt6 (List.mem_of_getElem? (i := 96) rfl)) rfl
set_option maxRecDepth 100000 in
theorem knX7_isSo : Cond.instanceMethod yX7_isSo ∈ zgt := zgt_in (zt6 (List.mem_of_getElem? (i := 95) rfl)) rfl
set_option maxRecDepth 100000 in
theorem ksX7_isSo : Cond.selects RX7 yX7_isSo yX7_isSo ∈ zgt := zgt_in (zt0 (List.mem_of_getElem? (i := 80) rfl)) rfl
set_option maxRecDepth 100000 in
theorem kcX7_bitsFor : Cond.code yX7_bitsFor cX7_bitsFor 7 (some .int) ∈ zgt := zgt_in (zt6 (List.mem_of_getElem? (i := 92) rfl)) rfl
set_option maxRecDepth 100000 in
theorem knX7_bitsFor : Cond.instanceMethod yX7_bitsFor ∈ zgt := zgt_in (zt6 (List.mem_of_getElem? (i := 91) rfl)) rfl
set_option maxRecDepth 100000 in
theorem ksX7_bitsFor : Cond.selects RX7 yX7_bitsFor yX7_bitsFor ∈ zgt := zgt_in (zt0 (List.mem_of_getElem? (i := 79) rfl)) rfl
set_option maxRecDepth 100000 in
theorem kcX7_whatIs : Cond.code yX7_whatIs cX7_whatIs 4 (some .int) ∈ zgt := zgt_in (zt6 (List.mem_of_getElem? (i := 88) rfl)) rfl
set_option maxRecDepth 100000 in
theorem knX7_whatIs : Cond.instanceMethod yX7_whatIs ∈ zgt := zgt_in (zt6 (List.mem_of_getElem? (i := 86) rfl)) rfl
set_option maxRecDepth 100000 in
theorem ksX7_whatIs : Cond.selects RX7 yX7_whatIs yX7_whatIs ∈ zgt := zgt_in (zt6 (List.mem_of_getElem? (i := 87) rfl)) rfl
set_option maxRecDepth 100000 in
theorem kcX7_row : Cond.code yX7_row cX7_row 3 (some .int) ∈ zgt := zgt_in (zt6 (List.mem_of_getElem? (i := 100) rfl)) rfl
set_option maxRecDepth 100000 in
theorem knX7_row : Cond.instanceMethod yX7_row ∈ zgt := zgt_in (zt6 (List.mem_of_getElem? (i := 98) rfl)) rfl
set_option maxRecDepth 100000 in
theorem ksX7_row : Cond.selects RX7 yX7_row yX7_row ∈ zgt := zgt_in (zt6 (List.mem_of_getElem? (i := 99) rfl)) rfl
set_option maxRecDepth 100000 in
theorem kcX7_judge : Cond.code yX7_judge cX7_judge 3 (some .int) ∈ zgt := zgt_in (zt6 (List.mem_of_getElem? (i := 104) rfl)) rfl
set_option maxRecDepth 100000 in
theorem knX7_judge : Cond.instanceMethod yX7_judge ∈ zgt := zgt_in (zt6 (List.mem_of_getElem? (i := 102) rfl)) rfl
set_option maxRecDepth 100000 in
theorem ksX7_judge : Cond.selects RX7 yX7_judge yX7_judge ∈ zgt := zgt_in (zt6 (List.mem_of_getElem? (i := 103) rfl)) rfl
set_option maxRecDepth 100000 in
theorem kcX7_clear : Cond.code yX7_clear cX7_clear 2 (some .int) ∈ zgt := zgt_in (zt6 (List.mem_of_getElem? (i := 108) rfl)) rfl
set_option maxRecDepth 100000 in
theorem knX7_clear : Cond.instanceMethod yX7_clear ∈ zgt := zgt_in (zt6 (List.mem_of_getElem? (i := 106) rfl)) rfl
set_option maxRecDepth 100000 in
theorem ksX7_clear : Cond.selects RX7 yX7_clear yX7_clear ∈ zgt := zgt_in (zt6 (List.mem_of_getElem? (i := 107) rfl)) rfl
set_option maxRecDepth 100000 in
theorem kcX7_draw : Cond.code yX7_draw cX7_draw 2 (some .int) ∈ zgt := zgt_in (zt6 (List.mem_of_getElem? (i := 116) rfl)) rfl
set_option maxRecDepth 100000 in
theorem knX7_draw : Cond.instanceMethod yX7_draw ∈ zgt := zgt_in (zt6 (List.mem_of_getElem? (i := 115) rfl)) rfl
set_option maxRecDepth 100000 in
theorem ksX7_draw : Cond.selects RX7 yX7_draw yX7_draw ∈ zgt := zgt_in (zt0 (List.mem_of_getElem? (i := 81) rfl)) rfl
set_option maxRecDepth 100000 in
theorem kcX7_lots : Cond.code yX7_lots cX7_lots 10 (some .int) ∈ zgt := zgt_in (zt6 (List.mem_of_getElem? (i := 112) rfl)) rfl
set_option maxRecDepth 100000 in
theorem knX7_lots : Cond.instanceMethod yX7_lots ∈ zgt := zgt_in (zt6 (List.mem_of_getElem? (i := 110) rfl)) rfl
set_option maxRecDepth 100000 in
theorem ksX7_lots : Cond.selects RX7 yX7_lots yX7_lots ∈ zgt := zgt_in (zt6 (List.mem_of_getElem? (i := 111) rfl)) rfl
set_option maxRecDepth 100000 in
theorem kcX7_count : Cond.code yX7_count cX7_count 4 (some .int) ∈ zgt := zgt_in (zt6 (List.mem_of_getElem? (i := 123) rfl)) rfl
set_option maxRecDepth 100000 in
theorem knX7_count : Cond.instanceMethod yX7_count ∈ zgt := zgt_in (zt6 (List.mem_of_getElem? (i := 121) rfl)) rfl
set_option maxRecDepth 100000 in
theorem ksX7_count : Cond.selects RX7 yX7_count yX7_count ∈ zgt := zgt_in (zt6 (List.mem_of_getElem? (i := 122) rfl)) rfl
set_option maxRecDepth 100000 in
theorem kcJ11_isValidCodePoint_9a6ad : Cond.code yJ11_isValidCodePoint_9a6ad cJ11_isValidCodePoint_9a6ad 2 (some .boolean) ∈ zgt := zgt_in (zt2 (List.mem_of_getElem? (i := 88) rfl)) rfl
set_option maxRecDepth 100000 in
theorem ktJ11_isValidCodePoint_9a6ad : Cond.static yJ11_isValidCodePoint_9a6ad ∈ zgt := zgt_in (zt2 (List.mem_of_getElem? (i := 87) rfl)) rfl
set_option maxRecDepth 100000 in
theorem kcJ11_highSurrogate_5068e : Cond.code yJ11_highSurrogate_5068e cJ11_highSurrogate_5068e 1 (some .char) ∈ zgt := zgt_in (zt2 (List.mem_of_getElem? (i := 91) rfl)) rfl
set_option maxRecDepth 100000 in
theorem ktJ11_highSurrogate_5068e : Cond.static yJ11_highSurrogate_5068e ∈ zgt := zgt_in (zt2 (List.mem_of_getElem? (i := 90) rfl)) rfl
set_option maxRecDepth 100000 in
theorem kcJ11_lowSurrogate_5068e : Cond.code yJ11_lowSurrogate_5068e cJ11_lowSurrogate_5068e 1 (some .char) ∈ zgt := zgt_in (zt2 (List.mem_of_getElem? (i := 95) rfl)) rfl
set_option maxRecDepth 100000 in
theorem ktJ11_lowSurrogate_5068e : Cond.static yJ11_lowSurrogate_5068e ∈ zgt := zgt_in (zt2 (List.mem_of_getElem? (i := 94) rfl)) rfl
set_option maxRecDepth 100000 in
theorem kcJ6_bitCount_0f7a4 : Cond.code yJ6_bitCount_0f7a4 cJ6_bitCount_0f7a4 1 (some .int) ∈ zgt := zgt_in (zt2 (List.mem_of_getElem? (i := 218) rfl)) rfl
set_option maxRecDepth 100000 in
theorem ktJ6_bitCount_0f7a4 : Cond.static yJ6_bitCount_0f7a4 ∈ zgt := zgt_in (zt2 (List.mem_of_getElem? (i := 217) rfl)) rfl
set_option maxRecDepth 100000 in
theorem kcJ9_abs_0f7a4 : Cond.code yJ9_abs_0f7a4 cJ9_abs_0f7a4 1 (some .int) ∈ zgt := zgt_in (zt3 (List.mem_of_getElem? (i := 214) rfl)) rfl
set_option maxRecDepth 100000 in
theorem ktJ9_abs_0f7a4 : Cond.static yJ9_abs_0f7a4 ∈ zgt := zgt_in (zt3 (List.mem_of_getElem? (i := 213) rfl)) rfl
set_option maxRecDepth 100000 in
theorem kcJ9_max_7cf53 : Cond.code yJ9_max_7cf53 cJ9_max_7cf53 2 (some .int) ∈ zgt := zgt_in (zt2 (List.mem_of_getElem? (i := 41) rfl)) rfl
set_option maxRecDepth 100000 in
theorem ktJ9_max_7cf53 : Cond.static yJ9_max_7cf53 ∈ zgt := zgt_in (zt2 (List.mem_of_getElem? (i := 40) rfl)) rfl
set_option maxRecDepth 100000 in
theorem kcJ9_min_7cf53 : Cond.code yJ9_min_7cf53 cJ9_min_7cf53 2 (some .int) ∈ zgt := zgt_in (zt2 (List.mem_of_getElem? (i := 44) rfl)) rfl
set_option maxRecDepth 100000 in
theorem ktJ9_min_7cf53 : Cond.static yJ9_min_7cf53 ∈ zgt := zgt_in (zt2 (List.mem_of_getElem? (i := 43) rfl)) rfl
set_option maxRecDepth 100000 in
theorem kcJ0_length_8abf5 : Cond.code yJ0_length_8abf5 cJ0_length_8abf5 1 (some .int) ∈ zgt := zgt_in (zt2 (List.mem_of_getElem? (i := 28) rfl)) rfl
set_option maxRecDepth 100000 in
theorem knJ0_length_8abf5 : Cond.instanceMethod yJ0_length_8abf5 ∈ zgt := zgt_in (zt2 (List.mem_of_getElem? (i := 26) rfl)) rfl
set_option maxRecDepth 100000 in
theorem ksJ0_length_8abf5 : Cond.selects RJ0 yJ0_length_8abf5 yJ0_length_8abf5 ∈ zgt := zgt_in (zt2 (List.mem_of_getElem? (i := 27) rfl)) rfl
set_option maxRecDepth 100000 in
theorem kcJ0_indexOf_0f7a4 : Cond.code yJ0_indexOf_0f7a4 cJ0_indexOf_0f7a4 2 (some .int) ∈ zgt := zgt_in (zt2 (List.mem_of_getElem? (i := 14) rfl)) rfl
set_option maxRecDepth 100000 in
theorem knJ0_indexOf_0f7a4 : Cond.instanceMethod yJ0_indexOf_0f7a4 ∈ zgt := zgt_in (zt2 (List.mem_of_getElem? (i := 12) rfl)) rfl
set_option maxRecDepth 100000 in
theorem ksJ0_indexOf_0f7a4 : Cond.selects RJ0 yJ0_indexOf_0f7a4 yJ0_indexOf_0f7a4 ∈ zgt := zgt_in (zt2 (List.mem_of_getElem? (i := 13) rfl)) rfl
set_option maxRecDepth 100000 in
theorem kcJ0_indexOf_7cf53 : Cond.code yJ0_indexOf_7cf53 cJ0_indexOf_7cf53 3 (some .int) ∈ zgt := zgt_in (zt2 (List.mem_of_getElem? (i := 18) rfl)) rfl
set_option maxRecDepth 100000 in
theorem knJ0_indexOf_7cf53 : Cond.instanceMethod yJ0_indexOf_7cf53 ∈ zgt := zgt_in (zt2 (List.mem_of_getElem? (i := 16) rfl)) rfl
set_option maxRecDepth 100000 in
theorem ksJ0_indexOf_7cf53 : Cond.selects RJ0 yJ0_indexOf_7cf53 yJ0_indexOf_7cf53 ∈ zgt := zgt_in (zt2 (List.mem_of_getElem? (i := 17) rfl)) rfl
set_option maxRecDepth 100000 in
theorem kcJ0_coder_7d493 : Cond.code yJ0_coder_7d493 cJ0_coder_7d493 1 (some .byte) ∈ zgt := zgt_in (zt2 (List.mem_of_getElem? (i := 32) rfl)) rfl
set_option maxRecDepth 100000 in
theorem knJ0_coder_7d493 : Cond.instanceMethod yJ0_coder_7d493 ∈ zgt := zgt_in (zt2 (List.mem_of_getElem? (i := 30) rfl)) rfl
set_option maxRecDepth 100000 in
theorem ksJ0_coder_7d493 : Cond.selects RJ0 yJ0_coder_7d493 yJ0_coder_7d493 ∈ zgt := zgt_in (zt2 (List.mem_of_getElem? (i := 31) rfl)) rfl
set_option maxRecDepth 100000 in
theorem kcJ0_isLatin1_aae02 : Cond.code yJ0_isLatin1_aae02 cJ0_isLatin1_aae02 1 (some .boolean) ∈ zgt := zgt_in (zt2 (List.mem_of_getElem? (i := 22) rfl)) rfl
set_option maxRecDepth 100000 in
theorem knJ0_isLatin1_aae02 : Cond.instanceMethod yJ0_isLatin1_aae02 ∈ zgt := zgt_in (zt2 (List.mem_of_getElem? (i := 20) rfl)) rfl
set_option maxRecDepth 100000 in
theorem ksJ0_isLatin1_aae02 : Cond.selects RJ0 yJ0_isLatin1_aae02 yJ0_isLatin1_aae02 ∈ zgt := zgt_in (zt2 (List.mem_of_getElem? (i := 21) rfl)) rfl
set_option maxRecDepth 100000 in
theorem kcJ0_checkBoundsBeginEnd_23922 : Cond.code yJ0_checkBoundsBeginEnd_23922 cJ0_checkBoundsBeginEnd_23922 3 none ∈ zgt := zgt_in (zt2 (List.mem_of_getElem? (i := 65) rfl)) rfl
set_option maxRecDepth 100000 in
theorem ktJ0_checkBoundsBeginEnd_23922 : Cond.static yJ0_checkBoundsBeginEnd_23922 ∈ zgt := zgt_in (zt2 (List.mem_of_getElem? (i := 64) rfl)) rfl
set_option maxRecDepth 100000 in
theorem kcJ1_canEncode_9a6ad : Cond.code yJ1_canEncode_9a6ad cJ1_canEncode_9a6ad 1 (some .boolean) ∈ zgt := zgt_in (zt2 (List.mem_of_getElem? (i := 38) rfl)) rfl
set_option maxRecDepth 100000 in
theorem ktJ1_canEncode_9a6ad : Cond.static yJ1_canEncode_9a6ad ∈ zgt := zgt_in (zt2 (List.mem_of_getElem? (i := 37) rfl)) rfl
set_option maxRecDepth 100000 in
theorem kcJ1_indexOf_4cfef : Cond.code yJ1_indexOf_4cfef cJ1_indexOf_4cfef 4 (some .int) ∈ zgt := zgt_in (zt2 (List.mem_of_getElem? (i := 35) rfl)) rfl
set_option maxRecDepth 100000 in
theorem ktJ1_indexOf_4cfef : Cond.static yJ1_indexOf_4cfef ∈ zgt := zgt_in (zt2 (List.mem_of_getElem? (i := 34) rfl)) rfl
set_option maxRecDepth 100000 in
theorem kcJ1_indexOfChar_4cfef : Cond.code yJ1_indexOfChar_4cfef cJ1_indexOfChar_4cfef 6 (some .int) ∈ zgt := zgt_in (zt2 (List.mem_of_getElem? (i := 47) rfl)) rfl
set_option maxRecDepth 100000 in
theorem ktJ1_indexOfChar_4cfef : Cond.static yJ1_indexOfChar_4cfef ∈ zgt := zgt_in (zt2 (List.mem_of_getElem? (i := 46) rfl)) rfl
set_option maxRecDepth 100000 in
theorem kcJ2_getChar_3b067 : Cond.code yJ2_getChar_3b067 cJ2_getChar_3b067 2 (some .char) ∈ zgt := zgt_in (zt2 (List.mem_of_getElem? (i := 76) rfl)) rfl
set_option maxRecDepth 100000 in
theorem ktJ2_getChar_3b067 : Cond.static yJ2_getChar_3b067 ∈ zgt := zgt_in (zt2 (List.mem_of_getElem? (i := 75) rfl)) rfl
set_option maxRecDepth 100000 in
theorem kcJ2_length_9d52b : Cond.code yJ2_length_9d52b cJ2_length_9d52b 1 (some .int) ∈ zgt := zgt_in (zt2 (List.mem_of_getElem? (i := 62) rfl)) rfl
set_option maxRecDepth 100000 in
theorem ktJ2_length_9d52b : Cond.static yJ2_length_9d52b ∈ zgt := zgt_in (zt2 (List.mem_of_getElem? (i := 61) rfl)) rfl
set_option maxRecDepth 100000 in
theorem kcJ2_indexOf_4cfef : Cond.code yJ2_indexOf_4cfef cJ2_indexOf_4cfef 4 (some .int) ∈ zgt := zgt_in (zt2 (List.mem_of_getElem? (i := 50) rfl)) rfl
set_option maxRecDepth 100000 in
theorem ktJ2_indexOf_4cfef : Cond.static yJ2_indexOf_4cfef ∈ zgt := zgt_in (zt2 (List.mem_of_getElem? (i := 49) rfl)) rfl
set_option maxRecDepth 100000 in
theorem kcJ2_indexOfChar_4cfef : Cond.code yJ2_indexOfChar_4cfef cJ2_indexOfChar_4cfef 4 (some .int) ∈ zgt := zgt_in (zt2 (List.mem_of_getElem? (i := 56) rfl)) rfl
set_option maxRecDepth 100000 in
theorem ktJ2_indexOfChar_4cfef : Cond.static yJ2_indexOfChar_4cfef ∈ zgt := zgt_in (zt2 (List.mem_of_getElem? (i := 55) rfl)) rfl
set_option maxRecDepth 100000 in
theorem kcJ2_indexOfCharUnsafe_4cfef : Cond.code yJ2_indexOfCharUnsafe_4cfef cJ2_indexOfCharUnsafe_4cfef 5 (some .int) ∈ zgt := zgt_in (zt2 (List.mem_of_getElem? (i := 73) rfl)) rfl
set_option maxRecDepth 100000 in
theorem ktJ2_indexOfCharUnsafe_4cfef : Cond.static yJ2_indexOfCharUnsafe_4cfef ∈ zgt := zgt_in (zt2 (List.mem_of_getElem? (i := 72) rfl)) rfl
set_option maxRecDepth 100000 in
theorem kcJ2_indexOfSupplementary_4cfef : Cond.code yJ2_indexOfSupplementary_4cfef cJ2_indexOfSupplementary_4cfef 7 (some .int) ∈ zgt := zgt_in (zt2 (List.mem_of_getElem? (i := 85) rfl)) rfl
set_option maxRecDepth 100000 in
theorem ktJ2_indexOfSupplementary_4cfef : Cond.static yJ2_indexOfSupplementary_4cfef ∈ zgt := zgt_in (zt2 (List.mem_of_getElem? (i := 84) rfl)) rfl
set_option maxRecDepth 100000 in
theorem kcJ2_checkBoundsBeginEnd_d044e : Cond.code yJ2_checkBoundsBeginEnd_d044e cJ2_checkBoundsBeginEnd_d044e 3 none ∈ zgt := zgt_in (zt2 (List.mem_of_getElem? (i := 59) rfl)) rfl
set_option maxRecDepth 100000 in
theorem ktJ2_checkBoundsBeginEnd_d044e : Cond.static yJ2_checkBoundsBeginEnd_d044e ∈ zgt := zgt_in (zt2 (List.mem_of_getElem? (i := 58) rfl)) rfl
set_option maxRecDepth 100000 in
theorem kcJ7_fill_53178 : Cond.code yJ7_fill_53178 cJ7_fill_53178 4 none ∈ zgt := zgt_in (zt3 (List.mem_of_getElem? (i := 190) rfl)) rfl
set_option maxRecDepth 100000 in
theorem ktJ7_fill_53178 : Cond.static yJ7_fill_53178 ∈ zgt := zgt_in (zt3 (List.mem_of_getElem? (i := 189) rfl)) rfl
set_option maxRecDepth 100000 in
theorem kcJ3_checkFromToIndex_8c36e : Cond.code yJ3_checkFromToIndex_8c36e cJ3_checkFromToIndex_8c36e 4 (some .int) ∈ zgt := zgt_in (zt2 (List.mem_of_getElem? (i := 70) rfl)) rfl
set_option maxRecDepth 100000 in
theorem ktJ3_checkFromToIndex_8c36e : Cond.static yJ3_checkFromToIndex_8c36e ∈ zgt := zgt_in (zt2 (List.mem_of_getElem? (i := 69) rfl)) rfl
set_option maxRecDepth 100000 in
theorem lkX6_73 : zlkS RX6 73 mdX6_outside 3 := ⟨⟨Or.inl (zgt_in (zt1 (List.mem_of_getElem? (i := 207) rfl)) rfl), niRX6, kcX6_outside, ⟨by decide, by decide, by decide +kernel⟩, by decide⟩, ktX6_outside⟩
set_option maxRecDepth 100000 in
theorem lkX6_77 : zlkV RX6 77 mdX1_isFull 0 := ⟨⟨Or.inl (zgt_in (zt1 (List.mem_of_getElem? (i := 210) rfl)) rfl), niRX1, kcX1_isFull, ⟨by decide, by decide, by decide +kernel⟩, by decide⟩, knX1_isFull, ksX1_isFull⟩
set_option maxRecDepth 100000 in
theorem lkX6_81 : zlkS RX6 81 mdX6_firstOf 3 := ⟨⟨Or.inl (zgt_in (zt1 (List.mem_of_getElem? (i := 214) rfl)) rfl), niRX6, kcX6_firstOf, ⟨by decide, by decide, by decide +kernel⟩, by decide⟩, ktX6_firstOf⟩
set_option maxRecDepth 100000 in
theorem lkX6_84 : zlkV RX6 84 mdX6_refuse 1 := ⟨⟨Or.inl (zgt_in (zt1 (List.mem_of_getElem? (i := 217) rfl)) rfl), niRX6, kcX6_refuse, ⟨by decide, by decide, by decide +kernel⟩, by decide⟩, knX6_refuse, ksX6_refuse⟩
set_option maxRecDepth 100000 in
theorem lkX6_88 : zlkV RX6 88 mdX1_add 1 := ⟨⟨Or.inl (zgt_in (zt1 (List.mem_of_getElem? (i := 221) rfl)) rfl), niRX1, kcX1_add, ⟨by decide, by decide, by decide +kernel⟩, by decide⟩, knX1_add, ksX1_add⟩
set_option maxRecDepth 100000 in
theorem lkX6_96 : zlkV RX6 96 mdX1_badForm 0 := ⟨⟨Or.inl (zgt_in (zt1 (List.mem_of_getElem? (i := 230) rfl)) rfl), niRX1, kcX1_badForm, ⟨by decide, by decide, by decide +kernel⟩, by decide⟩, knX1_badForm, ksX1_badForm⟩
set_option maxRecDepth 100000 in
theorem lkX6_100 : zlkV RX6 100 mdX0_become 1 := ⟨⟨Or.inl (zgt_in (zt2 (List.mem_of_getElem? (i := 100) rfl)) rfl), niRX0, kcX0_become, ⟨by decide, by decide, by decide +kernel⟩, by decide⟩, knX0_become, ksX0_become⟩
set_option maxRecDepth 100000 in
theorem lkX6_104 : zlkV RX6 104 mdX1_tellAll 1 := ⟨⟨Or.inl (zgt_in (zt2 (List.mem_of_getElem? (i := 107) rfl)) rfl), niRX1, kcX1_tellAll, ⟨by decide, by decide, by decide +kernel⟩, by decide⟩, knX1_tellAll, ksX1_tellAll⟩
set_option maxRecDepth 100000 in
theorem lkX6_108 : zlkV RX6 108 mdX1_drop 0 := ⟨⟨Or.inl (zgt_in (zt2 (List.mem_of_getElem? (i := 198) rfl)) rfl), niRX1, kcX1_drop, ⟨by decide, by decide, by decide +kernel⟩, by decide⟩, knX1_drop, ksX1_drop⟩
set_option maxRecDepth 100000 in
theorem lkX6_111 : zlkV RX6 111 mdX6_nobody 1 := ⟨⟨Or.inl (zgt_in (zt2 (List.mem_of_getElem? (i := 207) rfl)) rfl), niRX6, kcX6_nobody, ⟨by decide, by decide, by decide +kernel⟩, by decide⟩, knX6_nobody, ksX6_nobody⟩
set_option maxRecDepth 100000 in
theorem lkX6_114 : zlkS RX6 114 mdX6_otherThan 2 := ⟨⟨Or.inl (zgt_in (zt2 (List.mem_of_getElem? (i := 212) rfl)) rfl), niRX6, kcX6_otherThan, ⟨by decide, by decide, by decide +kernel⟩, by decide⟩, ktX6_otherThan⟩
set_option maxRecDepth 100000 in
theorem lkX6_127 : zlkV RX6 127 mdX0_kinOf 1 := ⟨⟨Or.inl (zgt_in (zt2 (List.mem_of_getElem? (i := 215) rfl)) rfl), niRX0, kcX0_kinOf, ⟨by decide, by decide, by decide +kernel⟩, by decide⟩, knX0_kinOf, ksX0_kinOf⟩
set_option maxRecDepth 100000 in
theorem lkX6_130 : zlkS RX6 130 mdJ6_bitCount_0f7a4 1 := ⟨⟨Or.inl (zgt_in (zt2 (List.mem_of_getElem? (i := 216) rfl)) rfl), niRJ6, kcJ6_bitCount_0f7a4, ⟨by decide, by decide, by decide +kernel⟩, by decide⟩, ktJ6_bitCount_0f7a4⟩
set_option maxRecDepth 100000 in
theorem lkX6_138 : zlkV RX6 138 mdX6_notTwo 2 := ⟨⟨Or.inl (zgt_in (zt2 (List.mem_of_getElem? (i := 226) rfl)) rfl), niRX6, kcX6_notTwo, ⟨by decide, by decide, by decide +kernel⟩, by decide⟩, knX6_notTwo, ksX6_notTwo⟩
set_option maxRecDepth 100000 in
theorem lkX6_141 : zlkV RX6 141 mdX0_hasSigned 2 := ⟨⟨Or.inl (zgt_in (zt2 (List.mem_of_getElem? (i := 231) rfl)) rfl), niRX0, kcX0_hasSigned, ⟨by decide, by decide, by decide +kernel⟩, by decide⟩, knX0_hasSigned, ksX0_hasSigned⟩
set_option maxRecDepth 100000 in
theorem lkX6_145 : zlkS RX6 145 mdX6_bit 1 := ⟨⟨Or.inl (zgt_in (zt2 (List.mem_of_getElem? (i := 232) rfl)) rfl), niRX6, kcX6_bit, ⟨by decide, by decide, by decide +kernel⟩, by decide⟩, ktX6_bit⟩
set_option maxRecDepth 100000 in
theorem lkX6_149 : zlkV RX6 149 mdX0_atFeud 2 := ⟨⟨Or.inl (zgt_in (zt2 (List.mem_of_getElem? (i := 235) rfl)) rfl), niRX0, kcX0_atFeud, ⟨by decide, by decide, by decide +kernel⟩, by decide⟩, knX0_atFeud, ksX0_atFeud⟩
set_option maxRecDepth 100000 in
theorem lkX6_152 : zlkV RX6 152 mdX0_isKin 2 := ⟨⟨Or.inl (zgt_in (zt2 (List.mem_of_getElem? (i := 236) rfl)) rfl), niRX0, kcX0_isKin, ⟨by decide, by decide, by decide +kernel⟩, by decide⟩, knX0_isKin, ksX0_isKin⟩
set_option maxRecDepth 100000 in
theorem lkX6_155 : zlkV RX6 155 mdX0_dues 2 := ⟨⟨Or.inl (zgt_in (zt3 (List.mem_of_getElem? (i := 0) rfl)) rfl), niRX0, kcX0_dues, ⟨by decide, by decide, by decide +kernel⟩, by decide⟩, knX0_dues, ksX0_dues⟩
set_option maxRecDepth 100000 in
theorem lkX6_158 : zlkV RX6 158 mdX0_turnSigning 2 := ⟨⟨Or.inl (zgt_in (zt3 (List.mem_of_getElem? (i := 5) rfl)) rfl), niRX0, kcX0_turnSigning, ⟨by decide, by decide, by decide +kernel⟩, by decide⟩, knX0_turnSigning, ksX0_turnSigning⟩
set_option maxRecDepth 100000 in
theorem lkX6_161 : zlkV RX6 161 mdX0_turnFeud 2 := ⟨⟨Or.inl (zgt_in (zt3 (List.mem_of_getElem? (i := 10) rfl)) rfl), niRX0, kcX0_turnFeud, ⟨by decide, by decide, by decide +kernel⟩, by decide⟩, knX0_turnFeud, ksX0_turnFeud⟩
set_option maxRecDepth 100000 in
theorem lkX6_164 : zlkV RX6 164 mdX0_mayPass 1 := ⟨⟨Or.inl (zgt_in (zt3 (List.mem_of_getElem? (i := 23) rfl)) rfl), niRX0, kcX0_mayPass, ⟨by decide, by decide, by decide +kernel⟩, by decide⟩, knX0_mayPass, ksX0_mayPass⟩
set_option maxRecDepth 100000 in
theorem lkX6_168 : zlkV RX6 168 mdX0_passYears 1 := ⟨⟨Or.inl (zgt_in (zt3 (List.mem_of_getElem? (i := 24) rfl)) rfl), niRX0, kcX0_passYears, ⟨by decide, by decide, by decide +kernel⟩, by decide⟩, knX0_passYears, ksX0_passYears⟩
set_option maxRecDepth 100000 in
theorem lkX6_171 : zlkV RX6 171 mdX0_wealth 0 := ⟨⟨Or.inl (zgt_in (zt3 (List.mem_of_getElem? (i := 25) rfl)) rfl), niRX0, kcX0_wealth, ⟨by decide, by decide, by decide +kernel⟩, by decide⟩, knX0_wealth, ksX0_wealth⟩
set_option maxRecDepth 100000 in
theorem lkX6_174 : zlkV RX6 174 mdX6_thinkAhead 1 := ⟨⟨Or.inl (zgt_in (zt3 (List.mem_of_getElem? (i := 33) rfl)) rfl), niRX6, kcX6_thinkAhead, ⟨by decide, by decide, by decide +kernel⟩, by decide⟩, knX6_thinkAhead, ksX6_thinkAhead⟩
set_option maxRecDepth 100000 in
theorem lkX6_177 : zlkV RX6 177 mdX0_passYear 1 := ⟨⟨Or.inl (zgt_in (zt3 (List.mem_of_getElem? (i := 49) rfl)) rfl), niRX0, kcX0_passYear, ⟨by decide, by decide, by decide +kernel⟩, by decide⟩, knX0_passYear, ksX0_passYear⟩
set_option maxRecDepth 100000 in
theorem lkX6_180 : zlkV RX6 180 mdX6_steadyAfter 0 := ⟨⟨Or.inl (zgt_in (zt3 (List.mem_of_getElem? (i := 54) rfl)) rfl), niRX6, kcX6_steadyAfter, ⟨by decide, by decide, by decide +kernel⟩, by decide⟩, knX6_steadyAfter, ksX6_steadyAfter⟩
set_option maxRecDepth 100000 in
theorem lkX6_183 : zlkV RX6 183 mdX6_firstRuin 1 := ⟨⟨Or.inl (zgt_in (zt3 (List.mem_of_getElem? (i := 62) rfl)) rfl), niRX6, kcX6_firstRuin, ⟨by decide, by decide, by decide +kernel⟩, by decide⟩, knX6_firstRuin, ksX6_firstRuin⟩
set_option maxRecDepth 100000 in
theorem lkX6_189 : zlkV RX6 189 mdX5_read 1 := ⟨⟨Or.inl (zgt_in (zt3 (List.mem_of_getElem? (i := 74) rfl)) rfl), niRX5, kcX5_read, ⟨by decide, by decide, by decide +kernel⟩, by decide⟩, knX5_read, ksX5_read⟩
set_option maxRecDepth 100000 in
theorem lkX6_192 : zlkV RX6 192 mdX5_reachOf 1 := ⟨⟨Or.inl (zgt_in (zt3 (List.mem_of_getElem? (i := 79) rfl)) rfl), niRX5, kcX5_reachOf, ⟨by decide, by decide, by decide +kernel⟩, by decide⟩, knX5_reachOf, ksX5_reachOf⟩
set_option maxRecDepth 100000 in
theorem lkX6_195 : zlkV RX6 195 mdX5_steps 2 := ⟨⟨Or.inl (zgt_in (zt3 (List.mem_of_getElem? (i := 92) rfl)) rfl), niRX5, kcX5_steps, ⟨by decide, by decide, by decide +kernel⟩, by decide⟩, knX5_steps, ksX5_steps⟩
set_option maxRecDepth 100000 in
theorem lkX6_198 : zlkV RX6 198 mdX5_howManyGroups 0 := ⟨⟨Or.inl (zgt_in (zt3 (List.mem_of_getElem? (i := 104) rfl)) rfl), niRX5, kcX5_howManyGroups, ⟨by decide, by decide, by decide +kernel⟩, by decide⟩, knX5_howManyGroups, ksX5_howManyGroups⟩
set_option maxRecDepth 100000 in
theorem lkX6_201 : zlkV RX6 201 mdX5_mostInGroup 0 := ⟨⟨Or.inl (zgt_in (zt3 (List.mem_of_getElem? (i := 109) rfl)) rfl), niRX5, kcX5_mostInGroup, ⟨by decide, by decide, by decide +kernel⟩, by decide⟩, knX5_mostInGroup, ksX5_mostInGroup⟩
set_option maxRecDepth 100000 in
theorem lkX6_204 : zlkV RX6 204 mdX5_threes 0 := ⟨⟨Or.inl (zgt_in (zt3 (List.mem_of_getElem? (i := 115) rfl)) rfl), niRX5, kcX5_threes, ⟨by decide, by decide, by decide +kernel⟩, by decide⟩, knX5_threes, ksX5_threes⟩
set_option maxRecDepth 100000 in
theorem lkX6_207 : zlkV RX6 207 mdX5_greatestClan 0 := ⟨⟨Or.inl (zgt_in (zt3 (List.mem_of_getElem? (i := 123) rfl)) rfl), niRX5, kcX5_greatestClan, ⟨by decide, by decide, by decide +kernel⟩, by decide⟩, knX5_greatestClan, ksX5_greatestClan⟩
set_option maxRecDepth 100000 in
theorem lkX6_210 : zlkV RX6 210 mdX6_bestChange 3 := ⟨⟨Or.inl (zgt_in (zt3 (List.mem_of_getElem? (i := 135) rfl)) rfl), niRX6, kcX6_bestChange, ⟨by decide, by decide, by decide +kernel⟩, by decide⟩, knX6_bestChange, ksX6_bestChange⟩
set_option maxRecDepth 100000 in
theorem lkX6_214 : zlkV RX6 214 mdX6_wealthWithFeud 4 := ⟨⟨Or.inl (zgt_in (zt3 (List.mem_of_getElem? (i := 165) rfl)) rfl), niRX6, kcX6_wealthWithFeud, ⟨by decide, by decide, by decide +kernel⟩, by decide⟩, knX6_wealthWithFeud, ksX6_wealthWithFeud⟩
set_option maxRecDepth 100000 in
theorem lkX6_218 : zlkS RX6 218 mdX6_isIn 2 := ⟨⟨Or.inl (zgt_in (zt3 (List.mem_of_getElem? (i := 178) rfl)) rfl), niRX6, kcX6_isIn, ⟨by decide, by decide, by decide +kernel⟩, by decide⟩, ktX6_isIn⟩
set_option maxRecDepth 100000 in
theorem lkX6_221 : zlkV RX6 221 mdX4_seatAll 1 := ⟨⟨Or.inl (zgt_in (zt3 (List.mem_of_getElem? (i := 183) rfl)) rfl), niRX4, kcX4_seatAll, ⟨by decide, by decide, by decide +kernel⟩, by decide⟩, knX4_seatAll, ksX4_seatAll⟩
set_option maxRecDepth 100000 in
theorem lkX6_224 : zlkV RX6 224 mdX4_roomOf 1 := ⟨⟨Or.inl (zgt_in (zt3 (List.mem_of_getElem? (i := 196) rfl)) rfl), niRX4, kcX4_roomOf, ⟨by decide, by decide, by decide +kernel⟩, by decide⟩, knX4_roomOf, ksX4_roomOf⟩
set_option maxRecDepth 100000 in
theorem lkX6_227 : zlkV RX6 227 mdX3_pairAll 2 := ⟨⟨Or.inl (zgt_in (zt3 (List.mem_of_getElem? (i := 205) rfl)) rfl), niRX3, kcX3_pairAll, ⟨by decide, by decide, by decide +kernel⟩, by decide⟩, knX3_pairAll, ksX3_pairAll⟩
set_option maxRecDepth 100000 in
theorem lkX6_231 : zlkV RX6 231 mdX3_partnerOf 1 := ⟨⟨Or.inl (zgt_in (zt3 (List.mem_of_getElem? (i := 235) rfl)) rfl), niRX3, kcX3_partnerOf, ⟨by decide, by decide, by decide +kernel⟩, by decide⟩, knX3_partnerOf, ksX3_partnerOf⟩
set_option maxRecDepth 100000 in
theorem lkX6_234 : zlkV RX6 234 mdX0_kinTwos 0 := ⟨⟨Or.inl (zgt_in (zt4 (List.mem_of_getElem? (i := 7) rfl)) rfl), niRX0, kcX0_kinTwos, ⟨by decide, by decide, by decide +kernel⟩, by decide⟩, knX0_kinTwos, ksX0_kinTwos⟩
set_option maxRecDepth 100000 in
theorem lkX6_237 : zlkS RX6 237 mdX6_notOdds 3 := ⟨⟨Or.inl (zgt_in (zt4 (List.mem_of_getElem? (i := 16) rfl)) rfl), niRX6, kcX6_notOdds, ⟨by decide, by decide, by decide +kernel⟩, by decide⟩, ktX6_notOdds⟩
set_option maxRecDepth 100000 in
theorem lkX6_242 : zlkV RX6 242 mdX2_goodWays 6 := ⟨⟨Or.inl (zgt_in (zt4 (List.mem_of_getElem? (i := 20) rfl)) rfl), niRX2, kcX2_goodWays, ⟨by decide, by decide, by decide +kernel⟩, by decide⟩, knX2_goodWays, ksX2_goodWays⟩
set_option maxRecDepth 100000 in
theorem lkX6_246 : zlkS RX6 246 mdX2_allWays 2 := ⟨⟨Or.inl (zgt_in (zt4 (List.mem_of_getElem? (i := 31) rfl)) rfl), niRX2, kcX2_allWays, ⟨by decide, by decide, by decide +kernel⟩, by decide⟩, ktX2_allWays⟩
set_option maxRecDepth 100000 in
theorem lkX6_250 : zlkS RX6 250 mdX6_partOf 3 := ⟨⟨Or.inl (zgt_in (zt4 (List.mem_of_getElem? (i := 34) rfl)) rfl), niRX6, kcX6_partOf, ⟨by decide, by decide, by decide +kernel⟩, by decide⟩, ktX6_partOf⟩
set_option maxRecDepth 100000 in
theorem lkX6_254 : zlkS RX6 254 mdJ9_max_7cf53 2 := ⟨⟨Or.inl (zgt_in (zt4 (List.mem_of_getElem? (i := 44) rfl)) rfl), niRJ9, kcJ9_max_7cf53, ⟨by decide, by decide, by decide +kernel⟩, by decide⟩, ktJ9_max_7cf53⟩
set_option maxRecDepth 100000 in
theorem lkX6_259 : zlkV RX6 259 mdX0_setSigning 3 := ⟨⟨Or.inl (zgt_in (zt3 (List.mem_of_getElem? (i := 155) rfl)) rfl), niRX0, kcX0_setSigning, ⟨by decide, by decide, by decide +kernel⟩, by decide⟩, knX0_setSigning, ksX0_setSigning⟩
set_option maxRecDepth 100000 in
theorem lkX6_263 : zlkV RX6 263 mdX6_goesAsTold 1 := ⟨⟨Or.inl (zgt_in (zt4 (List.mem_of_getElem? (i := 53) rfl)) rfl), niRX6, kcX6_goesAsTold, ⟨by decide, by decide, by decide +kernel⟩, by decide⟩, knX6_goesAsTold, ksX6_goesAsTold⟩
set_option maxRecDepth 100000 in
theorem lkX6_269 : zlkV RX6 269 mdX0_has 1 := ⟨⟨Or.inl (zgt_in (zt2 (List.mem_of_getElem? (i := 211) rfl)) rfl), niRX0, kcX0_has, ⟨by decide, by decide, by decide +kernel⟩, by decide⟩, knX0_has, ksX0_has⟩
set_option maxRecDepth 100000 in
theorem lkX6_272 : zlkV RX6 272 mdX6_drawSignings 1 := ⟨⟨Or.inl (zgt_in (zt4 (List.mem_of_getElem? (i := 73) rfl)) rfl), niRX6, kcX6_drawSignings, ⟨by decide, by decide, by decide +kernel⟩, by decide⟩, knX6_drawSignings, ksX6_drawSignings⟩
set_option maxRecDepth 100000 in
theorem lkX6_282 : zlkV RX6 282 mdX0_signings 0 := ⟨⟨Or.inl (zgt_in (zt4 (List.mem_of_getElem? (i := 92) rfl)) rfl), niRX0, kcX0_signings, ⟨by decide, by decide, by decide +kernel⟩, by decide⟩, knX0_signings, ksX0_signings⟩
set_option maxRecDepth 100000 in
theorem lkX6_285 : zlkV RX6 285 mdX0_feudTwos 0 := ⟨⟨Or.inl (zgt_in (zt4 (List.mem_of_getElem? (i := 96) rfl)) rfl), niRX0, kcX0_feudTwos, ⟨by decide, by decide, by decide +kernel⟩, by decide⟩, knX0_feudTwos, ksX0_feudTwos⟩
set_option maxRecDepth 100000 in
theorem lkX6_288 : zlkV RX6 288 mdX0_hasTwo 2 := ⟨⟨Or.inl (zgt_in (zt2 (List.mem_of_getElem? (i := 230) rfl)) rfl), niRX0, kcX0_hasTwo, ⟨by decide, by decide, by decide +kernel⟩, by decide⟩, knX0_hasTwo, ksX0_hasTwo⟩
set_option maxRecDepth 100000 in
theorem lkX6_291 : zlkV RX6 291 mdX0_isAs 1 := ⟨⟨Or.inl (zgt_in (zt3 (List.mem_of_getElem? (i := 58) rfl)) rfl), niRX0, kcX0_isAs, ⟨by decide, by decide, by decide +kernel⟩, by decide⟩, knX0_isAs, ksX0_isAs⟩
set_option maxRecDepth 100000 in
theorem lkX6_295 : zlkV RX6 295 mdX6_mayChange 3 := ⟨⟨Or.inl (zgt_in (zt3 (List.mem_of_getElem? (i := 139) rfl)) rfl), niRX6, kcX6_mayChange, ⟨by decide, by decide, by decide +kernel⟩, by decide⟩, knX6_mayChange, ksX6_mayChange⟩
set_option maxRecDepth 100000 in
theorem lkX6_299 : zlkV RX6 299 mdX6_makeChange 3 := ⟨⟨Or.inl (zgt_in (zt3 (List.mem_of_getElem? (i := 143) rfl)) rfl), niRX6, kcX6_makeChange, ⟨by decide, by decide, by decide +kernel⟩, by decide⟩, knX6_makeChange, ksX6_makeChange⟩
set_option maxRecDepth 100000 in
theorem lkX6_303 : zlkV RX6 303 mdX0_changePlaces 2 := ⟨⟨Or.inl (zgt_in (zt3 (List.mem_of_getElem? (i := 147) rfl)) rfl), niRX0, kcX0_changePlaces, ⟨by decide, by decide, by decide +kernel⟩, by decide⟩, knX0_changePlaces, ksX0_changePlaces⟩
set_option maxRecDepth 100000 in
theorem lkX6_307 : zlkV RX6 307 mdX0_setFeud 3 := ⟨⟨Or.inl (zgt_in (zt3 (List.mem_of_getElem? (i := 169) rfl)) rfl), niRX0, kcX0_setFeud, ⟨by decide, by decide, by decide +kernel⟩, by decide⟩, knX0_setFeud, ksX0_setFeud⟩
set_option maxRecDepth 100000 in
theorem lkX6_313 : zlkS RX6 313 mdX6_commonDivisor 2 := ⟨⟨Or.inl (zgt_in (zt4 (List.mem_of_getElem? (i := 37) rfl)) rfl), niRX6, kcX6_commonDivisor, ⟨by decide, by decide, by decide +kernel⟩, by decide⟩, ktX6_commonDivisor⟩
set_option maxRecDepth 100000 in
theorem lkX0_27 : Cond.methodLink RX0 27 arraycopyName ∈ zgt ∧ Cond.native arraycopyName ∈ zgt ∧ Cond.static arraycopyName ∈ zgt ∧ Cond.initialized "java/lang/System" ∈ zgt := ⟨zgt_in (zt2 (List.mem_of_getElem? (i := 104) rfl)) rfl, zgt_in (zt2 (List.mem_of_getElem? (i := 106) rfl)) rfl, zgt_in (zt2 (List.mem_of_getElem? (i := 105) rfl)) rfl, niRJ10⟩
set_option maxRecDepth 100000 in
theorem lkX0_40 : zlkV RX0 40 mdX0_has 1 := ⟨⟨Or.inl (zgt_in (zt2 (List.mem_of_getElem? (i := 139) rfl)) rfl), niRX0, kcX0_has, ⟨by decide, by decide, by decide +kernel⟩, by decide⟩, knX0_has, ksX0_has⟩
set_option maxRecDepth 100000 in
theorem lkX0_44 : zlkV RX0 44 mdX0_hasTwo 2 := ⟨⟨Or.inl (zgt_in (zt2 (List.mem_of_getElem? (i := 135) rfl)) rfl), niRX0, kcX0_hasTwo, ⟨by decide, by decide, by decide +kernel⟩, by decide⟩, knX0_hasTwo, ksX0_hasTwo⟩
set_option maxRecDepth 100000 in
theorem lkX0_48 : zlkS RX0 48 mdX6_isIn 2 := ⟨⟨Or.inr (⟨"CousinsByAgreement", zNW_in (zt2 (List.mem_of_getElem? (i := 143) rfl)) rfl⟩), niRX6, kcX6_isIn, ⟨by decide, by decide, by decide +kernel⟩, by decide⟩, ktX6_isIn⟩
set_option maxRecDepth 100000 in
theorem lkX0_51 : zlkV RX0 51 mdX0_kinOf 1 := ⟨⟨Or.inl (zgt_in (zt2 (List.mem_of_getElem? (i := 185) rfl)) rfl), niRX0, kcX0_kinOf, ⟨by decide, by decide, by decide +kernel⟩, by decide⟩, knX0_kinOf, ksX0_kinOf⟩
set_option maxRecDepth 100000 in
theorem lkX0_55 : zlkV RX0 55 mdX0_hasSigned 2 := ⟨⟨Or.inl (zgt_in (zt2 (List.mem_of_getElem? (i := 131) rfl)) rfl), niRX0, kcX0_hasSigned, ⟨by decide, by decide, by decide +kernel⟩, by decide⟩, knX0_hasSigned, ksX0_hasSigned⟩
set_option maxRecDepth 100000 in
theorem lkX0_58 : zlkV RX0 58 mdX0_setSigning 3 := ⟨⟨Or.inl (zgt_in (zt2 (List.mem_of_getElem? (i := 146) rfl)) rfl), niRX0, kcX0_setSigning, ⟨by decide, by decide, by decide +kernel⟩, by decide⟩, knX0_setSigning, ksX0_setSigning⟩
set_option maxRecDepth 100000 in
theorem lkX0_62 : zlkS RX0 62 mdX0_withBit 3 := ⟨⟨Or.inl (zgt_in (zt2 (List.mem_of_getElem? (i := 150) rfl)) rfl), niRX0, kcX0_withBit, ⟨by decide, by decide, by decide +kernel⟩, by decide⟩, ktX0_withBit⟩
set_option maxRecDepth 100000 in
theorem lkX0_66 : zlkV RX0 66 mdX0_atFeud 2 := ⟨⟨Or.inl (zgt_in (zt2 (List.mem_of_getElem? (i := 161) rfl)) rfl), niRX0, kcX0_atFeud, ⟨by decide, by decide, by decide +kernel⟩, by decide⟩, knX0_atFeud, ksX0_atFeud⟩
set_option maxRecDepth 100000 in
theorem lkX0_69 : zlkV RX0 69 mdX0_setFeud 3 := ⟨⟨Or.inl (zgt_in (zt2 (List.mem_of_getElem? (i := 165) rfl)) rfl), niRX0, kcX0_setFeud, ⟨by decide, by decide, by decide +kernel⟩, by decide⟩, knX0_setFeud, ksX0_setFeud⟩
set_option maxRecDepth 100000 in
theorem lkX0_72 : zlkV RX0 72 mdX0_changeIn 3 := ⟨⟨Or.inl (zgt_in (zt3 (List.mem_of_getElem? (i := 151) rfl)) rfl), niRX0, kcX0_changeIn, ⟨by decide, by decide, by decide +kernel⟩, by decide⟩, knX0_changeIn, ksX0_changeIn⟩
set_option maxRecDepth 100000 in
theorem lkX0_76 : zlkV RX0 76 mdX0_passYear 1 := ⟨⟨Or.inl (zgt_in (zt2 (List.mem_of_getElem? (i := 181) rfl)) rfl), niRX0, kcX0_passYear, ⟨by decide, by decide, by decide +kernel⟩, by decide⟩, knX0_passYear, ksX0_passYear⟩
set_option maxRecDepth 100000 in
theorem lkX0_80 : zlkV RX0 80 mdX0_pay 2 := ⟨⟨Or.inl (zgt_in (zt2 (List.mem_of_getElem? (i := 189) rfl)) rfl), niRX0, kcX0_pay, ⟨by decide, by decide, by decide +kernel⟩, by decide⟩, knX0_pay, ksX0_pay⟩
set_option maxRecDepth 100000 in
theorem lkX0_84 : zlkV RX0 84 mdX0_dues 2 := ⟨⟨Or.inl (zgt_in (zt2 (List.mem_of_getElem? (i := 193) rfl)) rfl), niRX0, kcX0_dues, ⟨by decide, by decide, by decide +kernel⟩, by decide⟩, knX0_dues, ksX0_dues⟩
set_option maxRecDepth 100000 in
theorem lkX0_88 : zlkS RX0 88 mdJ9_min_7cf53 2 := ⟨⟨Or.inl (zgt_in (zt2 (List.mem_of_getElem? (i := 197) rfl)) rfl), niRJ9, kcJ9_min_7cf53, ⟨by decide, by decide, by decide +kernel⟩, by decide⟩, ktJ9_min_7cf53⟩
set_option maxRecDepth 100000 in
theorem lkX0_93 : zlkS RX0 93 mdJ6_bitCount_0f7a4 1 := ⟨⟨Or.inl (zgt_in (zt4 (List.mem_of_getElem? (i := 11) rfl)) rfl), niRJ6, kcJ6_bitCount_0f7a4, ⟨by decide, by decide, by decide +kernel⟩, by decide⟩, ktJ6_bitCount_0f7a4⟩
set_option maxRecDepth 100000 in
theorem lkX1_19 : zlkV RX1 19 mdX1_isFull 0 := ⟨⟨Or.inl (zgt_in (zt1 (List.mem_of_getElem? (i := 225) rfl)) rfl), niRX1, kcX1_isFull, ⟨by decide, by decide, by decide +kernel⟩, by decide⟩, knX1_isFull, ksX1_isFull⟩
set_option maxRecDepth 100000 in
theorem lkX1_23 : zlkV RX1 23 mdX1_lengthFrom 1 := ⟨⟨Or.inl (zgt_in (zt1 (List.mem_of_getElem? (i := 234) rfl)) rfl), niRX1, kcX1_lengthFrom, ⟨by decide, by decide, by decide +kernel⟩, by decide⟩, knX1_lengthFrom, ksX1_lengthFrom⟩
set_option maxRecDepth 100000 in
theorem lkX1_27 : zlkV RX1 27 mdX1_badWithin 2 := ⟨⟨Or.inl (zgt_in (zt2 (List.mem_of_getElem? (i := 2) rfl)) rfl), niRX1, kcX1_badWithin, ⟨by decide, by decide, by decide +kernel⟩, by decide⟩, knX1_badWithin, ksX1_badWithin⟩
set_option maxRecDepth 100000 in
theorem lkX1_31 : zlkV RX1 31 mdX1_at 1 := ⟨⟨Or.inl (zgt_in (zt1 (List.mem_of_getElem? (i := 238) rfl)) rfl), niRX1, kcX1_at, ⟨by decide, by decide, by decide +kernel⟩, by decide⟩, knX1_at, ksX1_at⟩
set_option maxRecDepth 100000 in
theorem lkX1_34 : zlkV RX1 34 mdX1_kindAt 1 := ⟨⟨Or.inl (zgt_in (zt2 (List.mem_of_getElem? (i := 6) rfl)) rfl), niRX1, kcX1_kindAt, ⟨by decide, by decide, by decide +kernel⟩, by decide⟩, knX1_kindAt, ksX1_kindAt⟩
set_option maxRecDepth 100000 in
theorem lkX1_37 : zlkS RX1 37 mdX1_isDigit 1 := ⟨⟨Or.inl (zgt_in (zt2 (List.mem_of_getElem? (i := 97) rfl)) rfl), niRX1, kcX1_isDigit, ⟨by decide, by decide, by decide +kernel⟩, by decide⟩, ktX1_isDigit⟩
set_option maxRecDepth 100000 in
theorem lkX1_43 : zlkV RX1 43 mdJ0_indexOf_0f7a4 1 := ⟨⟨Or.inl (zgt_in (zt2 (List.mem_of_getElem? (i := 11) rfl)) rfl), niRJ0, kcJ0_indexOf_0f7a4, ⟨by decide, by decide, by decide +kernel⟩, by decide⟩, knJ0_indexOf_0f7a4, ksJ0_indexOf_0f7a4⟩
set_option maxRecDepth 100000 in
theorem lkX1_48 : zlkV RX1 48 mdX1_digitAt 1 := ⟨⟨Or.inl (zgt_in (zt2 (List.mem_of_getElem? (i := 115) rfl)) rfl), niRX1, kcX1_digitAt, ⟨by decide, by decide, by decide +kernel⟩, by decide⟩, knX1_digitAt, ksX1_digitAt⟩
set_option maxRecDepth 100000 in
theorem lkX1_51 : zlkV RX1 51 mdX1_tellOne 2 := ⟨⟨Or.inl (zgt_in (zt2 (List.mem_of_getElem? (i := 111) rfl)) rfl), niRX1, kcX1_tellOne, ⟨by decide, by decide, by decide +kernel⟩, by decide⟩, knX1_tellOne, ksX1_tellOne⟩
set_option maxRecDepth 100000 in
theorem lkX1_55 : zlkV RX1 55 mdX1_numberAt 1 := ⟨⟨Or.inl (zgt_in (zt2 (List.mem_of_getElem? (i := 119) rfl)) rfl), niRX1, kcX1_numberAt, ⟨by decide, by decide, by decide +kernel⟩, by decide⟩, knX1_numberAt, ksX1_numberAt⟩
set_option maxRecDepth 100000 in
theorem lkX1_58 : zlkV RX1 58 mdX0_welcome 3 := ⟨⟨Or.inl (zgt_in (zt2 (List.mem_of_getElem? (i := 123) rfl)) rfl), niRX0, kcX0_welcome, ⟨by decide, by decide, by decide +kernel⟩, by decide⟩, knX0_welcome, ksX0_welcome⟩
set_option maxRecDepth 100000 in
theorem lkX1_64 : zlkV RX1 64 mdX0_turnSigning 2 := ⟨⟨Or.inl (zgt_in (zt2 (List.mem_of_getElem? (i := 127) rfl)) rfl), niRX0, kcX0_turnSigning, ⟨by decide, by decide, by decide +kernel⟩, by decide⟩, knX0_turnSigning, ksX0_turnSigning⟩
set_option maxRecDepth 100000 in
theorem lkX1_68 : zlkV RX1 68 mdX0_signBoth 2 := ⟨⟨Or.inl (zgt_in (zt2 (List.mem_of_getElem? (i := 153) rfl)) rfl), niRX0, kcX0_signBoth, ⟨by decide, by decide, by decide +kernel⟩, by decide⟩, knX0_signBoth, ksX0_signBoth⟩
set_option maxRecDepth 100000 in
theorem lkX1_71 : zlkV RX1 71 mdX0_turnFeud 2 := ⟨⟨Or.inl (zgt_in (zt2 (List.mem_of_getElem? (i := 157) rfl)) rfl), niRX0, kcX0_turnFeud, ⟨by decide, by decide, by decide +kernel⟩, by decide⟩, knX0_turnFeud, ksX0_turnFeud⟩
set_option maxRecDepth 100000 in
theorem lkX1_74 : zlkV RX1 74 mdX0_enrich 2 := ⟨⟨Or.inl (zgt_in (zt2 (List.mem_of_getElem? (i := 169) rfl)) rfl), niRX0, kcX0_enrich, ⟨by decide, by decide, by decide +kernel⟩, by decide⟩, knX0_enrich, ksX0_enrich⟩
set_option maxRecDepth 100000 in
theorem lkX1_77 : zlkV RX1 77 mdX0_mayPass 1 := ⟨⟨Or.inl (zgt_in (zt2 (List.mem_of_getElem? (i := 173) rfl)) rfl), niRX0, kcX0_mayPass, ⟨by decide, by decide, by decide +kernel⟩, by decide⟩, knX0_mayPass, ksX0_mayPass⟩
set_option maxRecDepth 100000 in
theorem lkX1_80 : zlkV RX1 80 mdX0_passYears 1 := ⟨⟨Or.inl (zgt_in (zt2 (List.mem_of_getElem? (i := 177) rfl)) rfl), niRX0, kcX0_passYears, ⟨by decide, by decide, by decide +kernel⟩, by decide⟩, knX0_passYears, ksX0_passYears⟩
set_option maxRecDepth 100000 in
theorem lkX2_34 : zlkV RX2 34 mdX0_become 1 := ⟨⟨Or.inl (zgt_in (zt4 (List.mem_of_getElem? (i := 24) rfl)) rfl), niRX0, kcX0_become, ⟨by decide, by decide, by decide +kernel⟩, by decide⟩, knX0_become, ksX0_become⟩
set_option maxRecDepth 100000 in
theorem lkX2_38 : zlkV RX2 38 mdX2_waysFrom 1 := ⟨⟨Or.inl (zgt_in (zt4 (List.mem_of_getElem? (i := 25) rfl)) rfl), niRX2, kcX2_waysFrom, ⟨by decide, by decide, by decide +kernel⟩, by decide⟩, knX2_waysFrom, ksX2_waysFrom⟩
set_option maxRecDepth 100000 in
theorem lkX2_42 : zlkV RX2 42 mdX0_has 1 := ⟨⟨Or.inl (zgt_in (zt4 (List.mem_of_getElem? (i := 29) rfl)) rfl), niRX0, kcX0_has, ⟨by decide, by decide, by decide +kernel⟩, by decide⟩, knX0_has, ksX0_has⟩
set_option maxRecDepth 100000 in
theorem lkX2_50 : zlkV RX2 50 mdX0_passYear 1 := ⟨⟨Or.inl (zgt_in (zt4 (List.mem_of_getElem? (i := 30) rfl)) rfl), niRX0, kcX0_passYear, ⟨by decide, by decide, by decide +kernel⟩, by decide⟩, knX0_passYear, ksX0_passYear⟩
set_option maxRecDepth 100000 in
theorem lkX3_28 : zlkS RX3 28 mdX3_fitting 3 := ⟨⟨Or.inl (zgt_in (zt3 (List.mem_of_getElem? (i := 209) rfl)) rfl), niRX3, kcX3_fitting, ⟨by decide, by decide, by decide +kernel⟩, by decide⟩, ktX3_fitting⟩
set_option maxRecDepth 100000 in
theorem lkX3_32 : zlkV RX3 32 mdX3_mostOf 1 := ⟨⟨Or.inl (zgt_in (zt3 (List.mem_of_getElem? (i := 216) rfl)) rfl), niRX3, kcX3_mostOf, ⟨by decide, by decide, by decide +kernel⟩, by decide⟩, knX3_mostOf, ksX3_mostOf⟩
set_option maxRecDepth 100000 in
theorem lkX3_36 : zlkV RX3 36 mdX3_choose 1 := ⟨⟨Or.inl (zgt_in (zt3 (List.mem_of_getElem? (i := 226) rfl)) rfl), niRX3, kcX3_choose, ⟨by decide, by decide, by decide +kernel⟩, by decide⟩, knX3_choose, ksX3_choose⟩
set_option maxRecDepth 100000 in
theorem lkX3_43 : zlkS RX3 43 mdJ9_abs_0f7a4 1 := ⟨⟨Or.inl (zgt_in (zt3 (List.mem_of_getElem? (i := 212) rfl)) rfl), niRJ9, kcJ9_abs_0f7a4, ⟨by decide, by decide, by decide +kernel⟩, by decide⟩, ktJ9_abs_0f7a4⟩
set_option maxRecDepth 100000 in
theorem lkX3_48 : zlkV RX3 48 mdX0_atFeud 2 := ⟨⟨Or.inl (zgt_in (zt3 (List.mem_of_getElem? (i := 215) rfl)) rfl), niRX0, kcX0_atFeud, ⟨by decide, by decide, by decide +kernel⟩, by decide⟩, knX0_atFeud, ksX0_atFeud⟩
set_option maxRecDepth 100000 in
theorem lkX3_52 : zlkV RX3 52 mdX3_leastIn 1 := ⟨⟨Or.inl (zgt_in (zt3 (List.mem_of_getElem? (i := 220) rfl)) rfl), niRX3, kcX3_leastIn, ⟨by decide, by decide, by decide +kernel⟩, by decide⟩, knX3_leastIn, ksX3_leastIn⟩
set_option maxRecDepth 100000 in
theorem lkX3_55 : zlkS RX3 55 mdX6_isIn 2 := ⟨⟨Or.inr (⟨"CousinsByAgreement", zNW_in (zt3 (List.mem_of_getElem? (i := 224) rfl)) rfl⟩), niRX6, kcX6_isIn, ⟨by decide, by decide, by decide +kernel⟩, by decide⟩, ktX6_isIn⟩
set_option maxRecDepth 100000 in
theorem lkX3_58 : zlkS RX3 58 mdJ9_max_7cf53 2 := ⟨⟨Or.inl (zgt_in (zt3 (List.mem_of_getElem? (i := 225) rfl)) rfl), niRJ9, kcJ9_max_7cf53, ⟨by decide, by decide, by decide +kernel⟩, by decide⟩, ktJ9_max_7cf53⟩
set_option maxRecDepth 100000 in
theorem lkX3_62 : zlkS RX3 62 mdJ7_fill_53178 2 := ⟨⟨Or.inl (zgt_in (zt3 (List.mem_of_getElem? (i := 230) rfl)) rfl), niRJ7, kcJ7_fill_53178, ⟨by decide, by decide, by decide +kernel⟩, by decide⟩, ktJ7_fill_53178⟩
set_option maxRecDepth 100000 in
theorem lkX3_68 : zlkV RX3 68 mdX3_leastPartner 2 := ⟨⟨Or.inl (zgt_in (zt3 (List.mem_of_getElem? (i := 231) rfl)) rfl), niRX3, kcX3_leastPartner, ⟨by decide, by decide, by decide +kernel⟩, by decide⟩, knX3_leastPartner, ksX3_leastPartner⟩
set_option maxRecDepth 100000 in
theorem lkX4_26 : Cond.methodLink RX4 26 arraycopyName ∈ zgt ∧ Cond.native arraycopyName ∈ zgt ∧ Cond.static arraycopyName ∈ zgt ∧ Cond.initialized "java/lang/System" ∈ zgt := ⟨zgt_in (zt3 (List.mem_of_getElem? (i := 187) rfl)) rfl, zgt_in (zt2 (List.mem_of_getElem? (i := 106) rfl)) rfl, zgt_in (zt2 (List.mem_of_getElem? (i := 105) rfl)) rfl, niRJ10⟩
set_option maxRecDepth 100000 in
theorem lkX4_32 : zlkS RX4 32 mdJ7_fill_53178 2 := ⟨⟨Or.inl (zgt_in (zt3 (List.mem_of_getElem? (i := 188) rfl)) rfl), niRJ7, kcJ7_fill_53178, ⟨by decide, by decide, by decide +kernel⟩, by decide⟩, ktJ7_fill_53178⟩
set_option maxRecDepth 100000 in
theorem lkX4_38 : zlkV RX4 38 mdX4_seatFrom 3 := ⟨⟨Or.inl (zgt_in (zt3 (List.mem_of_getElem? (i := 191) rfl)) rfl), niRX4, kcX4_seatFrom, ⟨by decide, by decide, by decide +kernel⟩, by decide⟩, knX4_seatFrom, ksX4_seatFrom⟩
set_option maxRecDepth 100000 in
theorem lkX4_42 : zlkS RX4 42 mdJ9_max_7cf53 2 := ⟨⟨Or.inl (zgt_in (zt3 (List.mem_of_getElem? (i := 195) rfl)) rfl), niRJ9, kcJ9_max_7cf53, ⟨by decide, by decide, by decide +kernel⟩, by decide⟩, ktJ9_max_7cf53⟩
set_option maxRecDepth 100000 in
theorem lkX4_48 : zlkS RX4 48 mdX6_isIn 2 := ⟨⟨Or.inr (⟨"CousinsByAgreement", zNW_in (zt3 (List.mem_of_getElem? (i := 200) rfl)) rfl⟩), niRX6, kcX6_isIn, ⟨by decide, by decide, by decide +kernel⟩, by decide⟩, ktX6_isIn⟩
set_option maxRecDepth 100000 in
theorem lkX5_22 : zlkV RX5 22 mdX0_kinOf 1 := ⟨⟨Or.inl (zgt_in (zt3 (List.mem_of_getElem? (i := 78) rfl)) rfl), niRX0, kcX0_kinOf, ⟨by decide, by decide, by decide +kernel⟩, by decide⟩, knX0_kinOf, ksX0_kinOf⟩
set_option maxRecDepth 100000 in
theorem lkX5_26 : zlkS RX5 26 mdX6_isIn 2 := ⟨⟨Or.inr (⟨"CousinsByAgreement", zNW_in (zt3 (List.mem_of_getElem? (i := 87) rfl)) rfl⟩), niRX6, kcX6_isIn, ⟨by decide, by decide, by decide +kernel⟩, by decide⟩, ktX6_isIn⟩
set_option maxRecDepth 100000 in
theorem lkX5_30 : zlkV RX5 30 mdX5_spread 1 := ⟨⟨Or.inl (zgt_in (zt3 (List.mem_of_getElem? (i := 83) rfl)) rfl), niRX5, kcX5_spread, ⟨by decide, by decide, by decide +kernel⟩, by decide⟩, knX5_spread, ksX5_spread⟩
set_option maxRecDepth 100000 in
theorem lkX5_33 : zlkV RX5 33 mdX5_reachOf 1 := ⟨⟨Or.inl (zgt_in (zt3 (List.mem_of_getElem? (i := 108) rfl)) rfl), niRX5, kcX5_reachOf, ⟨by decide, by decide, by decide +kernel⟩, by decide⟩, knX5_reachOf, ksX5_reachOf⟩
set_option maxRecDepth 100000 in
theorem lkX5_36 : zlkS RX5 36 mdJ6_bitCount_0f7a4 1 := ⟨⟨Or.inl (zgt_in (zt3 (List.mem_of_getElem? (i := 113) rfl)) rfl), niRJ6, kcJ6_bitCount_0f7a4, ⟨by decide, by decide, by decide +kernel⟩, by decide⟩, ktJ6_bitCount_0f7a4⟩
set_option maxRecDepth 100000 in
theorem lkX5_41 : zlkS RX5 41 mdJ9_max_7cf53 2 := ⟨⟨Or.inl (zgt_in (zt3 (List.mem_of_getElem? (i := 114) rfl)) rfl), niRJ9, kcJ9_max_7cf53, ⟨by decide, by decide, by decide +kernel⟩, by decide⟩, ktJ9_max_7cf53⟩
set_option maxRecDepth 100000 in
theorem lkX5_47 : zlkV RX5 47 mdX5_isClan 1 := ⟨⟨Or.inl (zgt_in (zt3 (List.mem_of_getElem? (i := 127) rfl)) rfl), niRX5, kcX5_isClan, ⟨by decide, by decide, by decide +kernel⟩, by decide⟩, knX5_isClan, ksX5_isClan⟩
set_option maxRecDepth 100000 in
theorem lkL_13 : zlkV RL 13 mdX6_letter 1 := ⟨⟨Or.inl (zgt_in (zt1 (List.mem_of_getElem? (i := 203) rfl)) rfl), niRX6, kcX6_letter, ⟨by decide, by decide, by decide +kernel⟩, by decide⟩, knX6_letter, ksX6_letter⟩
set_option maxRecDepth 100000 in
theorem lkL_17 : zlkV RL 17 mdX7_letter 1 := ⟨⟨Or.inl (zgt_in (zt4 (List.mem_of_getElem? (i := 191) rfl)) rfl), niRX7, kcX7_letter, ⟨by decide, by decide, by decide +kernel⟩, by decide⟩, knX7_letter, ksX7_letter⟩
set_option maxRecDepth 100000 in
theorem lkL_18 : zlkV RL 18 mdX6_county 0 := ⟨⟨Or.inl (zgt_in (zt1 (List.mem_of_getElem? (i := 226) rfl)) rfl), niRX6, kcX6_county, ⟨by decide, by decide, by decide +kernel⟩, by decide⟩, knX6_county, ksX6_county⟩
set_option maxRecDepth 100000 in
theorem lkL_22 : zlkV RL 22 mdX7_county 0 := ⟨⟨Or.inl (zgt_in (zt4 (List.mem_of_getElem? (i := 202) rfl)) rfl), niRX7, kcX7_county, ⟨by decide, by decide, by decide +kernel⟩, by decide⟩, knX7_county, ksX7_county⟩
set_option maxRecDepth 100000 in
theorem lkL_23 : zlkV RL 23 mdX6_person 2 := ⟨⟨Or.inl (zgt_in (zt2 (List.mem_of_getElem? (i := 203) rfl)) rfl), niRX6, kcX6_person, ⟨by decide, by decide, by decide +kernel⟩, by decide⟩, knX6_person, ksX6_person⟩
set_option maxRecDepth 100000 in
theorem lkL_27 : zlkV RL 27 mdX7_person 2 := ⟨⟨Or.inl (zgt_in (zt5 (List.mem_of_getElem? (i := 63) rfl)) rfl), niRX7, kcX7_person, ⟨by decide, by decide, by decide +kernel⟩, by decide⟩, knX7_person, ksX7_person⟩
set_option maxRecDepth 100000 in
theorem lkL_28 : zlkV RL 28 mdX6_tie 3 := ⟨⟨Or.inl (zgt_in (zt2 (List.mem_of_getElem? (i := 222) rfl)) rfl), niRX6, kcX6_tie, ⟨by decide, by decide, by decide +kernel⟩, by decide⟩, knX6_tie, ksX6_tie⟩
set_option maxRecDepth 100000 in
theorem lkL_32 : zlkV RL 32 mdX7_tie 3 := ⟨⟨Or.inl (zgt_in (zt5 (List.mem_of_getElem? (i := 74) rfl)) rfl), niRX7, kcX7_tie, ⟨by decide, by decide, by decide +kernel⟩, by decide⟩, knX7_tie, ksX7_tie⟩
set_option maxRecDepth 100000 in
theorem lkL_33 : zlkV RL 33 mdX6_signs 2 := ⟨⟨Or.inl (zgt_in (zt3 (List.mem_of_getElem? (i := 1) rfl)) rfl), niRX6, kcX6_signs, ⟨by decide, by decide, by decide +kernel⟩, by decide⟩, knX6_signs, ksX6_signs⟩
set_option maxRecDepth 100000 in
theorem lkL_36 : zlkV RL 36 mdX7_signs 2 := ⟨⟨Or.inl (zgt_in (zt5 (List.mem_of_getElem? (i := 78) rfl)) rfl), niRX7, kcX7_signs, ⟨by decide, by decide, by decide +kernel⟩, by decide⟩, knX7_signs, ksX7_signs⟩
set_option maxRecDepth 100000 in
theorem lkL_37 : zlkV RL 37 mdX6_feuds 2 := ⟨⟨Or.inl (zgt_in (zt3 (List.mem_of_getElem? (i := 6) rfl)) rfl), niRX6, kcX6_feuds, ⟨by decide, by decide, by decide +kernel⟩, by decide⟩, knX6_feuds, ksX6_feuds⟩
set_option maxRecDepth 100000 in
theorem lkL_40 : zlkV RL 40 mdX7_feuds 2 := ⟨⟨Or.inl (zgt_in (zt5 (List.mem_of_getElem? (i := 82) rfl)) rfl), niRX7, kcX7_feuds, ⟨by decide, by decide, by decide +kernel⟩, by decide⟩, knX7_feuds, ksX7_feuds⟩
set_option maxRecDepth 100000 in
theorem lkL_41 : zlkV RL 41 mdX6_gets 2 := ⟨⟨Or.inl (zgt_in (zt3 (List.mem_of_getElem? (i := 11) rfl)) rfl), niRX6, kcX6_gets, ⟨by decide, by decide, by decide +kernel⟩, by decide⟩, knX6_gets, ksX6_gets⟩
set_option maxRecDepth 100000 in
theorem lkL_44 : zlkV RL 44 mdX7_gets 2 := ⟨⟨Or.inl (zgt_in (zt5 (List.mem_of_getElem? (i := 86) rfl)) rfl), niRX7, kcX7_gets, ⟨by decide, by decide, by decide +kernel⟩, by decide⟩, knX7_gets, ksX7_gets⟩
set_option maxRecDepth 100000 in
theorem lkL_45 : zlkV RL 45 mdX6_turn 3 := ⟨⟨Or.inl (zgt_in (zt3 (List.mem_of_getElem? (i := 15) rfl)) rfl), niRX6, kcX6_turn, ⟨by decide, by decide, by decide +kernel⟩, by decide⟩, knX6_turn, ksX6_turn⟩
set_option maxRecDepth 100000 in
theorem lkL_48 : zlkV RL 48 mdX7_turn 3 := ⟨⟨Or.inl (zgt_in (zt5 (List.mem_of_getElem? (i := 90) rfl)) rfl), niRX7, kcX7_turn, ⟨by decide, by decide, by decide +kernel⟩, by decide⟩, knX7_turn, ksX7_turn⟩
set_option maxRecDepth 100000 in
theorem lkL_49 : zlkV RL 49 mdX6_years 1 := ⟨⟨Or.inl (zgt_in (zt3 (List.mem_of_getElem? (i := 19) rfl)) rfl), niRX6, kcX6_years, ⟨by decide, by decide, by decide +kernel⟩, by decide⟩, knX6_years, ksX6_years⟩
set_option maxRecDepth 100000 in
theorem lkL_52 : zlkV RL 52 mdX7_years 1 := ⟨⟨Or.inl (zgt_in (zt5 (List.mem_of_getElem? (i := 94) rfl)) rfl), niRX7, kcX7_years, ⟨by decide, by decide, by decide +kernel⟩, by decide⟩, knX7_years, ksX7_years⟩
set_option maxRecDepth 100000 in
theorem lkL_53 : zlkV RL 53 mdX6_hasThen 3 := ⟨⟨Or.inl (zgt_in (zt3 (List.mem_of_getElem? (i := 29) rfl)) rfl), niRX6, kcX6_hasThen, ⟨by decide, by decide, by decide +kernel⟩, by decide⟩, knX6_hasThen, ksX6_hasThen⟩
set_option maxRecDepth 100000 in
theorem lkL_56 : zlkV RL 56 mdX7_hasThen 3 := ⟨⟨Or.inl (zgt_in (zt5 (List.mem_of_getElem? (i := 102) rfl)) rfl), niRX7, kcX7_hasThen, ⟨by decide, by decide, by decide +kernel⟩, by decide⟩, knX7_hasThen, ksX7_hasThen⟩
set_option maxRecDepth 100000 in
theorem lkL_57 : zlkV RL 57 mdX6_areKin 3 := ⟨⟨Or.inl (zgt_in (zt3 (List.mem_of_getElem? (i := 37) rfl)) rfl), niRX6, kcX6_areKin, ⟨by decide, by decide, by decide +kernel⟩, by decide⟩, knX6_areKin, ksX6_areKin⟩
set_option maxRecDepth 100000 in
theorem lkL_60 : zlkV RL 60 mdX7_areKin 3 := ⟨⟨Or.inl (zgt_in (zt5 (List.mem_of_getElem? (i := 121) rfl)) rfl), niRX7, kcX7_areKin, ⟨by decide, by decide, by decide +kernel⟩, by decide⟩, knX7_areKin, ksX7_areKin⟩
set_option maxRecDepth 100000 in
theorem lkL_61 : zlkV RL 61 mdX6_allMoney 1 := ⟨⟨Or.inl (zgt_in (zt3 (List.mem_of_getElem? (i := 41) rfl)) rfl), niRX6, kcX6_allMoney, ⟨by decide, by decide, by decide +kernel⟩, by decide⟩, knX6_allMoney, ksX6_allMoney⟩
set_option maxRecDepth 100000 in
theorem lkL_64 : zlkV RL 64 mdX7_allMoney 1 := ⟨⟨Or.inl (zgt_in (zt5 (List.mem_of_getElem? (i := 125) rfl)) rfl), niRX7, kcX7_allMoney, ⟨by decide, by decide, by decide +kernel⟩, by decide⟩, knX7_allMoney, ksX7_allMoney⟩
set_option maxRecDepth 100000 in
theorem lkL_65 : zlkV RL 65 mdX6_ruined 1 := ⟨⟨Or.inl (zgt_in (zt3 (List.mem_of_getElem? (i := 45) rfl)) rfl), niRX6, kcX6_ruined, ⟨by decide, by decide, by decide +kernel⟩, by decide⟩, knX6_ruined, ksX6_ruined⟩
set_option maxRecDepth 100000 in
theorem lkL_68 : zlkV RL 68 mdX7_ruined 1 := ⟨⟨Or.inl (zgt_in (zt5 (List.mem_of_getElem? (i := 133) rfl)) rfl), niRX7, kcX7_ruined, ⟨by decide, by decide, by decide +kernel⟩, by decide⟩, knX7_ruined, ksX7_ruined⟩
set_option maxRecDepth 100000 in
theorem lkL_69 : zlkV RL 69 mdX6_first 1 := ⟨⟨Or.inl (zgt_in (zt3 (List.mem_of_getElem? (i := 50) rfl)) rfl), niRX6, kcX6_first, ⟨by decide, by decide, by decide +kernel⟩, by decide⟩, knX6_first, ksX6_first⟩
set_option maxRecDepth 100000 in
theorem lkL_72 : zlkV RL 72 mdX7_first 1 := ⟨⟨Or.inl (zgt_in (zt5 (List.mem_of_getElem? (i := 141) rfl)) rfl), niRX7, kcX7_first, ⟨by decide, by decide, by decide +kernel⟩, by decide⟩, knX7_first, ksX7_first⟩
set_option maxRecDepth 100000 in
theorem lkL_73 : zlkV RL 73 mdX6_richest 1 := ⟨⟨Or.inl (zgt_in (zt3 (List.mem_of_getElem? (i := 66) rfl)) rfl), niRX6, kcX6_richest, ⟨by decide, by decide, by decide +kernel⟩, by decide⟩, knX6_richest, ksX6_richest⟩
set_option maxRecDepth 100000 in
theorem lkL_76 : zlkV RL 76 mdX7_richest 1 := ⟨⟨Or.inl (zgt_in (zt5 (List.mem_of_getElem? (i := 153) rfl)) rfl), niRX7, kcX7_richest, ⟨by decide, by decide, by decide +kernel⟩, by decide⟩, knX7_richest, ksX7_richest⟩
set_option maxRecDepth 100000 in
theorem lkL_77 : zlkV RL 77 mdX6_kin 2 := ⟨⟨Or.inl (zgt_in (zt3 (List.mem_of_getElem? (i := 70) rfl)) rfl), niRX6, kcX6_kin, ⟨by decide, by decide, by decide +kernel⟩, by decide⟩, knX6_kin, ksX6_kin⟩
set_option maxRecDepth 100000 in
theorem lkL_80 : zlkV RL 80 mdX7_kin 2 := ⟨⟨Or.inl (zgt_in (zt5 (List.mem_of_getElem? (i := 157) rfl)) rfl), niRX7, kcX7_kin, ⟨by decide, by decide, by decide +kernel⟩, by decide⟩, knX7_kin, ksX7_kin⟩
set_option maxRecDepth 100000 in
theorem lkL_81 : zlkV RL 81 mdX6_removed 2 := ⟨⟨Or.inl (zgt_in (zt3 (List.mem_of_getElem? (i := 88) rfl)) rfl), niRX6, kcX6_removed, ⟨by decide, by decide, by decide +kernel⟩, by decide⟩, knX6_removed, ksX6_removed⟩
set_option maxRecDepth 100000 in
theorem lkL_84 : zlkV RL 84 mdX7_removed 2 := ⟨⟨Or.inl (zgt_in (zt5 (List.mem_of_getElem? (i := 169) rfl)) rfl), niRX7, kcX7_removed, ⟨by decide, by decide, by decide +kernel⟩, by decide⟩, knX7_removed, ksX7_removed⟩
set_option maxRecDepth 100000 in
theorem lkL_85 : zlkV RL 85 mdX6_farthest 1 := ⟨⟨Or.inl (zgt_in (zt3 (List.mem_of_getElem? (i := 96) rfl)) rfl), niRX6, kcX6_farthest, ⟨by decide, by decide, by decide +kernel⟩, by decide⟩, knX6_farthest, ksX6_farthest⟩
set_option maxRecDepth 100000 in
theorem lkL_88 : zlkV RL 88 mdX7_farthest 1 := ⟨⟨Or.inl (zgt_in (zt5 (List.mem_of_getElem? (i := 173) rfl)) rfl), niRX7, kcX7_farthest, ⟨by decide, by decide, by decide +kernel⟩, by decide⟩, knX7_farthest, ksX7_farthest⟩
set_option maxRecDepth 100000 in
theorem lkL_89 : zlkV RL 89 mdX6_groups 1 := ⟨⟨Or.inl (zgt_in (zt3 (List.mem_of_getElem? (i := 100) rfl)) rfl), niRX6, kcX6_groups, ⟨by decide, by decide, by decide +kernel⟩, by decide⟩, knX6_groups, ksX6_groups⟩
set_option maxRecDepth 100000 in
theorem lkL_92 : zlkV RL 92 mdX7_groups 1 := ⟨⟨Or.inl (zgt_in (zt5 (List.mem_of_getElem? (i := 177) rfl)) rfl), niRX7, kcX7_groups, ⟨by decide, by decide, by decide +kernel⟩, by decide⟩, knX7_groups, ksX7_groups⟩
set_option maxRecDepth 100000 in
theorem lkL_93 : zlkV RL 93 mdX6_clan 1 := ⟨⟨Or.inl (zgt_in (zt3 (List.mem_of_getElem? (i := 119) rfl)) rfl), niRX6, kcX6_clan, ⟨by decide, by decide, by decide +kernel⟩, by decide⟩, knX6_clan, ksX6_clan⟩
set_option maxRecDepth 100000 in
theorem lkL_96 : zlkV RL 96 mdX7_clan 1 := ⟨⟨Or.inl (zgt_in (zt5 (List.mem_of_getElem? (i := 185) rfl)) rfl), niRX7, kcX7_clan, ⟨by decide, by decide, by decide +kernel⟩, by decide⟩, knX7_clan, ksX7_clan⟩
set_option maxRecDepth 100000 in
theorem lkL_97 : zlkV RL 97 mdX6_bestSign 2 := ⟨⟨Or.inl (zgt_in (zt3 (List.mem_of_getElem? (i := 131) rfl)) rfl), niRX6, kcX6_bestSign, ⟨by decide, by decide, by decide +kernel⟩, by decide⟩, knX6_bestSign, ksX6_bestSign⟩
set_option maxRecDepth 100000 in
theorem lkL_100 : zlkV RL 100 mdX7_bestSign 2 := ⟨⟨Or.inl (zgt_in (zt5 (List.mem_of_getElem? (i := 193) rfl)) rfl), niRX7, kcX7_bestSign, ⟨by decide, by decide, by decide +kernel⟩, by decide⟩, knX7_bestSign, ksX7_bestSign⟩
set_option maxRecDepth 100000 in
theorem lkL_101 : zlkV RL 101 mdX6_bestCut 2 := ⟨⟨Or.inl (zgt_in (zt3 (List.mem_of_getElem? (i := 156) rfl)) rfl), niRX6, kcX6_bestCut, ⟨by decide, by decide, by decide +kernel⟩, by decide⟩, knX6_bestCut, ksX6_bestCut⟩
set_option maxRecDepth 100000 in
theorem lkL_104 : zlkV RL 104 mdX7_bestCut 2 := ⟨⟨Or.inl (zgt_in (zt5 (List.mem_of_getElem? (i := 208) rfl)) rfl), niRX7, kcX7_bestCut, ⟨by decide, by decide, by decide +kernel⟩, by decide⟩, knX7_bestCut, ksX7_bestCut⟩
set_option maxRecDepth 100000 in
theorem lkL_105 : zlkV RL 105 mdX6_feudCosts 3 := ⟨⟨Or.inl (zgt_in (zt3 (List.mem_of_getElem? (i := 160) rfl)) rfl), niRX6, kcX6_feudCosts, ⟨by decide, by decide, by decide +kernel⟩, by decide⟩, knX6_feudCosts, ksX6_feudCosts⟩
set_option maxRecDepth 100000 in
theorem lkL_108 : zlkV RL 108 mdX7_feudCosts 3 := ⟨⟨Or.inl (zgt_in (zt5 (List.mem_of_getElem? (i := 212) rfl)) rfl), niRX7, kcX7_feudCosts, ⟨by decide, by decide, by decide +kernel⟩, by decide⟩, knX7_feudCosts, ksX7_feudCosts⟩
set_option maxRecDepth 100000 in
theorem lkL_109 : zlkV RL 109 mdX6_peace 0 := ⟨⟨Or.inl (zgt_in (zt3 (List.mem_of_getElem? (i := 170) rfl)) rfl), niRX6, kcX6_peace, ⟨by decide, by decide, by decide +kernel⟩, by decide⟩, knX6_peace, ksX6_peace⟩
set_option maxRecDepth 100000 in
theorem lkL_112 : zlkV RL 112 mdX7_peace 0 := ⟨⟨Or.inl (zgt_in (zt5 (List.mem_of_getElem? (i := 221) rfl)) rfl), niRX7, kcX7_peace, ⟨by decide, by decide, by decide +kernel⟩, by decide⟩, knX7_peace, ksX7_peace⟩
set_option maxRecDepth 100000 in
theorem lkL_113 : zlkV RL 113 mdX6_will 2 := ⟨⟨Or.inl (zgt_in (zt3 (List.mem_of_getElem? (i := 174) rfl)) rfl), niRX6, kcX6_will, ⟨by decide, by decide, by decide +kernel⟩, by decide⟩, knX6_will, ksX6_will⟩
set_option maxRecDepth 100000 in
theorem lkL_116 : zlkV RL 116 mdX7_will 2 := ⟨⟨Or.inl (zgt_in (zt5 (List.mem_of_getElem? (i := 225) rfl)) rfl), niRX7, kcX7_will, ⟨by decide, by decide, by decide +kernel⟩, by decide⟩, knX7_will, ksX7_will⟩
set_option maxRecDepth 100000 in
theorem lkL_117 : zlkV RL 117 mdX6_rooms 1 := ⟨⟨Or.inl (zgt_in (zt3 (List.mem_of_getElem? (i := 179) rfl)) rfl), niRX6, kcX6_rooms, ⟨by decide, by decide, by decide +kernel⟩, by decide⟩, knX6_rooms, ksX6_rooms⟩
set_option maxRecDepth 100000 in
theorem lkL_120 : zlkV RL 120 mdX7_rooms 1 := ⟨⟨Or.inl (zgt_in (zt5 (List.mem_of_getElem? (i := 229) rfl)) rfl), niRX7, kcX7_rooms, ⟨by decide, by decide, by decide +kernel⟩, by decide⟩, knX7_rooms, ksX7_rooms⟩
set_option maxRecDepth 100000 in
theorem lkL_121 : zlkV RL 121 mdX6_couples 2 := ⟨⟨Or.inl (zgt_in (zt3 (List.mem_of_getElem? (i := 201) rfl)) rfl), niRX6, kcX6_couples, ⟨by decide, by decide, by decide +kernel⟩, by decide⟩, knX6_couples, ksX6_couples⟩
set_option maxRecDepth 100000 in
theorem lkL_124 : zlkV RL 124 mdX7_couples 2 := ⟨⟨Or.inl (zgt_in (zt6 (List.mem_of_getElem? (i := 1) rfl)) rfl), niRX7, kcX7_couples, ⟨by decide, by decide, by decide +kernel⟩, by decide⟩, knX7_couples, ksX7_couples⟩
set_option maxRecDepth 100000 in
theorem lkL_125 : zlkV RL 125 mdX6_buys 2 := ⟨⟨Or.inl (zgt_in (zt3 (List.mem_of_getElem? (i := 239) rfl)) rfl), niRX6, kcX6_buys, ⟨by decide, by decide, by decide +kernel⟩, by decide⟩, knX6_buys, ksX6_buys⟩
set_option maxRecDepth 100000 in
theorem lkL_128 : zlkV RL 128 mdX7_buys 2 := ⟨⟨Or.inl (zgt_in (zt6 (List.mem_of_getElem? (i := 24) rfl)) rfl), niRX7, kcX7_buys, ⟨by decide, by decide, by decide +kernel⟩, by decide⟩, knX7_buys, ksX7_buys⟩
set_option maxRecDepth 100000 in
theorem lkL_129 : zlkV RL 129 mdX6_matters 1 := ⟨⟨Or.inl (zgt_in (zt4 (List.mem_of_getElem? (i := 3) rfl)) rfl), niRX6, kcX6_matters, ⟨by decide, by decide, by decide +kernel⟩, by decide⟩, knX6_matters, ksX6_matters⟩
set_option maxRecDepth 100000 in
theorem lkL_132 : zlkV RL 132 mdX7_matters 1 := ⟨⟨Or.inl (zgt_in (zt6 (List.mem_of_getElem? (i := 47) rfl)) rfl), niRX7, kcX7_matters, ⟨by decide, by decide, by decide +kernel⟩, by decide⟩, knX7_matters, ksX7_matters⟩
set_option maxRecDepth 100000 in
theorem lkL_133 : zlkV RL 133 mdX6_deaths 6 := ⟨⟨Or.inl (zgt_in (zt4 (List.mem_of_getElem? (i := 12) rfl)) rfl), niRX6, kcX6_deaths, ⟨by decide, by decide, by decide +kernel⟩, by decide⟩, knX6_deaths, ksX6_deaths⟩
set_option maxRecDepth 100000 in
theorem lkL_137 : zlkV RL 137 mdX7_deaths 6 := ⟨⟨Or.inl (zgt_in (zt6 (List.mem_of_getElem? (i := 55) rfl)) rfl), niRX7, kcX7_deaths, ⟨by decide, by decide, by decide +kernel⟩, by decide⟩, knX7_deaths, ksX7_deaths⟩
set_option maxRecDepth 100000 in
theorem lkL_138 : zlkV RL 138 mdX6_mean 1 := ⟨⟨Or.inl (zgt_in (zt4 (List.mem_of_getElem? (i := 40) rfl)) rfl), niRX6, kcX6_mean, ⟨by decide, by decide, by decide +kernel⟩, by decide⟩, knX6_mean, ksX6_mean⟩
set_option maxRecDepth 100000 in
theorem lkL_142 : zlkV RL 142 mdX7_mean 1 := ⟨⟨Or.inl (zgt_in (zt6 (List.mem_of_getElem? (i := 70) rfl)) rfl), niRX7, kcX7_mean, ⟨by decide, by decide, by decide +kernel⟩, by decide⟩, knX7_mean, ksX7_mean⟩
set_option maxRecDepth 100000 in
theorem lkL_143 : zlkV RL 143 mdX6_two 3 := ⟨⟨Or.inl (zgt_in (zt4 (List.mem_of_getElem? (i := 45) rfl)) rfl), niRX6, kcX6_two, ⟨by decide, by decide, by decide +kernel⟩, by decide⟩, knX6_two, ksX6_two⟩
set_option maxRecDepth 100000 in
theorem lkL_146 : zlkV RL 146 mdX7_two 3 := ⟨⟨Or.inl (zgt_in (zt6 (List.mem_of_getElem? (i := 74) rfl)) rfl), niRX7, kcX7_two, ⟨by decide, by decide, by decide +kernel⟩, by decide⟩, knX7_two, ksX7_two⟩
set_option maxRecDepth 100000 in
theorem lkL_147 : zlkV RL 147 mdX6_whatIs 2 := ⟨⟨Or.inl (zgt_in (zt4 (List.mem_of_getElem? (i := 49) rfl)) rfl), niRX6, kcX6_whatIs, ⟨by decide, by decide, by decide +kernel⟩, by decide⟩, knX6_whatIs, ksX6_whatIs⟩
set_option maxRecDepth 100000 in
theorem lkL_150 : zlkV RL 150 mdX7_whatIs 2 := ⟨⟨Or.inl (zgt_in (zt6 (List.mem_of_getElem? (i := 85) rfl)) rfl), niRX7, kcX7_whatIs, ⟨by decide, by decide, by decide +kernel⟩, by decide⟩, knX7_whatIs, ksX7_whatIs⟩
set_option maxRecDepth 100000 in
theorem lkL_151 : zlkV RL 151 mdX6_row 1 := ⟨⟨Or.inl (zgt_in (zt4 (List.mem_of_getElem? (i := 57) rfl)) rfl), niRX6, kcX6_row, ⟨by decide, by decide, by decide +kernel⟩, by decide⟩, knX6_row, ksX6_row⟩
set_option maxRecDepth 100000 in
theorem lkL_154 : zlkV RL 154 mdX7_row 1 := ⟨⟨Or.inl (zgt_in (zt6 (List.mem_of_getElem? (i := 97) rfl)) rfl), niRX7, kcX7_row, ⟨by decide, by decide, by decide +kernel⟩, by decide⟩, knX7_row, ksX7_row⟩
set_option maxRecDepth 100000 in
theorem lkL_155 : zlkV RL 155 mdX6_judge 0 := ⟨⟨Or.inl (zgt_in (zt4 (List.mem_of_getElem? (i := 61) rfl)) rfl), niRX6, kcX6_judge, ⟨by decide, by decide, by decide +kernel⟩, by decide⟩, knX6_judge, ksX6_judge⟩
set_option maxRecDepth 100000 in
theorem lkL_158 : zlkV RL 158 mdX7_judge 0 := ⟨⟨Or.inl (zgt_in (zt6 (List.mem_of_getElem? (i := 101) rfl)) rfl), niRX7, kcX7_judge, ⟨by decide, by decide, by decide +kernel⟩, by decide⟩, knX7_judge, ksX7_judge⟩
set_option maxRecDepth 100000 in
theorem lkL_159 : zlkV RL 159 mdX6_clear 0 := ⟨⟨Or.inl (zgt_in (zt4 (List.mem_of_getElem? (i := 65) rfl)) rfl), niRX6, kcX6_clear, ⟨by decide, by decide, by decide +kernel⟩, by decide⟩, knX6_clear, ksX6_clear⟩
set_option maxRecDepth 100000 in
theorem lkL_162 : zlkV RL 162 mdX7_clear 0 := ⟨⟨Or.inl (zgt_in (zt6 (List.mem_of_getElem? (i := 105) rfl)) rfl), niRX7, kcX7_clear, ⟨by decide, by decide, by decide +kernel⟩, by decide⟩, knX7_clear, ksX7_clear⟩
set_option maxRecDepth 100000 in
theorem lkL_163 : zlkV RL 163 mdX6_lots 3 := ⟨⟨Or.inl (zgt_in (zt4 (List.mem_of_getElem? (i := 69) rfl)) rfl), niRX6, kcX6_lots, ⟨by decide, by decide, by decide +kernel⟩, by decide⟩, knX6_lots, ksX6_lots⟩
set_option maxRecDepth 100000 in
theorem lkL_166 : zlkV RL 166 mdX7_lots 3 := ⟨⟨Or.inl (zgt_in (zt6 (List.mem_of_getElem? (i := 109) rfl)) rfl), niRX7, kcX7_lots, ⟨by decide, by decide, by decide +kernel⟩, by decide⟩, knX7_lots, ksX7_lots⟩
set_option maxRecDepth 100000 in
theorem lkL_167 : zlkV RL 167 mdX6_image 0 := ⟨⟨Or.inl (zgt_in (zt4 (List.mem_of_getElem? (i := 80) rfl)) rfl), niRX6, kcX6_image, ⟨by decide, by decide, by decide +kernel⟩, by decide⟩, knX6_image, ksX6_image⟩
set_option maxRecDepth 100000 in
theorem lkL_170 : zlkV RL 170 mdX7_image 0 := ⟨⟨Or.inl (zgt_in (zt5 (List.mem_of_getElem? (i := 55) rfl)) rfl), niRX7, kcX7_image, ⟨by decide, by decide, by decide +kernel⟩, by decide⟩, knX7_image, ksX7_image⟩
set_option maxRecDepth 100000 in
theorem lkL_171 : zlkV RL 171 mdX6_on 0 := ⟨⟨Or.inl (zgt_in (zt4 (List.mem_of_getElem? (i := 84) rfl)) rfl), niRX6, kcX6_on, ⟨by decide, by decide, by decide +kernel⟩, by decide⟩, knX6_on, ksX6_on⟩
set_option maxRecDepth 100000 in
theorem lkL_174 : zlkV RL 174 mdX7_on 0 := ⟨⟨Or.inl (zgt_in (zt5 (List.mem_of_getElem? (i := 59) rfl)) rfl), niRX7, kcX7_on, ⟨by decide, by decide, by decide +kernel⟩, by decide⟩, knX7_on, ksX7_on⟩
set_option maxRecDepth 100000 in
theorem lkL_175 : zlkV RL 175 mdX6_count 1 := ⟨⟨Or.inl (zgt_in (zt4 (List.mem_of_getElem? (i := 88) rfl)) rfl), niRX6, kcX6_count, ⟨by decide, by decide, by decide +kernel⟩, by decide⟩, knX6_count, ksX6_count⟩
set_option maxRecDepth 100000 in
theorem lkL_178 : zlkV RL 178 mdX7_count 1 := ⟨⟨Or.inl (zgt_in (zt6 (List.mem_of_getElem? (i := 120) rfl)) rfl), niRX7, kcX7_count, ⟨by decide, by decide, by decide +kernel⟩, by decide⟩, knX7_count, ksX7_count⟩
set_option maxRecDepth 100000 in
theorem lkX7_71 : zlkV RX7 71 mdX7_isOne 1 := ⟨⟨Or.inl (zgt_in (zt5 (List.mem_of_getElem? (i := 12) rfl)) rfl), niRX7, kcX7_isOne, ⟨by decide, by decide, by decide +kernel⟩, by decide⟩, knX7_isOne, ksX7_isOne⟩
set_option maxRecDepth 100000 in
theorem lkX7_75 : zlkS RX7 75 mdX7_has 2 := ⟨⟨Or.inl (zgt_in (zt5 (List.mem_of_getElem? (i := 32) rfl)) rfl), niRX7, kcX7_has, ⟨by decide, by decide, by decide +kernel⟩, by decide⟩, ktX7_has⟩
set_option maxRecDepth 100000 in
theorem lkX7_79 : zlkV RX7 79 mdX7_isKin 2 := ⟨⟨Or.inl (zgt_in (zt5 (List.mem_of_getElem? (i := 28) rfl)) rfl), niRX7, kcX7_isKin, ⟨by decide, by decide, by decide +kernel⟩, by decide⟩, knX7_isKin, ksX7_isKin⟩
set_option maxRecDepth 100000 in
theorem lkX7_82 : zlkS RX7 82 mdX7_bound 3 := ⟨⟨Or.inl (zgt_in (zt4 (List.mem_of_getElem? (i := 195) rfl)) rfl), niRX7, kcX7_bound, ⟨by decide, by decide, by decide +kernel⟩, by decide⟩, ktX7_bound⟩
set_option maxRecDepth 100000 in
theorem lkX7_89 : zlkV RX7 89 mdX7_no 1 := ⟨⟨Or.inl (zgt_in (zt4 (List.mem_of_getElem? (i := 198) rfl)) rfl), niRX7, kcX7_no, ⟨by decide, by decide, by decide +kernel⟩, by decide⟩, knX7_no, ksX7_no⟩
set_option maxRecDepth 100000 in
theorem lkX7_96 : zlkV RX7 96 mdX7_next 0 := ⟨⟨Or.inl (zgt_in (zt4 (List.mem_of_getElem? (i := 210) rfl)) rfl), niRX7, kcX7_next, ⟨by decide, by decide, by decide +kernel⟩, by decide⟩, knX7_next, ksX7_next⟩
set_option maxRecDepth 100000 in
theorem lkX7_100 : zlkS RX7 100 mdX7_isIn 3 := ⟨⟨Or.inl (zgt_in (zt4 (List.mem_of_getElem? (i := 229) rfl)) rfl), niRX7, kcX7_isIn, ⟨by decide, by decide, by decide +kernel⟩, by decide⟩, ktX7_isIn⟩
set_option maxRecDepth 100000 in
theorem lkX7_104 : zlkS RX7 104 mdX7_kindOf 1 := ⟨⟨Or.inl (zgt_in (zt4 (List.mem_of_getElem? (i := 222) rfl)) rfl), niRX7, kcX7_kindOf, ⟨by decide, by decide, by decide +kernel⟩, by decide⟩, ktX7_kindOf⟩
set_option maxRecDepth 100000 in
theorem lkX7_107 : zlkV RX7 107 mdX7_readsDigits 2 := ⟨⟨Or.inl (zgt_in (zt4 (List.mem_of_getElem? (i := 225) rfl)) rfl), niRX7, kcX7_readsDigits, ⟨by decide, by decide, by decide +kernel⟩, by decide⟩, knX7_readsDigits, ksX7_readsDigits⟩
set_option maxRecDepth 100000 in
theorem lkX7_110 : zlkV RX7 110 mdX7_readsOne 1 := ⟨⟨Or.inl (zgt_in (zt4 (List.mem_of_getElem? (i := 218) rfl)) rfl), niRX7, kcX7_readsOne, ⟨by decide, by decide, by decide +kernel⟩, by decide⟩, knX7_readsOne, ksX7_readsOne⟩
set_option maxRecDepth 100000 in
theorem lkX7_116 : zlkV RX7 116 mdX7_readsAll 2 := ⟨⟨Or.inl (zgt_in (zt4 (List.mem_of_getElem? (i := 214) rfl)) rfl), niRX7, kcX7_readsAll, ⟨by decide, by decide, by decide +kernel⟩, by decide⟩, knX7_readsAll, ksX7_readsAll⟩
set_option maxRecDepth 100000 in
theorem lkX7_119 : zlkV RX7 119 mdX7_areTwo 2 := ⟨⟨Or.inl (zgt_in (zt5 (List.mem_of_getElem? (i := 47) rfl)) rfl), niRX7, kcX7_areTwo, ⟨by decide, by decide, by decide +kernel⟩, by decide⟩, knX7_areTwo, ksX7_areTwo⟩
set_option maxRecDepth 100000 in
theorem lkX7_122 : zlkV RX7 122 mdX7_turnsFeud 2 := ⟨⟨Or.inl (zgt_in (zt5 (List.mem_of_getElem? (i := 51) rfl)) rfl), niRX7, kcX7_turnsFeud, ⟨by decide, by decide, by decide +kernel⟩, by decide⟩, knX7_turnsFeud, ksX7_turnsFeud⟩
set_option maxRecDepth 100000 in
theorem lkX7_129 : zlkV RX7 129 mdX7_goes 1 := ⟨⟨Or.inl (zgt_in (zt5 (List.mem_of_getElem? (i := 20) rfl)) rfl), niRX7, kcX7_goes, ⟨by decide, by decide, by decide +kernel⟩, by decide⟩, knX7_goes, ksX7_goes⟩
set_option maxRecDepth 100000 in
theorem lkX7_133 : zlkV RX7 133 mdX7_adds 3 := ⟨⟨Or.inl (zgt_in (zt5 (List.mem_of_getElem? (i := 8) rfl)) rfl), niRX7, kcX7_adds, ⟨by decide, by decide, by decide +kernel⟩, by decide⟩, knX7_adds, ksX7_adds⟩
set_option maxRecDepth 100000 in
theorem lkX7_137 : zlkV RX7 137 mdX7_comesYears 1 := ⟨⟨Or.inl (zgt_in (zt5 (List.mem_of_getElem? (i := 16) rfl)) rfl), niRX7, kcX7_comesYears, ⟨by decide, by decide, by decide +kernel⟩, by decide⟩, knX7_comesYears, ksX7_comesYears⟩
set_option maxRecDepth 100000 in
theorem lkX7_140 : zlkV RX7 140 mdX7_comesTie 3 := ⟨⟨Or.inl (zgt_in (zt5 (List.mem_of_getElem? (i := 43) rfl)) rfl), niRX7, kcX7_comesTie, ⟨by decide, by decide, by decide +kernel⟩, by decide⟩, knX7_comesTie, ksX7_comesTie⟩
set_option maxRecDepth 100000 in
theorem lkX7_143 : zlkV RX7 143 mdX7_statement 0 := ⟨⟨Or.inl (zgt_in (zt4 (List.mem_of_getElem? (i := 206) rfl)) rfl), niRX7, kcX7_statement, ⟨by decide, by decide, by decide +kernel⟩, by decide⟩, knX7_statement, ksX7_statement⟩
set_option maxRecDepth 100000 in
theorem lkX7_147 : zlkV RX7 147 mdX7_passesAll 2 := ⟨⟨Or.inl (zgt_in (zt4 (List.mem_of_getElem? (i := 232) rfl)) rfl), niRX7, kcX7_passesAll, ⟨by decide, by decide, by decide +kernel⟩, by decide⟩, knX7_passesAll, ksX7_passesAll⟩
set_option maxRecDepth 100000 in
theorem lkX7_151 : zlkV RX7 151 mdX7_comes 1 := ⟨⟨Or.inl (zgt_in (zt5 (List.mem_of_getElem? (i := 4) rfl)) rfl), niRX7, kcX7_comes, ⟨by decide, by decide, by decide +kernel⟩, by decide⟩, knX7_comes, ksX7_comes⟩
set_option maxRecDepth 100000 in
theorem lkX7_161 : zlkV RX7 161 mdX7_passes 1 := ⟨⟨Or.inl (zgt_in (zt4 (List.mem_of_getElem? (i := 236) rfl)) rfl), niRX7, kcX7_passes, ⟨by decide, by decide, by decide +kernel⟩, by decide⟩, knX7_passes, ksX7_passes⟩
set_option maxRecDepth 100000 in
theorem lkX7_165 : zlkV RX7 165 mdX7_passOne 1 := ⟨⟨Or.inl (zgt_in (zt5 (List.mem_of_getElem? (i := 0) rfl)) rfl), niRX7, kcX7_passOne, ⟨by decide, by decide, by decide +kernel⟩, by decide⟩, knX7_passOne, ksX7_passOne⟩
set_option maxRecDepth 100000 in
theorem lkX7_171 : zlkV RX7 171 mdX7_paysOf 2 := ⟨⟨Or.inl (zgt_in (zt5 (List.mem_of_getElem? (i := 39) rfl)) rfl), niRX7, kcX7_paysOf, ⟨by decide, by decide, by decide +kernel⟩, by decide⟩, knX7_paysOf, ksX7_paysOf⟩
set_option maxRecDepth 100000 in
theorem lkX7_175 : zlkV RX7 175 mdX7_pays 2 := ⟨⟨Or.inl (zgt_in (zt5 (List.mem_of_getElem? (i := 35) rfl)) rfl), niRX7, kcX7_pays, ⟨by decide, by decide, by decide +kernel⟩, by decide⟩, knX7_pays, ksX7_pays⟩
set_option maxRecDepth 100000 in
theorem lkX7_178 : zlkV RX7 178 mdX7_goesYear 0 := ⟨⟨Or.inl (zgt_in (zt5 (List.mem_of_getElem? (i := 24) rfl)) rfl), niRX7, kcX7_goesYear, ⟨by decide, by decide, by decide +kernel⟩, by decide⟩, knX7_goesYear, ksX7_goesYear⟩
set_option maxRecDepth 100000 in
theorem lkX7_181 : zlkV RX7 181 mdX7_kinOf 1 := ⟨⟨Or.inl (zgt_in (zt5 (List.mem_of_getElem? (i := 67) rfl)) rfl), niRX7, kcX7_kinOf, ⟨by decide, by decide, by decide +kernel⟩, by decide⟩, knX7_kinOf, ksX7_kinOf⟩
set_option maxRecDepth 100000 in
theorem lkX7_184 : zlkS RX7 184 mdX7_bits 1 := ⟨⟨Or.inl (zgt_in (zt5 (List.mem_of_getElem? (i := 71) rfl)) rfl), niRX7, kcX7_bits, ⟨by decide, by decide, by decide +kernel⟩, by decide⟩, ktX7_bits⟩
set_option maxRecDepth 100000 in
theorem lkX7_187 : zlkV RX7 187 mdX7_wealth 0 := ⟨⟨Or.inl (zgt_in (zt5 (List.mem_of_getElem? (i := 98) rfl)) rfl), niRX7, kcX7_wealth, ⟨by decide, by decide, by decide +kernel⟩, by decide⟩, knX7_wealth, ksX7_wealth⟩
set_option maxRecDepth 100000 in
theorem lkX7_190 : zlkV RX7 190 mdX7_thinks 0 := ⟨⟨Or.inl (zgt_in (zt5 (List.mem_of_getElem? (i := 113) rfl)) rfl), niRX7, kcX7_thinks, ⟨by decide, by decide, by decide +kernel⟩, by decide⟩, knX7_thinks, ksX7_thinks⟩
set_option maxRecDepth 100000 in
theorem lkX7_193 : zlkV RX7 193 mdX7_forgets 0 := ⟨⟨Or.inl (zgt_in (zt5 (List.mem_of_getElem? (i := 117) rfl)) rfl), niRX7, kcX7_forgets, ⟨by decide, by decide, by decide +kernel⟩, by decide⟩, knX7_forgets, ksX7_forgets⟩
set_option maxRecDepth 100000 in
theorem lkX7_196 : zlkS RX7 196 mdX7_notYears 1 := ⟨⟨Or.inl (zgt_in (zt5 (List.mem_of_getElem? (i := 106) rfl)) rfl), niRX7, kcX7_notYears, ⟨by decide, by decide, by decide +kernel⟩, by decide⟩, ktX7_notYears⟩
set_option maxRecDepth 100000 in
theorem lkX7_199 : zlkV RX7 199 mdX7_moneyIn 2 := ⟨⟨Or.inl (zgt_in (zt5 (List.mem_of_getElem? (i := 109) rfl)) rfl), niRX7, kcX7_moneyIn, ⟨by decide, by decide, by decide +kernel⟩, by decide⟩, knX7_moneyIn, ksX7_moneyIn⟩
set_option maxRecDepth 100000 in
theorem lkX7_202 : zlkV RX7 202 mdX7_wealthIn 1 := ⟨⟨Or.inl (zgt_in (zt5 (List.mem_of_getElem? (i := 129) rfl)) rfl), niRX7, kcX7_wealthIn, ⟨by decide, by decide, by decide +kernel⟩, by decide⟩, knX7_wealthIn, ksX7_wealthIn⟩
set_option maxRecDepth 100000 in
theorem lkX7_205 : zlkV RX7 205 mdX7_ruinOf 1 := ⟨⟨Or.inl (zgt_in (zt5 (List.mem_of_getElem? (i := 137) rfl)) rfl), niRX7, kcX7_ruinOf, ⟨by decide, by decide, by decide +kernel⟩, by decide⟩, knX7_ruinOf, ksX7_ruinOf⟩
set_option maxRecDepth 100000 in
theorem lkX7_208 : zlkV RX7 208 mdX7_isSteady 0 := ⟨⟨Or.inl (zgt_in (zt5 (List.mem_of_getElem? (i := 149) rfl)) rfl), niRX7, kcX7_isSteady, ⟨by decide, by decide, by decide +kernel⟩, by decide⟩, knX7_isSteady, ksX7_isSteady⟩
set_option maxRecDepth 100000 in
theorem lkX7_211 : zlkV RX7 211 mdX7_steadyAt 0 := ⟨⟨Or.inl (zgt_in (zt5 (List.mem_of_getElem? (i := 145) rfl)) rfl), niRX7, kcX7_steadyAt, ⟨by decide, by decide, by decide +kernel⟩, by decide⟩, knX7_steadyAt, ksX7_steadyAt⟩
set_option maxRecDepth 100000 in
theorem lkX7_214 : zlkV RX7 214 mdX7_findSteps 1 := ⟨⟨Or.inl (zgt_in (zt5 (List.mem_of_getElem? (i := 165) rfl)) rfl), niRX7, kcX7_findSteps, ⟨by decide, by decide, by decide +kernel⟩, by decide⟩, knX7_findSteps, ksX7_findSteps⟩
set_option maxRecDepth 100000 in
theorem lkX7_217 : zlkV RX7 217 mdX7_reached 1 := ⟨⟨Or.inl (zgt_in (zt5 (List.mem_of_getElem? (i := 161) rfl)) rfl), niRX7, kcX7_reached, ⟨by decide, by decide, by decide +kernel⟩, by decide⟩, knX7_reached, ksX7_reached⟩
set_option maxRecDepth 100000 in
theorem lkX7_220 : zlkV RX7 220 mdX7_threes 0 := ⟨⟨Or.inl (zgt_in (zt5 (List.mem_of_getElem? (i := 181) rfl)) rfl), niRX7, kcX7_threes, ⟨by decide, by decide, by decide +kernel⟩, by decide⟩, knX7_threes, ksX7_threes⟩
set_option maxRecDepth 100000 in
theorem lkX7_223 : zlkV RX7 223 mdX7_areAllKin 1 := ⟨⟨Or.inl (zgt_in (zt5 (List.mem_of_getElem? (i := 189) rfl)) rfl), niRX7, kcX7_areAllKin, ⟨by decide, by decide, by decide +kernel⟩, by decide⟩, knX7_areAllKin, ksX7_areAllKin⟩
set_option maxRecDepth 100000 in
theorem lkX7_226 : zlkV RX7 226 mdX7_moneySigning 3 := ⟨⟨Or.inl (zgt_in (zt5 (List.mem_of_getElem? (i := 204) rfl)) rfl), niRX7, kcX7_moneySigning, ⟨by decide, by decide, by decide +kernel⟩, by decide⟩, knX7_moneySigning, ksX7_moneySigning⟩
set_option maxRecDepth 100000 in
theorem lkX7_229 : zlkS RX7 229 mdX7_notShort 1 := ⟨⟨Or.inl (zgt_in (zt5 (List.mem_of_getElem? (i := 197) rfl)) rfl), niRX7, kcX7_notShort, ⟨by decide, by decide, by decide +kernel⟩, by decide⟩, ktX7_notShort⟩
set_option maxRecDepth 100000 in
theorem lkX7_232 : zlkV RX7 232 mdX7_bestTurn 3 := ⟨⟨Or.inl (zgt_in (zt5 (List.mem_of_getElem? (i := 200) rfl)) rfl), niRX7, kcX7_bestTurn, ⟨by decide, by decide, by decide +kernel⟩, by decide⟩, knX7_bestTurn, ksX7_bestTurn⟩
set_option maxRecDepth 100000 in
theorem lkX7_236 : zlkV RX7 236 mdX7_lower 1 := ⟨⟨Or.inl (zgt_in (zt5 (List.mem_of_getElem? (i := 216) rfl)) rfl), niRX7, kcX7_lower, ⟨by decide, by decide, by decide +kernel⟩, by decide⟩, knX7_lower, ksX7_lower⟩
set_option maxRecDepth 100000 in
theorem lkX7_239 : zlkV RX7 239 mdX7_leastRoom 2 := ⟨⟨Or.inl (zgt_in (zt5 (List.mem_of_getElem? (i := 237) rfl)) rfl), niRX7, kcX7_leastRoom, ⟨by decide, by decide, by decide +kernel⟩, by decide⟩, knX7_leastRoom, ksX7_leastRoom⟩
set_option maxRecDepth 100000 in
theorem lkX7_242 : zlkV RX7 242 mdX7_findRooms 1 := ⟨⟨Or.inl (zgt_in (zt5 (List.mem_of_getElem? (i := 233) rfl)) rfl), niRX7, kcX7_findRooms, ⟨by decide, by decide, by decide +kernel⟩, by decide⟩, knX7_findRooms, ksX7_findRooms⟩
set_option maxRecDepth 100000 in
theorem lkX7_245 : zlkS RX7 245 mdX7_lowest 1 := ⟨⟨Or.inl (zgt_in (zt6 (List.mem_of_getElem? (i := 9) rfl)) rfl), niRX7, kcX7_lowest, ⟨by decide, by decide, by decide +kernel⟩, by decide⟩, ktX7_lowest⟩
set_option maxRecDepth 100000 in
theorem lkX7_248 : zlkV RX7 248 mdX7_isCouple 3 := ⟨⟨Or.inl (zgt_in (zt6 (List.mem_of_getElem? (i := 12) rfl)) rfl), niRX7, kcX7_isCouple, ⟨by decide, by decide, by decide +kernel⟩, by decide⟩, knX7_isCouple, ksX7_isCouple⟩
set_option maxRecDepth 100000 in
theorem lkX7_251 : zlkV RX7 251 mdX7_partnerIn 3 := ⟨⟨Or.inl (zgt_in (zt6 (List.mem_of_getElem? (i := 20) rfl)) rfl), niRX7, kcX7_partnerIn, ⟨by decide, by decide, by decide +kernel⟩, by decide⟩, knX7_partnerIn, ksX7_partnerIn⟩
set_option maxRecDepth 100000 in
theorem lkX7_254 : zlkV RX7 254 mdX7_findCouples 1 := ⟨⟨Or.inl (zgt_in (zt6 (List.mem_of_getElem? (i := 5) rfl)) rfl), niRX7, kcX7_findCouples, ⟨by decide, by decide, by decide +kernel⟩, by decide⟩, knX7_findCouples, ksX7_findCouples⟩
set_option maxRecDepth 100000 in
theorem lkX7_257 : zlkV RX7 257 mdX7_partnerOf 2 := ⟨⟨Or.inl (zgt_in (zt6 (List.mem_of_getElem? (i := 16) rfl)) rfl), niRX7, kcX7_partnerOf, ⟨by decide, by decide, by decide +kernel⟩, by decide⟩, knX7_partnerOf, ksX7_partnerOf⟩
set_option maxRecDepth 100000 in
theorem lkX7_260 : zlkS RX7 260 mdX7_turned 3 := ⟨⟨Or.inl (zgt_in (zt6 (List.mem_of_getElem? (i := 40) rfl)) rfl), niRX7, kcX7_turned, ⟨by decide, by decide, by decide +kernel⟩, by decide⟩, ktX7_turned⟩
set_option maxRecDepth 100000 in
theorem lkX7_263 : zlkV RX7 263 mdX7_changes 0 := ⟨⟨Or.inl (zgt_in (zt6 (List.mem_of_getElem? (i := 32) rfl)) rfl), niRX7, kcX7_changes, ⟨by decide, by decide, by decide +kernel⟩, by decide⟩, knX7_changes, ksX7_changes⟩
set_option maxRecDepth 100000 in
theorem lkX7_266 : zlkV RX7 266 mdX7_exchanges 3 := ⟨⟨Or.inl (zgt_in (zt6 (List.mem_of_getElem? (i := 36) rfl)) rfl), niRX7, kcX7_exchanges, ⟨by decide, by decide, by decide +kernel⟩, by decide⟩, knX7_exchanges, ksX7_exchanges⟩
set_option maxRecDepth 100000 in
theorem lkX7_270 : zlkV RX7 270 mdX7_changesBack 0 := ⟨⟨Or.inl (zgt_in (zt6 (List.mem_of_getElem? (i := 43) rfl)) rfl), niRX7, kcX7_changesBack, ⟨by decide, by decide, by decide +kernel⟩, by decide⟩, knX7_changesBack, ksX7_changesBack⟩
set_option maxRecDepth 100000 in
theorem lkX7_273 : zlkV RX7 273 mdX7_moneyChanged 3 := ⟨⟨Or.inl (zgt_in (zt6 (List.mem_of_getElem? (i := 28) rfl)) rfl), niRX7, kcX7_moneyChanged, ⟨by decide, by decide, by decide +kernel⟩, by decide⟩, knX7_moneyChanged, ksX7_moneyChanged⟩
set_option maxRecDepth 100000 in
theorem lkX7_276 : zlkV RX7 276 mdX7_twosOfKin 0 := ⟨⟨Or.inl (zgt_in (zt6 (List.mem_of_getElem? (i := 51) rfl)) rfl), niRX7, kcX7_twosOfKin, ⟨by decide, by decide, by decide +kernel⟩, by decide⟩, knX7_twosOfKin, ksX7_twosOfKin⟩
set_option maxRecDepth 100000 in
theorem lkX7_279 : zlkS RX7 279 mdX7_divisor 2 := ⟨⟨Or.inl (zgt_in (zt6 (List.mem_of_getElem? (i := 67) rfl)) rfl), niRX7, kcX7_divisor, ⟨by decide, by decide, by decide +kernel⟩, by decide⟩, ktX7_divisor⟩
set_option maxRecDepth 100000 in
theorem lkX7_283 : zlkV RX7 283 mdX7_lowestOf 1 := ⟨⟨Or.inl (zgt_in (zt6 (List.mem_of_getElem? (i := 59) rfl)) rfl), niRX7, kcX7_lowestOf, ⟨by decide, by decide, by decide +kernel⟩, by decide⟩, knX7_lowestOf, ksX7_lowestOf⟩
set_option maxRecDepth 100000 in
theorem lkX7_287 : zlkS RX7 287 mdX7_partOf 3 := ⟨⟨Or.inl (zgt_in (zt6 (List.mem_of_getElem? (i := 64) rfl)) rfl), niRX7, kcX7_partOf, ⟨by decide, by decide, by decide +kernel⟩, by decide⟩, ktX7_partOf⟩
set_option maxRecDepth 100000 in
theorem lkX7_291 : zlkS RX7 291 mdX7_with 3 := ⟨⟨Or.inl (zgt_in (zt6 (List.mem_of_getElem? (i := 82) rfl)) rfl), niRX7, kcX7_with, ⟨by decide, by decide, by decide +kernel⟩, by decide⟩, ktX7_with⟩
set_option maxRecDepth 100000 in
theorem lkX7_294 : zlkV RX7 294 mdX7_findTwo 3 := ⟨⟨Or.inl (zgt_in (zt6 (List.mem_of_getElem? (i := 78) rfl)) rfl), niRX7, kcX7_findTwo, ⟨by decide, by decide, by decide +kernel⟩, by decide⟩, knX7_findTwo, ksX7_findTwo⟩
set_option maxRecDepth 100000 in
theorem lkX7_300 : zlkV RX7 300 mdX7_isSo 1 := ⟨⟨Or.inl (zgt_in (zt6 (List.mem_of_getElem? (i := 93) rfl)) rfl), niRX7, kcX7_isSo, ⟨by decide, by decide, by decide +kernel⟩, by decide⟩, knX7_isSo, ksX7_isSo⟩
set_option maxRecDepth 100000 in
theorem lkX7_303 : zlkV RX7 303 mdX7_bitsFor 3 := ⟨⟨Or.inl (zgt_in (zt6 (List.mem_of_getElem? (i := 89) rfl)) rfl), niRX7, kcX7_bitsFor, ⟨by decide, by decide, by decide +kernel⟩, by decide⟩, knX7_bitsFor, ksX7_bitsFor⟩
set_option maxRecDepth 100000 in
theorem lkX7_313 : zlkV RX7 313 mdX7_draw 1 := ⟨⟨Or.inl (zgt_in (zt6 (List.mem_of_getElem? (i := 113) rfl)) rfl), niRX7, kcX7_draw, ⟨by decide, by decide, by decide +kernel⟩, by decide⟩, knX7_draw, ksX7_draw⟩
set_option maxRecDepth 100000 in
theorem lkJ0_335 : zlkV RJ0 335 mdJ0_coder_7d493 0 := ⟨⟨Or.inl (zgt_in (zt2 (List.mem_of_getElem? (i := 29) rfl)) rfl), niRJ0, kcJ0_coder_7d493, ⟨by decide, by decide, by decide +kernel⟩, by decide⟩, knJ0_coder_7d493, ksJ0_coder_7d493⟩
set_option maxRecDepth 100000 in
theorem lkJ0_492 : zlkV RJ0 492 mdJ0_isLatin1_aae02 0 := ⟨⟨Or.inl (zgt_in (zt2 (List.mem_of_getElem? (i := 19) rfl)) rfl), niRJ0, kcJ0_isLatin1_aae02, ⟨by decide, by decide, by decide +kernel⟩, by decide⟩, knJ0_isLatin1_aae02, ksJ0_isLatin1_aae02⟩
set_option maxRecDepth 100000 in
theorem lkJ0_505 : zlkV RJ0 505 mdJ0_length_8abf5 0 := ⟨⟨Or.inl (zgt_in (zt2 (List.mem_of_getElem? (i := 25) rfl)) rfl), niRJ0, kcJ0_length_8abf5, ⟨by decide, by decide, by decide +kernel⟩, by decide⟩, knJ0_length_8abf5, ksJ0_length_8abf5⟩
set_option maxRecDepth 100000 in
theorem lkJ0_633 : zlkV RJ0 633 mdJ0_indexOf_7cf53 2 := ⟨⟨Or.inl (zgt_in (zt2 (List.mem_of_getElem? (i := 15) rfl)) rfl), niRJ0, kcJ0_indexOf_7cf53, ⟨by decide, by decide, by decide +kernel⟩, by decide⟩, knJ0_indexOf_7cf53, ksJ0_indexOf_7cf53⟩
set_option maxRecDepth 100000 in
theorem lkJ0_637 : zlkS RJ0 637 mdJ1_indexOf_4cfef 4 := ⟨⟨Or.inl (zgt_in (zt2 (List.mem_of_getElem? (i := 33) rfl)) rfl), niRJ1, kcJ1_indexOf_4cfef, ⟨by decide, by decide, by decide +kernel⟩, by decide⟩, ktJ1_indexOf_4cfef⟩
set_option maxRecDepth 100000 in
theorem lkJ0_640 : zlkS RJ0 640 mdJ2_indexOf_4cfef 4 := ⟨⟨Or.inl (zgt_in (zt2 (List.mem_of_getElem? (i := 48) rfl)) rfl), niRJ2, kcJ2_indexOf_4cfef, ⟨by decide, by decide, by decide +kernel⟩, by decide⟩, ktJ2_indexOf_4cfef⟩
set_option maxRecDepth 100000 in
theorem lkJ0_1062 : zlkS RJ0 1062 mdJ3_checkFromToIndex_8c36e 4 := ⟨⟨Or.inl (zgt_in (zt2 (List.mem_of_getElem? (i := 68) rfl)) rfl), niRJ3, kcJ3_checkFromToIndex_8c36e, ⟨by decide, by decide, by decide +kernel⟩, by decide⟩, ktJ3_checkFromToIndex_8c36e⟩
set_option maxRecDepth 100000 in
theorem lkJ1_38 : zlkS RJ1 38 mdJ9_min_7cf53 2 := ⟨⟨Or.inl (zgt_in (zt2 (List.mem_of_getElem? (i := 42) rfl)) rfl), niRJ9, kcJ9_min_7cf53, ⟨by decide, by decide, by decide +kernel⟩, by decide⟩, ktJ9_min_7cf53⟩
set_option maxRecDepth 100000 in
theorem lkJ1_88 : zlkS RJ1 88 mdJ1_canEncode_9a6ad 1 := ⟨⟨Or.inl (zgt_in (zt2 (List.mem_of_getElem? (i := 36) rfl)) rfl), niRJ1, kcJ1_canEncode_9a6ad, ⟨by decide, by decide, by decide +kernel⟩, by decide⟩, ktJ1_canEncode_9a6ad⟩
set_option maxRecDepth 100000 in
theorem lkJ1_92 : zlkS RJ1 92 mdJ9_max_7cf53 2 := ⟨⟨Or.inl (zgt_in (zt2 (List.mem_of_getElem? (i := 39) rfl)) rfl), niRJ9, kcJ9_max_7cf53, ⟨by decide, by decide, by decide +kernel⟩, by decide⟩, ktJ9_max_7cf53⟩
set_option maxRecDepth 100000 in
theorem lkJ1_95 : zlkS RJ1 95 mdJ1_indexOfChar_4cfef 4 := ⟨⟨Or.inl (zgt_in (zt2 (List.mem_of_getElem? (i := 45) rfl)) rfl), niRJ1, kcJ1_indexOfChar_4cfef, ⟨by decide, by decide, by decide +kernel⟩, by decide⟩, ktJ1_indexOfChar_4cfef⟩
set_option maxRecDepth 100000 in
theorem lkJ2_48 : zlkS RJ2 48 mdJ2_length_9d52b 1 := ⟨⟨Or.inl (zgt_in (zt2 (List.mem_of_getElem? (i := 60) rfl)) rfl), niRJ2, kcJ2_length_9d52b, ⟨by decide, by decide, by decide +kernel⟩, by decide⟩, ktJ2_length_9d52b⟩
set_option maxRecDepth 100000 in
theorem lkJ2_71 : zlkS RJ2 71 mdJ2_getChar_3b067 2 := ⟨⟨Or.inl (zgt_in (zt2 (List.mem_of_getElem? (i := 74) rfl)) rfl), niRJ2, kcJ2_getChar_3b067, ⟨by decide, by decide, by decide +kernel⟩, by decide⟩, ktJ2_getChar_3b067⟩
set_option maxRecDepth 100000 in
theorem lkJ2_96 : zlkS RJ2 96 mdJ2_checkBoundsBeginEnd_d044e 3 := ⟨⟨Or.inl (zgt_in (zt2 (List.mem_of_getElem? (i := 57) rfl)) rfl), niRJ2, kcJ2_checkBoundsBeginEnd_d044e, ⟨by decide, by decide, by decide +kernel⟩, by decide⟩, ktJ2_checkBoundsBeginEnd_d044e⟩
set_option maxRecDepth 100000 in
theorem lkJ2_157 : zlkS RJ2 157 mdJ11_highSurrogate_5068e 1 := ⟨⟨Or.inl (zgt_in (zt2 (List.mem_of_getElem? (i := 89) rfl)) rfl), niRJ11, kcJ11_highSurrogate_5068e, ⟨by decide, by decide, by decide +kernel⟩, by decide⟩, ktJ11_highSurrogate_5068e⟩
set_option maxRecDepth 100000 in
theorem lkJ2_161 : zlkS RJ2 161 mdJ11_lowSurrogate_5068e 1 := ⟨⟨Or.inl (zgt_in (zt2 (List.mem_of_getElem? (i := 93) rfl)) rfl), niRJ11, kcJ11_lowSurrogate_5068e, ⟨by decide, by decide, by decide +kernel⟩, by decide⟩, ktJ11_lowSurrogate_5068e⟩
set_option maxRecDepth 100000 in
theorem lkJ2_164 : zlkS RJ2 164 mdJ11_isValidCodePoint_9a6ad 1 := ⟨⟨Or.inl (zgt_in (zt2 (List.mem_of_getElem? (i := 86) rfl)) rfl), niRJ11, kcJ11_isValidCodePoint_9a6ad, ⟨by decide, by decide, by decide +kernel⟩, by decide⟩, ktJ11_isValidCodePoint_9a6ad⟩
set_option maxRecDepth 100000 in
theorem lkJ2_183 : zlkS RJ2 183 mdJ9_min_7cf53 2 := ⟨⟨Or.inl (zgt_in (zt2 (List.mem_of_getElem? (i := 52) rfl)) rfl), niRJ9, kcJ9_min_7cf53, ⟨by decide, by decide, by decide +kernel⟩, by decide⟩, ktJ9_min_7cf53⟩
set_option maxRecDepth 100000 in
theorem lkJ2_224 : zlkS RJ2 224 mdJ9_max_7cf53 2 := ⟨⟨Or.inl (zgt_in (zt2 (List.mem_of_getElem? (i := 51) rfl)) rfl), niRJ9, kcJ9_max_7cf53, ⟨by decide, by decide, by decide +kernel⟩, by decide⟩, ktJ9_max_7cf53⟩
set_option maxRecDepth 100000 in
theorem lkJ2_228 : zlkS RJ2 228 mdJ2_indexOfChar_4cfef 4 := ⟨⟨Or.inl (zgt_in (zt2 (List.mem_of_getElem? (i := 54) rfl)) rfl), niRJ2, kcJ2_indexOfChar_4cfef, ⟨by decide, by decide, by decide +kernel⟩, by decide⟩, ktJ2_indexOfChar_4cfef⟩
set_option maxRecDepth 100000 in
theorem lkJ2_232 : zlkS RJ2 232 mdJ2_indexOfSupplementary_4cfef 4 := ⟨⟨Or.inl (zgt_in (zt2 (List.mem_of_getElem? (i := 83) rfl)) rfl), niRJ2, kcJ2_indexOfSupplementary_4cfef, ⟨by decide, by decide, by decide +kernel⟩, by decide⟩, ktJ2_indexOfSupplementary_4cfef⟩
set_option maxRecDepth 100000 in
theorem lkJ2_241 : zlkS RJ2 241 mdJ0_checkBoundsBeginEnd_23922 3 := ⟨⟨Or.inl (zgt_in (zt2 (List.mem_of_getElem? (i := 63) rfl)) rfl), niRJ0, kcJ0_checkBoundsBeginEnd_23922, ⟨by decide, by decide, by decide +kernel⟩, by decide⟩, ktJ0_checkBoundsBeginEnd_23922⟩
set_option maxRecDepth 100000 in
theorem lkJ2_244 : zlkS RJ2 244 mdJ2_indexOfCharUnsafe_4cfef 4 := ⟨⟨Or.inl (zgt_in (zt2 (List.mem_of_getElem? (i := 71) rfl)) rfl), niRJ2, kcJ2_indexOfCharUnsafe_4cfef, ⟨by decide, by decide, by decide +kernel⟩, by decide⟩, ktJ2_indexOfCharUnsafe_4cfef⟩
set_option maxRecDepth 100000 in
theorem lmX6_254 : Cond.methodLink RX6 254 Lib.Math.max.name ∈ zgt ∧ Cond.static Lib.Math.max.name ∈ zgt ∧ Cond.initialized "java/lang/Math" ∈ zgt ∧ Cond.code Lib.Math.max.name Lib.Math.max.code 2 (some .int) ∈ zgt := ⟨zgt_in (zt4 (List.mem_of_getElem? (i := 44) rfl)) rfl, zgt_in (zt2 (List.mem_of_getElem? (i := 40) rfl)) rfl, niRJ9, zgt_in (zt2 (List.mem_of_getElem? (i := 41) rfl)) rfl⟩
set_option maxRecDepth 100000 in
theorem lmX0_88 : Cond.methodLink RX0 88 Lib.Math.min.name ∈ zgt ∧ Cond.static Lib.Math.min.name ∈ zgt ∧ Cond.initialized "java/lang/Math" ∈ zgt ∧ Cond.code Lib.Math.min.name Lib.Math.min.code 2 (some .int) ∈ zgt := ⟨zgt_in (zt2 (List.mem_of_getElem? (i := 197) rfl)) rfl, zgt_in (zt2 (List.mem_of_getElem? (i := 43) rfl)) rfl, niRJ9, zgt_in (zt2 (List.mem_of_getElem? (i := 44) rfl)) rfl⟩
set_option maxRecDepth 100000 in
theorem lmX3_43 : Cond.methodLink RX3 43 Lib.Math.abs.name ∈ zgt ∧ Cond.static Lib.Math.abs.name ∈ zgt ∧ Cond.initialized "java/lang/Math" ∈ zgt ∧ Cond.code Lib.Math.abs.name Lib.Math.abs.code 1 (some .int) ∈ zgt := ⟨zgt_in (zt3 (List.mem_of_getElem? (i := 212) rfl)) rfl, zgt_in (zt3 (List.mem_of_getElem? (i := 213) rfl)) rfl, niRJ9, zgt_in (zt3 (List.mem_of_getElem? (i := 214) rfl)) rfl⟩
set_option maxRecDepth 100000 in
theorem lmX3_58 : Cond.methodLink RX3 58 Lib.Math.max.name ∈ zgt ∧ Cond.static Lib.Math.max.name ∈ zgt ∧ Cond.initialized "java/lang/Math" ∈ zgt ∧ Cond.code Lib.Math.max.name Lib.Math.max.code 2 (some .int) ∈ zgt := ⟨zgt_in (zt3 (List.mem_of_getElem? (i := 225) rfl)) rfl, zgt_in (zt2 (List.mem_of_getElem? (i := 40) rfl)) rfl, niRJ9, zgt_in (zt2 (List.mem_of_getElem? (i := 41) rfl)) rfl⟩
set_option maxRecDepth 100000 in
theorem lmX4_42 : Cond.methodLink RX4 42 Lib.Math.max.name ∈ zgt ∧ Cond.static Lib.Math.max.name ∈ zgt ∧ Cond.initialized "java/lang/Math" ∈ zgt ∧ Cond.code Lib.Math.max.name Lib.Math.max.code 2 (some .int) ∈ zgt := ⟨zgt_in (zt3 (List.mem_of_getElem? (i := 195) rfl)) rfl, zgt_in (zt2 (List.mem_of_getElem? (i := 40) rfl)) rfl, niRJ9, zgt_in (zt2 (List.mem_of_getElem? (i := 41) rfl)) rfl⟩
set_option maxRecDepth 100000 in
theorem lmX5_41 : Cond.methodLink RX5 41 Lib.Math.max.name ∈ zgt ∧ Cond.static Lib.Math.max.name ∈ zgt ∧ Cond.initialized "java/lang/Math" ∈ zgt ∧ Cond.code Lib.Math.max.name Lib.Math.max.code 2 (some .int) ∈ zgt := ⟨zgt_in (zt3 (List.mem_of_getElem? (i := 114) rfl)) rfl, zgt_in (zt2 (List.mem_of_getElem? (i := 40) rfl)) rfl, niRJ9, zgt_in (zt2 (List.mem_of_getElem? (i := 41) rfl)) rfl⟩
set_option maxRecDepth 100000 in
theorem uaX0_0 : u_lay RX0 TX0 0 ∈ zgt := zgt_in (zt1 (List.mem_of_getElem? (i := 51) rfl)) rfl
set_option maxRecDepth 100000 in
theorem uaX0_1 : u_lay RX0 TX0 1 ∈ zgt := zgt_in (zt1 (List.mem_of_getElem? (i := 53) rfl)) rfl
set_option maxRecDepth 100000 in
theorem uaX0_2 : u_lay RX0 TX0 2 ∈ zgt := zgt_in (zt1 (List.mem_of_getElem? (i := 55) rfl)) rfl
set_option maxRecDepth 100000 in
theorem uaX0_3 : u_lay RX0 TX0 3 ∈ zgt := zgt_in (zt1 (List.mem_of_getElem? (i := 57) rfl)) rfl
set_option maxRecDepth 100000 in
theorem uaX0_4 : u_lay RX0 TX0 4 ∈ zgt := zgt_in (zt1 (List.mem_of_getElem? (i := 59) rfl)) rfl
set_option maxRecDepth 100000 in
theorem uaX0_5 : u_lay RX0 TX0 5 ∈ zgt := zgt_in (zt1 (List.mem_of_getElem? (i := 61) rfl)) rfl
set_option maxRecDepth 100000 in
theorem uaX0_6 : u_lay RX0 TX0 6 ∈ zgt := zgt_in (zt1 (List.mem_of_getElem? (i := 63) rfl)) rfl
theorem uaX0 : ∀ k, k < 7 → u_lay RX0 TX0 k ∈ zgt := by
  intro k hk
  rcases (show k = 0 ∨ k = 1 ∨ k = 2 ∨ k = 3 ∨ k = 4 ∨ k = 5 ∨ k = 6 by omega) with rfl | rfl | rfl | rfl | rfl | rfl | rfl
  · exact uaX0_0
  · exact uaX0_1
  · exact uaX0_2
  · exact uaX0_3
  · exact uaX0_4
  · exact uaX0_5
  · exact uaX0_6
theorem uwX0 : ∀ w ∈ u_ws RX0 TX0 7, w ∈ zgt := fun w hw => by
  obtain ⟨k, hk, rfl⟩ := List.mem_map.mp hw
  exact uaX0 k (List.mem_range.mp hk)
theorem pfX0_5 : zfp 0 5 .int := ⟨RX0, TX0, 7, tyX0, rfl, tyX0_ok, nmX0, rfl, by decide +kernel⟩
theorem pfX0_6 : zfp 0 6 .int := ⟨RX0, TX0, 7, tyX0, rfl, tyX0_ok, nmX0, rfl, by decide +kernel⟩
set_option maxRecDepth 100000 in
theorem uaX1_0 : u_lay RX1 TX1 0 ∈ zgt := zgt_in (zt1 (List.mem_of_getElem? (i := 76) rfl)) rfl
set_option maxRecDepth 100000 in
theorem uaX1_1 : u_lay RX1 TX1 1 ∈ zgt := zgt_in (zt1 (List.mem_of_getElem? (i := 78) rfl)) rfl
theorem uaX1 : ∀ k, k < 2 → u_lay RX1 TX1 k ∈ zgt := by
  intro k hk
  rcases (show k = 0 ∨ k = 1 by omega) with rfl | rfl
  · exact uaX1_0
  · exact uaX1_1
theorem uwX1 : ∀ w ∈ u_ws RX1 TX1 2, w ∈ zgt := fun w hw => by
  obtain ⟨k, hk, rfl⟩ := List.mem_map.mp hw
  exact uaX1 k (List.mem_range.mp hk)
theorem pfX1_1 : zfp 1 1 .int := ⟨RX1, TX1, 2, tyX1, rfl, tyX1_ok, nmX1, rfl, by decide +kernel⟩
set_option maxRecDepth 100000 in
theorem uaX2_0 : u_lay RX2 TX2 0 ∈ zgt := zgt_in (zt1 (List.mem_of_getElem? (i := 144) rfl)) rfl
set_option maxRecDepth 100000 in
theorem uaX2_1 : u_lay RX2 TX2 1 ∈ zgt := zgt_in (zt1 (List.mem_of_getElem? (i := 146) rfl)) rfl
set_option maxRecDepth 100000 in
theorem uaX2_2 : u_lay RX2 TX2 2 ∈ zgt := zgt_in (zt1 (List.mem_of_getElem? (i := 148) rfl)) rfl
set_option maxRecDepth 100000 in
theorem uaX2_3 : u_lay RX2 TX2 3 ∈ zgt := zgt_in (zt1 (List.mem_of_getElem? (i := 150) rfl)) rfl
set_option maxRecDepth 100000 in
theorem uaX2_4 : u_lay RX2 TX2 4 ∈ zgt := zgt_in (zt1 (List.mem_of_getElem? (i := 152) rfl)) rfl
set_option maxRecDepth 100000 in
theorem uaX2_5 : u_lay RX2 TX2 5 ∈ zgt := zgt_in (zt1 (List.mem_of_getElem? (i := 154) rfl)) rfl
theorem uaX2 : ∀ k, k < 6 → u_lay RX2 TX2 k ∈ zgt := by
  intro k hk
  rcases (show k = 0 ∨ k = 1 ∨ k = 2 ∨ k = 3 ∨ k = 4 ∨ k = 5 by omega) with rfl | rfl | rfl | rfl | rfl | rfl
  · exact uaX2_0
  · exact uaX2_1
  · exact uaX2_2
  · exact uaX2_3
  · exact uaX2_4
  · exact uaX2_5
theorem uwX2 : ∀ w ∈ u_ws RX2 TX2 6, w ∈ zgt := fun w hw => by
  obtain ⟨k, hk, rfl⟩ := List.mem_map.mp hw
  exact uaX2 k (List.mem_range.mp hk)
theorem pfX2_1 : zfp 2 1 .int := ⟨RX2, TX2, 6, tyX2, rfl, tyX2_ok, nmX2, rfl, by decide +kernel⟩
theorem pfX2_2 : zfp 2 2 .int := ⟨RX2, TX2, 6, tyX2, rfl, tyX2_ok, nmX2, rfl, by decide +kernel⟩
theorem pfX2_3 : zfp 2 3 .int := ⟨RX2, TX2, 6, tyX2, rfl, tyX2_ok, nmX2, rfl, by decide +kernel⟩
theorem pfX2_4 : zfp 2 4 .int := ⟨RX2, TX2, 6, tyX2, rfl, tyX2_ok, nmX2, rfl, by decide +kernel⟩
theorem pfX2_5 : zfp 2 5 .int := ⟨RX2, TX2, 6, tyX2, rfl, tyX2_ok, nmX2, rfl, by decide +kernel⟩
set_option maxRecDepth 100000 in
theorem uaX3_0 : u_lay RX3 TX3 0 ∈ zgt := zgt_in (zt1 (List.mem_of_getElem? (i := 120) rfl)) rfl
set_option maxRecDepth 100000 in
theorem uaX3_1 : u_lay RX3 TX3 1 ∈ zgt := zgt_in (zt1 (List.mem_of_getElem? (i := 122) rfl)) rfl
set_option maxRecDepth 100000 in
theorem uaX3_2 : u_lay RX3 TX3 2 ∈ zgt := zgt_in (zt1 (List.mem_of_getElem? (i := 124) rfl)) rfl
set_option maxRecDepth 100000 in
theorem uaX3_3 : u_lay RX3 TX3 3 ∈ zgt := zgt_in (zt1 (List.mem_of_getElem? (i := 126) rfl)) rfl
theorem uaX3 : ∀ k, k < 4 → u_lay RX3 TX3 k ∈ zgt := by
  intro k hk
  rcases (show k = 0 ∨ k = 1 ∨ k = 2 ∨ k = 3 by omega) with rfl | rfl | rfl | rfl
  · exact uaX3_0
  · exact uaX3_1
  · exact uaX3_2
  · exact uaX3_3
theorem uwX3 : ∀ w ∈ u_ws RX3 TX3 4, w ∈ zgt := fun w hw => by
  obtain ⟨k, hk, rfl⟩ := List.mem_map.mp hw
  exact uaX3 k (List.mem_range.mp hk)
theorem pfX3_3 : zfp 3 3 .int := ⟨RX3, TX3, 4, tyX3, rfl, tyX3_ok, nmX3, rfl, by decide +kernel⟩
set_option maxRecDepth 100000 in
theorem uaX4_0 : u_lay RX4 TX4 0 ∈ zgt := zgt_in (zt1 (List.mem_of_getElem? (i := 103) rfl)) rfl
set_option maxRecDepth 100000 in
theorem uaX4_1 : u_lay RX4 TX4 1 ∈ zgt := zgt_in (zt1 (List.mem_of_getElem? (i := 105) rfl)) rfl
set_option maxRecDepth 100000 in
theorem uaX4_2 : u_lay RX4 TX4 2 ∈ zgt := zgt_in (zt1 (List.mem_of_getElem? (i := 107) rfl)) rfl
theorem uaX4 : ∀ k, k < 3 → u_lay RX4 TX4 k ∈ zgt := by
  intro k hk
  rcases (show k = 0 ∨ k = 1 ∨ k = 2 by omega) with rfl | rfl | rfl
  · exact uaX4_0
  · exact uaX4_1
  · exact uaX4_2
theorem uwX4 : ∀ w ∈ u_ws RX4 TX4 3, w ∈ zgt := fun w hw => by
  obtain ⟨k, hk, rfl⟩ := List.mem_map.mp hw
  exact uaX4 k (List.mem_range.mp hk)
theorem pfX4_2 : zfp 4 2 .int := ⟨RX4, TX4, 3, tyX4, rfl, tyX4_ok, nmX4, rfl, by decide +kernel⟩
set_option maxRecDepth 100000 in
theorem uaX5_0 : u_lay RX5 TX5 0 ∈ zgt := zgt_in (zt1 (List.mem_of_getElem? (i := 89) rfl)) rfl
set_option maxRecDepth 100000 in
theorem uaX5_1 : u_lay RX5 TX5 1 ∈ zgt := zgt_in (zt1 (List.mem_of_getElem? (i := 91) rfl)) rfl
theorem uaX5 : ∀ k, k < 2 → u_lay RX5 TX5 k ∈ zgt := by
  intro k hk
  rcases (show k = 0 ∨ k = 1 by omega) with rfl | rfl
  · exact uaX5_0
  · exact uaX5_1
theorem uwX5 : ∀ w ∈ u_ws RX5 TX5 2, w ∈ zgt := fun w hw => by
  obtain ⟨k, hk, rfl⟩ := List.mem_map.mp hw
  exact uaX5 k (List.mem_range.mp hk)
theorem pfX5_1 : zfp 5 1 .int := ⟨RX5, TX5, 2, tyX5, rfl, tyX5_ok, nmX5, rfl, by decide +kernel⟩
set_option maxRecDepth 100000 in
theorem uaX6_0 : u_lay RX6 TX6 0 ∈ zgt := zgt_in (zt1 (List.mem_of_getElem? (i := 172) rfl)) rfl
set_option maxRecDepth 100000 in
theorem uaX6_1 : u_lay RX6 TX6 1 ∈ zgt := zgt_in (zt1 (List.mem_of_getElem? (i := 174) rfl)) rfl
set_option maxRecDepth 100000 in
theorem uaX6_2 : u_lay RX6 TX6 2 ∈ zgt := zgt_in (zt1 (List.mem_of_getElem? (i := 176) rfl)) rfl
set_option maxRecDepth 100000 in
theorem uaX6_3 : u_lay RX6 TX6 3 ∈ zgt := zgt_in (zt1 (List.mem_of_getElem? (i := 178) rfl)) rfl
set_option maxRecDepth 100000 in
theorem uaX6_4 : u_lay RX6 TX6 4 ∈ zgt := zgt_in (zt1 (List.mem_of_getElem? (i := 180) rfl)) rfl
set_option maxRecDepth 100000 in
theorem uaX6_5 : u_lay RX6 TX6 5 ∈ zgt := zgt_in (zt1 (List.mem_of_getElem? (i := 182) rfl)) rfl
set_option maxRecDepth 100000 in
theorem uaX6_6 : u_lay RX6 TX6 6 ∈ zgt := zgt_in (zt1 (List.mem_of_getElem? (i := 184) rfl)) rfl
set_option maxRecDepth 100000 in
theorem uaX6_7 : u_lay RX6 TX6 7 ∈ zgt := zgt_in (zt1 (List.mem_of_getElem? (i := 186) rfl)) rfl
set_option maxRecDepth 100000 in
theorem uaX6_8 : u_lay RX6 TX6 8 ∈ zgt := zgt_in (zt1 (List.mem_of_getElem? (i := 188) rfl)) rfl
set_option maxRecDepth 100000 in
theorem uaX6_9 : u_lay RX6 TX6 9 ∈ zgt := zgt_in (zt1 (List.mem_of_getElem? (i := 190) rfl)) rfl
set_option maxRecDepth 100000 in
theorem uaX6_10 : u_lay RX6 TX6 10 ∈ zgt := zgt_in (zt1 (List.mem_of_getElem? (i := 192) rfl)) rfl
set_option maxRecDepth 100000 in
theorem uaX6_11 : u_lay RX6 TX6 11 ∈ zgt := zgt_in (zt1 (List.mem_of_getElem? (i := 194) rfl)) rfl
set_option maxRecDepth 100000 in
theorem uaX6_12 : u_lay RX6 TX6 12 ∈ zgt := zgt_in (zt1 (List.mem_of_getElem? (i := 196) rfl)) rfl
set_option maxRecDepth 100000 in
theorem uaX6_13 : u_lay RX6 TX6 13 ∈ zgt := zgt_in (zt1 (List.mem_of_getElem? (i := 198) rfl)) rfl
set_option maxRecDepth 100000 in
theorem uaX6_14 : u_lay RX6 TX6 14 ∈ zgt := zgt_in (zt1 (List.mem_of_getElem? (i := 200) rfl)) rfl
theorem uaX6 : ∀ k, k < 15 → u_lay RX6 TX6 k ∈ zgt := by
  intro k hk
  rcases (show k = 0 ∨ k = 1 ∨ k = 2 ∨ k = 3 ∨ k = 4 ∨ k = 5 ∨ k = 6 ∨ k = 7 ∨ k = 8 ∨ k = 9 ∨ k = 10 ∨ k = 11 ∨ k = 12 ∨ k = 13 ∨ k = 14 by omega) with rfl | rfl | rfl | rfl | rfl | rfl | rfl | rfl | rfl | rfl | rfl | rfl | rfl | rfl | rfl
  · exact uaX6_0
  · exact uaX6_1
  · exact uaX6_2
  · exact uaX6_3
  · exact uaX6_4
  · exact uaX6_5
  · exact uaX6_6
  · exact uaX6_7
  · exact uaX6_8
  · exact uaX6_9
  · exact uaX6_10
  · exact uaX6_11
  · exact uaX6_12
  · exact uaX6_13
  · exact uaX6_14
theorem uwX6 : ∀ w ∈ u_ws RX6 TX6 15, w ∈ zgt := fun w hw => by
  obtain ⟨k, hk, rfl⟩ := List.mem_map.mp hw
  exact uaX6 k (List.mem_range.mp hk)
theorem pfX6_4 : zfp 6 4 .boolean := ⟨RX6, TX6, 15, tyX6, rfl, tyX6_ok, nmX6, rfl, by decide +kernel⟩
theorem pfX6_7 : zfp 6 7 .int := ⟨RX6, TX6, 15, tyX6, rfl, tyX6_ok, nmX6, rfl, by decide +kernel⟩
set_option maxRecDepth 100000 in
theorem uaX7_0 : u_lay RX7 TX7 0 ∈ zgt := zgt_in (zt4 (List.mem_of_getElem? (i := 134) rfl)) rfl
set_option maxRecDepth 100000 in
theorem uaX7_1 : u_lay RX7 TX7 1 ∈ zgt := zgt_in (zt4 (List.mem_of_getElem? (i := 136) rfl)) rfl
set_option maxRecDepth 100000 in
theorem uaX7_2 : u_lay RX7 TX7 2 ∈ zgt := zgt_in (zt4 (List.mem_of_getElem? (i := 138) rfl)) rfl
set_option maxRecDepth 100000 in
theorem uaX7_3 : u_lay RX7 TX7 3 ∈ zgt := zgt_in (zt4 (List.mem_of_getElem? (i := 140) rfl)) rfl
set_option maxRecDepth 100000 in
theorem uaX7_4 : u_lay RX7 TX7 4 ∈ zgt := zgt_in (zt4 (List.mem_of_getElem? (i := 142) rfl)) rfl
set_option maxRecDepth 100000 in
theorem uaX7_5 : u_lay RX7 TX7 5 ∈ zgt := zgt_in (zt4 (List.mem_of_getElem? (i := 144) rfl)) rfl
set_option maxRecDepth 100000 in
theorem uaX7_6 : u_lay RX7 TX7 6 ∈ zgt := zgt_in (zt4 (List.mem_of_getElem? (i := 146) rfl)) rfl
set_option maxRecDepth 100000 in
theorem uaX7_7 : u_lay RX7 TX7 7 ∈ zgt := zgt_in (zt4 (List.mem_of_getElem? (i := 148) rfl)) rfl
set_option maxRecDepth 100000 in
theorem uaX7_8 : u_lay RX7 TX7 8 ∈ zgt := zgt_in (zt4 (List.mem_of_getElem? (i := 150) rfl)) rfl
set_option maxRecDepth 100000 in
theorem uaX7_9 : u_lay RX7 TX7 9 ∈ zgt := zgt_in (zt4 (List.mem_of_getElem? (i := 152) rfl)) rfl
set_option maxRecDepth 100000 in
theorem uaX7_10 : u_lay RX7 TX7 10 ∈ zgt := zgt_in (zt4 (List.mem_of_getElem? (i := 154) rfl)) rfl
set_option maxRecDepth 100000 in
theorem uaX7_11 : u_lay RX7 TX7 11 ∈ zgt := zgt_in (zt4 (List.mem_of_getElem? (i := 156) rfl)) rfl
set_option maxRecDepth 100000 in
theorem uaX7_12 : u_lay RX7 TX7 12 ∈ zgt := zgt_in (zt4 (List.mem_of_getElem? (i := 158) rfl)) rfl
set_option maxRecDepth 100000 in
theorem uaX7_13 : u_lay RX7 TX7 13 ∈ zgt := zgt_in (zt4 (List.mem_of_getElem? (i := 160) rfl)) rfl
set_option maxRecDepth 100000 in
theorem uaX7_14 : u_lay RX7 TX7 14 ∈ zgt := zgt_in (zt4 (List.mem_of_getElem? (i := 162) rfl)) rfl
set_option maxRecDepth 100000 in
theorem uaX7_15 : u_lay RX7 TX7 15 ∈ zgt := zgt_in (zt4 (List.mem_of_getElem? (i := 164) rfl)) rfl
set_option maxRecDepth 100000 in
theorem uaX7_16 : u_lay RX7 TX7 16 ∈ zgt := zgt_in (zt4 (List.mem_of_getElem? (i := 166) rfl)) rfl
set_option maxRecDepth 100000 in
theorem uaX7_17 : u_lay RX7 TX7 17 ∈ zgt := zgt_in (zt4 (List.mem_of_getElem? (i := 168) rfl)) rfl
set_option maxRecDepth 100000 in
theorem uaX7_18 : u_lay RX7 TX7 18 ∈ zgt := zgt_in (zt4 (List.mem_of_getElem? (i := 170) rfl)) rfl
set_option maxRecDepth 100000 in
theorem uaX7_19 : u_lay RX7 TX7 19 ∈ zgt := zgt_in (zt4 (List.mem_of_getElem? (i := 172) rfl)) rfl
set_option maxRecDepth 100000 in
theorem uaX7_20 : u_lay RX7 TX7 20 ∈ zgt := zgt_in (zt4 (List.mem_of_getElem? (i := 174) rfl)) rfl
set_option maxRecDepth 100000 in
theorem uaX7_21 : u_lay RX7 TX7 21 ∈ zgt := zgt_in (zt4 (List.mem_of_getElem? (i := 176) rfl)) rfl
set_option maxRecDepth 100000 in
theorem uaX7_22 : u_lay RX7 TX7 22 ∈ zgt := zgt_in (zt4 (List.mem_of_getElem? (i := 178) rfl)) rfl
set_option maxRecDepth 100000 in
theorem uaX7_23 : u_lay RX7 TX7 23 ∈ zgt := zgt_in (zt4 (List.mem_of_getElem? (i := 180) rfl)) rfl
set_option maxRecDepth 100000 in
theorem uaX7_24 : u_lay RX7 TX7 24 ∈ zgt := zgt_in (zt4 (List.mem_of_getElem? (i := 182) rfl)) rfl
set_option maxRecDepth 100000 in
theorem uaX7_25 : u_lay RX7 TX7 25 ∈ zgt := zgt_in (zt4 (List.mem_of_getElem? (i := 184) rfl)) rfl
set_option maxRecDepth 100000 in
theorem uaX7_26 : u_lay RX7 TX7 26 ∈ zgt := zgt_in (zt4 (List.mem_of_getElem? (i := 186) rfl)) rfl
set_option maxRecDepth 100000 in
theorem uaX7_27 : u_lay RX7 TX7 27 ∈ zgt := zgt_in (zt4 (List.mem_of_getElem? (i := 188) rfl)) rfl
theorem uaX7 : ∀ k, k < 28 → u_lay RX7 TX7 k ∈ zgt := by
  intro k hk
  rcases (show k = 0 ∨ k = 1 ∨ k = 2 ∨ k = 3 ∨ k = 4 ∨ k = 5 ∨ k = 6 ∨ k = 7 ∨ k = 8 ∨ k = 9 ∨ k = 10 ∨ k = 11 ∨ k = 12 ∨ k = 13 ∨ k = 14 ∨ k = 15 ∨ k = 16 ∨ k = 17 ∨ k = 18 ∨ k = 19 ∨ k = 20 ∨ k = 21 ∨ k = 22 ∨ k = 23 ∨ k = 24 ∨ k = 25 ∨ k = 26 ∨ k = 27 by omega) with rfl | rfl | rfl | rfl | rfl | rfl | rfl | rfl | rfl | rfl | rfl | rfl | rfl | rfl | rfl | rfl | rfl | rfl | rfl | rfl | rfl | rfl | rfl | rfl | rfl | rfl | rfl | rfl
  · exact uaX7_0
  · exact uaX7_1
  · exact uaX7_2
  · exact uaX7_3
  · exact uaX7_4
  · exact uaX7_5
  · exact uaX7_6
  · exact uaX7_7
  · exact uaX7_8
  · exact uaX7_9
  · exact uaX7_10
  · exact uaX7_11
  · exact uaX7_12
  · exact uaX7_13
  · exact uaX7_14
  · exact uaX7_15
  · exact uaX7_16
  · exact uaX7_17
  · exact uaX7_18
  · exact uaX7_19
  · exact uaX7_20
  · exact uaX7_21
  · exact uaX7_22
  · exact uaX7_23
  · exact uaX7_24
  · exact uaX7_25
  · exact uaX7_26
  · exact uaX7_27
theorem uwX7 : ∀ w ∈ u_ws RX7 TX7 28, w ∈ zgt := fun w hw => by
  obtain ⟨k, hk, rfl⟩ := List.mem_map.mp hw
  exact uaX7 k (List.mem_range.mp hk)
theorem pfX7_6 : zfp 7 6 .int := ⟨RX7, TX7, 28, tyX7, rfl, tyX7_ok, nmX7, rfl, by decide +kernel⟩
theorem pfX7_7 : zfp 7 7 .int := ⟨RX7, TX7, 28, tyX7, rfl, tyX7_ok, nmX7, rfl, by decide +kernel⟩
theorem pfX7_8 : zfp 7 8 .int := ⟨RX7, TX7, 28, tyX7, rfl, tyX7_ok, nmX7, rfl, by decide +kernel⟩
theorem pfX7_13 : zfp 7 13 .int := ⟨RX7, TX7, 28, tyX7, rfl, tyX7_ok, nmX7, rfl, by decide +kernel⟩
theorem pfX7_14 : zfp 7 14 .int := ⟨RX7, TX7, 28, tyX7, rfl, tyX7_ok, nmX7, rfl, by decide +kernel⟩
theorem pfX7_15 : zfp 7 15 .int := ⟨RX7, TX7, 28, tyX7, rfl, tyX7_ok, nmX7, rfl, by decide +kernel⟩
theorem pfX7_17 : zfp 7 17 .boolean := ⟨RX7, TX7, 28, tyX7, rfl, tyX7_ok, nmX7, rfl, by decide +kernel⟩
theorem pfX7_18 : zfp 7 18 .boolean := ⟨RX7, TX7, 28, tyX7, rfl, tyX7_ok, nmX7, rfl, by decide +kernel⟩
theorem pfX7_19 : zfp 7 19 .int := ⟨RX7, TX7, 28, tyX7, rfl, tyX7_ok, nmX7, rfl, by decide +kernel⟩
theorem pfX7_26 : zfp 7 26 .int := ⟨RX7, TX7, 28, tyX7, rfl, tyX7_ok, nmX7, rfl, by decide +kernel⟩
theorem pfX7_27 : zfp 7 27 .int := ⟨RX7, TX7, 28, tyX7, rfl, tyX7_ok, nmX7, rfl, by decide +kernel⟩
set_option maxRecDepth 100000 in
theorem flX6_10 : zfl RX6 10 6 0 := ⟨RX6, TX6, 15, rfl, by decide, uwX6, Or.inl (zgt_in (zt1 (List.mem_of_getElem? (i := 157) rfl)) rfl)⟩
set_option maxRecDepth 100000 in
theorem flX6_16 : zfl RX6 16 6 1 := ⟨RX6, TX6, 15, rfl, by decide, uwX6, Or.inl (zgt_in (zt1 (List.mem_of_getElem? (i := 158) rfl)) rfl)⟩
set_option maxRecDepth 100000 in
theorem flX6_19 : zfl RX6 19 6 2 := ⟨RX6, TX6, 15, rfl, by decide, uwX6, Or.inl (zgt_in (zt1 (List.mem_of_getElem? (i := 159) rfl)) rfl)⟩
set_option maxRecDepth 100000 in
theorem flX6_22 : zfl RX6 22 6 3 := ⟨RX6, TX6, 15, rfl, by decide, uwX6, Or.inl (zgt_in (zt1 (List.mem_of_getElem? (i := 160) rfl)) rfl)⟩
set_option maxRecDepth 100000 in
theorem flX6_28 : zfl RX6 28 6 5 := ⟨RX6, TX6, 15, rfl, by decide, uwX6, Or.inl (zgt_in (zt1 (List.mem_of_getElem? (i := 162) rfl)) rfl)⟩
set_option maxRecDepth 100000 in
theorem flX6_32 : zfl RX6 32 6 6 := ⟨RX6, TX6, 15, rfl, by decide, uwX6, Or.inl (zgt_in (zt1 (List.mem_of_getElem? (i := 163) rfl)) rfl)⟩
set_option maxRecDepth 100000 in
theorem flX6_36 : zfl RX6 36 6 8 := ⟨RX6, TX6, 15, rfl, by decide, uwX6, Or.inl (zgt_in (zt1 (List.mem_of_getElem? (i := 165) rfl)) rfl)⟩
set_option maxRecDepth 100000 in
theorem flX6_42 : zfl RX6 42 6 9 := ⟨RX6, TX6, 15, rfl, by decide, uwX6, Or.inl (zgt_in (zt1 (List.mem_of_getElem? (i := 166) rfl)) rfl)⟩
set_option maxRecDepth 100000 in
theorem flX6_49 : zfl RX6 49 6 10 := ⟨RX6, TX6, 15, rfl, by decide, uwX6, Or.inl (zgt_in (zt1 (List.mem_of_getElem? (i := 167) rfl)) rfl)⟩
set_option maxRecDepth 100000 in
theorem flX6_56 : zfl RX6 56 6 11 := ⟨RX6, TX6, 15, rfl, by decide, uwX6, Or.inl (zgt_in (zt1 (List.mem_of_getElem? (i := 168) rfl)) rfl)⟩
set_option maxRecDepth 100000 in
theorem flX6_63 : zfl RX6 63 6 12 := ⟨RX6, TX6, 15, rfl, by decide, uwX6, Or.inl (zgt_in (zt1 (List.mem_of_getElem? (i := 169) rfl)) rfl)⟩
set_option maxRecDepth 100000 in
theorem flX6_67 : zfl RX6 67 6 13 := ⟨RX6, TX6, 15, rfl, by decide, uwX6, Or.inl (zgt_in (zt1 (List.mem_of_getElem? (i := 170) rfl)) rfl)⟩
set_option maxRecDepth 100000 in
theorem flX6_70 : zfl RX6 70 6 14 := ⟨RX6, TX6, 15, rfl, by decide, uwX6, Or.inl (zgt_in (zt1 (List.mem_of_getElem? (i := 171) rfl)) rfl)⟩
set_option maxRecDepth 100000 in
theorem flX6_92 : zfl RX6 92 1 1 := ⟨RX1, TX1, 2, rfl, by decide, uwX1, Or.inr ⟨"CousinsByAgreement", zNW_in (zt1 (List.mem_of_getElem? (i := 75) rfl)) rfl⟩⟩
set_option maxRecDepth 100000 in
theorem flX6_118 : zfl RX6 118 0 0 := ⟨RX0, TX0, 7, rfl, by decide, uwX0, Or.inr ⟨"CousinsByAgreement", zNW_in (zt1 (List.mem_of_getElem? (i := 33) rfl)) rfl⟩⟩
set_option maxRecDepth 100000 in
theorem flX6_121 : zfl RX6 121 0 1 := ⟨RX0, TX0, 7, rfl, by decide, uwX0, Or.inr ⟨"CousinsByAgreement", zNW_in (zt1 (List.mem_of_getElem? (i := 35) rfl)) rfl⟩⟩
set_option maxRecDepth 100000 in
theorem flX6_124 : zfl RX6 124 0 2 := ⟨RX0, TX0, 7, rfl, by decide, uwX0, Or.inr ⟨"CousinsByAgreement", zNW_in (zt1 (List.mem_of_getElem? (i := 39) rfl)) rfl⟩⟩
set_option maxRecDepth 100000 in
theorem flX6_135 : zfl RX6 135 0 3 := ⟨RX0, TX0, 7, rfl, by decide, uwX0, Or.inr ⟨"CousinsByAgreement", zNW_in (zt1 (List.mem_of_getElem? (i := 41) rfl)) rfl⟩⟩
set_option maxRecDepth 100000 in
theorem flX6_186 : zfl RX6 186 0 5 := ⟨RX0, TX0, 7, rfl, by decide, uwX0, Or.inr ⟨"CousinsByAgreement", zNW_in (zt1 (List.mem_of_getElem? (i := 48) rfl)) rfl⟩⟩
set_option maxRecDepth 100000 in
theorem flX6_266 : zfl RX6 266 6 7 := ⟨RX6, TX6, 15, rfl, by decide, uwX6, Or.inl (zgt_in (zt1 (List.mem_of_getElem? (i := 164) rfl)) rfl)⟩
set_option maxRecDepth 100000 in
theorem flX6_275 : zfl RX6 275 6 4 := ⟨RX6, TX6, 15, rfl, by decide, uwX6, Or.inl (zgt_in (zt1 (List.mem_of_getElem? (i := 161) rfl)) rfl)⟩
set_option maxRecDepth 100000 in
theorem flX6_279 : zfl RX6 279 0 6 := ⟨RX0, TX0, 7, rfl, by decide, uwX0, Or.inr ⟨"CousinsByAgreement", zNW_in (zt1 (List.mem_of_getElem? (i := 50) rfl)) rfl⟩⟩
set_option maxRecDepth 100000 in
theorem flX0_9 : zfl RX0 9 0 0 := ⟨RX0, TX0, 7, rfl, by decide, uwX0, Or.inl (zgt_in (zt1 (List.mem_of_getElem? (i := 32) rfl)) rfl)⟩
set_option maxRecDepth 100000 in
theorem flX0_15 : zfl RX0 15 0 1 := ⟨RX0, TX0, 7, rfl, by decide, uwX0, Or.inl (zgt_in (zt1 (List.mem_of_getElem? (i := 34) rfl)) rfl)⟩
set_option maxRecDepth 100000 in
theorem flX0_18 : zfl RX0 18 0 2 := ⟨RX0, TX0, 7, rfl, by decide, uwX0, Or.inl (zgt_in (zt1 (List.mem_of_getElem? (i := 36) rfl)) rfl)⟩
set_option maxRecDepth 100000 in
theorem flX0_21 : zfl RX0 21 0 3 := ⟨RX0, TX0, 7, rfl, by decide, uwX0, Or.inl (zgt_in (zt1 (List.mem_of_getElem? (i := 40) rfl)) rfl)⟩
set_option maxRecDepth 100000 in
theorem flX0_24 : zfl RX0 24 0 4 := ⟨RX0, TX0, 7, rfl, by decide, uwX0, Or.inl (zgt_in (zt1 (List.mem_of_getElem? (i := 42) rfl)) rfl)⟩
set_option maxRecDepth 100000 in
theorem flX0_33 : zfl RX0 33 0 5 := ⟨RX0, TX0, 7, rfl, by decide, uwX0, Or.inl (zgt_in (zt1 (List.mem_of_getElem? (i := 47) rfl)) rfl)⟩
set_option maxRecDepth 100000 in
theorem flX0_37 : zfl RX0 37 0 6 := ⟨RX0, TX0, 7, rfl, by decide, uwX0, Or.inl (zgt_in (zt1 (List.mem_of_getElem? (i := 49) rfl)) rfl)⟩
set_option maxRecDepth 100000 in
theorem flX1_9 : zfl RX1 9 1 0 := ⟨RX1, TX1, 2, rfl, by decide, uwX1, Or.inl (zgt_in (zt1 (List.mem_of_getElem? (i := 73) rfl)) rfl)⟩
set_option maxRecDepth 100000 in
theorem flX1_15 : zfl RX1 15 1 1 := ⟨RX1, TX1, 2, rfl, by decide, uwX1, Or.inl (zgt_in (zt1 (List.mem_of_getElem? (i := 74) rfl)) rfl)⟩
set_option maxRecDepth 100000 in
theorem flX2_11 : zfl RX2 11 2 0 := ⟨RX2, TX2, 6, rfl, by decide, uwX2, Or.inl (zgt_in (zt1 (List.mem_of_getElem? (i := 138) rfl)) rfl)⟩
set_option maxRecDepth 100000 in
theorem flX2_18 : zfl RX2 18 2 1 := ⟨RX2, TX2, 6, rfl, by decide, uwX2, Or.inl (zgt_in (zt1 (List.mem_of_getElem? (i := 139) rfl)) rfl)⟩
set_option maxRecDepth 100000 in
theorem flX2_22 : zfl RX2 22 2 2 := ⟨RX2, TX2, 6, rfl, by decide, uwX2, Or.inl (zgt_in (zt1 (List.mem_of_getElem? (i := 140) rfl)) rfl)⟩
set_option maxRecDepth 100000 in
theorem flX2_25 : zfl RX2 25 2 3 := ⟨RX2, TX2, 6, rfl, by decide, uwX2, Or.inl (zgt_in (zt1 (List.mem_of_getElem? (i := 141) rfl)) rfl)⟩
set_option maxRecDepth 100000 in
theorem flX2_28 : zfl RX2 28 2 4 := ⟨RX2, TX2, 6, rfl, by decide, uwX2, Or.inl (zgt_in (zt1 (List.mem_of_getElem? (i := 142) rfl)) rfl)⟩
set_option maxRecDepth 100000 in
theorem flX2_31 : zfl RX2 31 2 5 := ⟨RX2, TX2, 6, rfl, by decide, uwX2, Or.inl (zgt_in (zt1 (List.mem_of_getElem? (i := 143) rfl)) rfl)⟩
set_option maxRecDepth 100000 in
theorem flX2_46 : zfl RX2 46 0 2 := ⟨RX0, TX0, 7, rfl, by decide, uwX0, Or.inr ⟨"CousinsByAgreement", zNW_in (zt1 (List.mem_of_getElem? (i := 38) rfl)) rfl⟩⟩
set_option maxRecDepth 100000 in
theorem flX3_9 : zfl RX3 9 3 0 := ⟨RX3, TX3, 4, rfl, by decide, uwX3, Or.inl (zgt_in (zt1 (List.mem_of_getElem? (i := 116) rfl)) rfl)⟩
set_option maxRecDepth 100000 in
theorem flX3_15 : zfl RX3 15 3 1 := ⟨RX3, TX3, 4, rfl, by decide, uwX3, Or.inl (zgt_in (zt1 (List.mem_of_getElem? (i := 117) rfl)) rfl)⟩
set_option maxRecDepth 100000 in
theorem flX3_18 : zfl RX3 18 3 2 := ⟨RX3, TX3, 4, rfl, by decide, uwX3, Or.inl (zgt_in (zt1 (List.mem_of_getElem? (i := 118) rfl)) rfl)⟩
set_option maxRecDepth 100000 in
theorem flX3_21 : zfl RX3 21 0 5 := ⟨RX0, TX0, 7, rfl, by decide, uwX0, Or.inr ⟨"CousinsByAgreement", zNW_in (zt1 (List.mem_of_getElem? (i := 46) rfl)) rfl⟩⟩
set_option maxRecDepth 100000 in
theorem flX3_27 : zfl RX3 27 3 3 := ⟨RX3, TX3, 4, rfl, by decide, uwX3, Or.inl (zgt_in (zt1 (List.mem_of_getElem? (i := 119) rfl)) rfl)⟩
set_option maxRecDepth 100000 in
theorem flX3_40 : zfl RX3 40 0 2 := ⟨RX0, TX0, 7, rfl, by decide, uwX0, Or.inr ⟨"CousinsByAgreement", zNW_in (zt1 (List.mem_of_getElem? (i := 37) rfl)) rfl⟩⟩
set_option maxRecDepth 100000 in
theorem flX4_9 : zfl RX4 9 4 0 := ⟨RX4, TX4, 3, rfl, by decide, uwX4, Or.inl (zgt_in (zt1 (List.mem_of_getElem? (i := 100) rfl)) rfl)⟩
set_option maxRecDepth 100000 in
theorem flX4_15 : zfl RX4 15 4 1 := ⟨RX4, TX4, 3, rfl, by decide, uwX4, Or.inl (zgt_in (zt1 (List.mem_of_getElem? (i := 101) rfl)) rfl)⟩
set_option maxRecDepth 100000 in
theorem flX4_18 : zfl RX4 18 0 5 := ⟨RX0, TX0, 7, rfl, by decide, uwX0, Or.inr ⟨"CousinsByAgreement", zNW_in (zt1 (List.mem_of_getElem? (i := 45) rfl)) rfl⟩⟩
set_option maxRecDepth 100000 in
theorem flX4_24 : zfl RX4 24 4 2 := ⟨RX4, TX4, 3, rfl, by decide, uwX4, Or.inl (zgt_in (zt1 (List.mem_of_getElem? (i := 102) rfl)) rfl)⟩
set_option maxRecDepth 100000 in
theorem flX4_25 : zfl RX4 25 0 4 := ⟨RX0, TX0, 7, rfl, by decide, uwX0, Or.inr ⟨"CousinsByAgreement", zNW_in (zt1 (List.mem_of_getElem? (i := 43) rfl)) rfl⟩⟩
set_option maxRecDepth 100000 in
theorem flX5_9 : zfl RX5 9 5 0 := ⟨RX5, TX5, 2, rfl, by decide, uwX5, Or.inl (zgt_in (zt1 (List.mem_of_getElem? (i := 87) rfl)) rfl)⟩
set_option maxRecDepth 100000 in
theorem flX5_15 : zfl RX5 15 0 5 := ⟨RX0, TX0, 7, rfl, by decide, uwX0, Or.inr ⟨"CousinsByAgreement", zNW_in (zt1 (List.mem_of_getElem? (i := 44) rfl)) rfl⟩⟩
set_option maxRecDepth 100000 in
theorem flX5_21 : zfl RX5 21 5 1 := ⟨RX5, TX5, 2, rfl, by decide, uwX5, Or.inl (zgt_in (zt1 (List.mem_of_getElem? (i := 88) rfl)) rfl)⟩
set_option maxRecDepth 100000 in
theorem flX7_7 : zfl RX7 7 7 0 := ⟨RX7, TX7, 28, rfl, by decide, uwX7, Or.inl (zgt_in (zt4 (List.mem_of_getElem? (i := 106) rfl)) rfl)⟩
set_option maxRecDepth 100000 in
theorem flX7_13 : zfl RX7 13 7 1 := ⟨RX7, TX7, 28, rfl, by decide, uwX7, Or.inl (zgt_in (zt4 (List.mem_of_getElem? (i := 107) rfl)) rfl)⟩
set_option maxRecDepth 100000 in
theorem flX7_16 : zfl RX7 16 7 2 := ⟨RX7, TX7, 28, rfl, by decide, uwX7, Or.inl (zgt_in (zt4 (List.mem_of_getElem? (i := 108) rfl)) rfl)⟩
set_option maxRecDepth 100000 in
theorem flX7_19 : zfl RX7 19 7 3 := ⟨RX7, TX7, 28, rfl, by decide, uwX7, Or.inl (zgt_in (zt4 (List.mem_of_getElem? (i := 109) rfl)) rfl)⟩
set_option maxRecDepth 100000 in
theorem flX7_22 : zfl RX7 22 7 4 := ⟨RX7, TX7, 28, rfl, by decide, uwX7, Or.inl (zgt_in (zt4 (List.mem_of_getElem? (i := 110) rfl)) rfl)⟩
set_option maxRecDepth 100000 in
theorem flX7_25 : zfl RX7 25 7 5 := ⟨RX7, TX7, 28, rfl, by decide, uwX7, Or.inl (zgt_in (zt4 (List.mem_of_getElem? (i := 111) rfl)) rfl)⟩
set_option maxRecDepth 100000 in
theorem flX7_28 : zfl RX7 28 7 8 := ⟨RX7, TX7, 28, rfl, by decide, uwX7, Or.inl (zgt_in (zt4 (List.mem_of_getElem? (i := 114) rfl)) rfl)⟩
set_option maxRecDepth 100000 in
theorem flX7_32 : zfl RX7 32 7 9 := ⟨RX7, TX7, 28, rfl, by decide, uwX7, Or.inl (zgt_in (zt4 (List.mem_of_getElem? (i := 115) rfl)) rfl)⟩
set_option maxRecDepth 100000 in
theorem flX7_35 : zfl RX7 35 7 10 := ⟨RX7, TX7, 28, rfl, by decide, uwX7, Or.inl (zgt_in (zt4 (List.mem_of_getElem? (i := 116) rfl)) rfl)⟩
set_option maxRecDepth 100000 in
theorem flX7_38 : zfl RX7 38 7 11 := ⟨RX7, TX7, 28, rfl, by decide, uwX7, Or.inl (zgt_in (zt4 (List.mem_of_getElem? (i := 117) rfl)) rfl)⟩
set_option maxRecDepth 100000 in
theorem flX7_41 : zfl RX7 41 7 12 := ⟨RX7, TX7, 28, rfl, by decide, uwX7, Or.inl (zgt_in (zt4 (List.mem_of_getElem? (i := 118) rfl)) rfl)⟩
set_option maxRecDepth 100000 in
theorem flX7_44 : zfl RX7 44 7 16 := ⟨RX7, TX7, 28, rfl, by decide, uwX7, Or.inl (zgt_in (zt4 (List.mem_of_getElem? (i := 122) rfl)) rfl)⟩
set_option maxRecDepth 100000 in
theorem flX7_47 : zfl RX7 47 7 20 := ⟨RX7, TX7, 28, rfl, by decide, uwX7, Or.inl (zgt_in (zt4 (List.mem_of_getElem? (i := 126) rfl)) rfl)⟩
set_option maxRecDepth 100000 in
theorem flX7_50 : zfl RX7 50 7 21 := ⟨RX7, TX7, 28, rfl, by decide, uwX7, Or.inl (zgt_in (zt4 (List.mem_of_getElem? (i := 127) rfl)) rfl)⟩
set_option maxRecDepth 100000 in
theorem flX7_53 : zfl RX7 53 7 22 := ⟨RX7, TX7, 28, rfl, by decide, uwX7, Or.inl (zgt_in (zt4 (List.mem_of_getElem? (i := 128) rfl)) rfl)⟩
set_option maxRecDepth 100000 in
theorem flX7_56 : zfl RX7 56 7 23 := ⟨RX7, TX7, 28, rfl, by decide, uwX7, Or.inl (zgt_in (zt4 (List.mem_of_getElem? (i := 129) rfl)) rfl)⟩
set_option maxRecDepth 100000 in
theorem flX7_59 : zfl RX7 59 7 24 := ⟨RX7, TX7, 28, rfl, by decide, uwX7, Or.inl (zgt_in (zt4 (List.mem_of_getElem? (i := 130) rfl)) rfl)⟩
set_option maxRecDepth 100000 in
theorem flX7_62 : zfl RX7 62 7 25 := ⟨RX7, TX7, 28, rfl, by decide, uwX7, Or.inl (zgt_in (zt4 (List.mem_of_getElem? (i := 131) rfl)) rfl)⟩
set_option maxRecDepth 100000 in
theorem flX7_65 : zfl RX7 65 7 6 := ⟨RX7, TX7, 28, rfl, by decide, uwX7, Or.inl (zgt_in (zt4 (List.mem_of_getElem? (i := 112) rfl)) rfl)⟩
set_option maxRecDepth 100000 in
theorem flX7_86 : zfl RX7 86 7 13 := ⟨RX7, TX7, 28, rfl, by decide, uwX7, Or.inl (zgt_in (zt4 (List.mem_of_getElem? (i := 119) rfl)) rfl)⟩
set_option maxRecDepth 100000 in
theorem flX7_93 : zfl RX7 93 7 14 := ⟨RX7, TX7, 28, rfl, by decide, uwX7, Or.inl (zgt_in (zt4 (List.mem_of_getElem? (i := 120) rfl)) rfl)⟩
set_option maxRecDepth 100000 in
theorem flX7_113 : zfl RX7 113 7 15 := ⟨RX7, TX7, 28, rfl, by decide, uwX7, Or.inl (zgt_in (zt4 (List.mem_of_getElem? (i := 121) rfl)) rfl)⟩
set_option maxRecDepth 100000 in
theorem flX7_126 : zfl RX7 126 7 7 := ⟨RX7, TX7, 28, rfl, by decide, uwX7, Or.inl (zgt_in (zt4 (List.mem_of_getElem? (i := 113) rfl)) rfl)⟩
set_option maxRecDepth 100000 in
theorem flX7_154 : zfl RX7 154 7 18 := ⟨RX7, TX7, 28, rfl, by decide, uwX7, Or.inl (zgt_in (zt4 (List.mem_of_getElem? (i := 124) rfl)) rfl)⟩
set_option maxRecDepth 100000 in
theorem flX7_158 : zfl RX7 158 7 19 := ⟨RX7, TX7, 28, rfl, by decide, uwX7, Or.inl (zgt_in (zt4 (List.mem_of_getElem? (i := 125) rfl)) rfl)⟩
set_option maxRecDepth 100000 in
theorem flX7_168 : zfl RX7 168 7 17 := ⟨RX7, TX7, 28, rfl, by decide, uwX7, Or.inl (zgt_in (zt4 (List.mem_of_getElem? (i := 123) rfl)) rfl)⟩
set_option maxRecDepth 100000 in
theorem flX7_297 : zfl RX7 297 7 26 := ⟨RX7, TX7, 28, rfl, by decide, uwX7, Or.inl (zgt_in (zt4 (List.mem_of_getElem? (i := 132) rfl)) rfl)⟩
set_option maxRecDepth 100000 in
theorem flX7_307 : zfl RX7 307 7 27 := ⟨RX7, TX7, 28, rfl, by decide, uwX7, Or.inl (zgt_in (zt4 (List.mem_of_getElem? (i := 133) rfl)) rfl)⟩
set_option maxRecDepth 100000 in
theorem csX6_213 : Cond.constant RX6 213 (1000000000 : Int32) ∈ zgt := zgt_in (zt3 (List.mem_of_getElem? (i := 164) rfl)) rfl
set_option maxRecDepth 100000 in
theorem csX6_240 : Cond.constantLong RX6 240 (4000000000000000000 : Int64) ∈ zgt := zgt_in (zt4 (List.mem_of_getElem? (i := 19) rfl)) rfl
set_option maxRecDepth 100000 in
theorem csX6_310 : Cond.constant RX6 310 (1664525 : Int32) ∈ zgt := zgt_in (zt4 (List.mem_of_getElem? (i := 77) rfl)) rfl
set_option maxRecDepth 100000 in
theorem csX6_311 : Cond.constant RX6 311 (1013904223 : Int32) ∈ zgt := zgt_in (zt4 (List.mem_of_getElem? (i := 78) rfl)) rfl
set_option maxRecDepth 100000 in
theorem csX6_312 : Cond.constant RX6 312 (2147483647 : Int32) ∈ zgt := zgt_in (zt4 (List.mem_of_getElem? (i := 79) rfl)) rfl
set_option maxRecDepth 100000 in
theorem csX7_68 : Cond.constant RX7 68 (1000000000 : Int32) ∈ zgt := zgt_in (zt5 (List.mem_of_getElem? (i := 220) rfl)) rfl
set_option maxRecDepth 100000 in
theorem csX7_69 : Cond.constantLong RX7 69 (4000000000000000000 : Int64) ∈ zgt := zgt_in (zt6 (List.mem_of_getElem? (i := 63) rfl)) rfl
set_option maxRecDepth 100000 in
theorem csX7_310 : Cond.constant RX7 310 (1664525 : Int32) ∈ zgt := zgt_in (zt6 (List.mem_of_getElem? (i := 117) rfl)) rfl
set_option maxRecDepth 100000 in
theorem csX7_311 : Cond.constant RX7 311 (1013904223 : Int32) ∈ zgt := zgt_in (zt6 (List.mem_of_getElem? (i := 118) rfl)) rfl
set_option maxRecDepth 100000 in
theorem csX7_312 : Cond.constant RX7 312 (2147483647 : Int32) ∈ zgt := zgt_in (zt6 (List.mem_of_getElem? (i := 119) rfl)) rfl
set_option maxRecDepth 100000 in
theorem csJ11_76 : Cond.constant RJ11 76 (56320 : Int32) ∈ zgt := zgt_in (zt2 (List.mem_of_getElem? (i := 96) rfl)) rfl
set_option maxRecDepth 100000 in
theorem csJ11_110 : Cond.constant RJ11 110 (55232 : Int32) ∈ zgt := zgt_in (zt2 (List.mem_of_getElem? (i := 92) rfl)) rfl
set_option maxRecDepth 100000 in
theorem csJ6_265 : Cond.constant RJ6 265 (1431655765 : Int32) ∈ zgt := zgt_in (zt2 (List.mem_of_getElem? (i := 219) rfl)) rfl
set_option maxRecDepth 100000 in
theorem csJ6_266 : Cond.constant RJ6 266 (858993459 : Int32) ∈ zgt := zgt_in (zt2 (List.mem_of_getElem? (i := 220) rfl)) rfl
set_option maxRecDepth 100000 in
theorem csJ6_267 : Cond.constant RJ6 267 (252645135 : Int32) ∈ zgt := zgt_in (zt2 (List.mem_of_getElem? (i := 221) rfl)) rfl
set_option maxRecDepth 100000 in
theorem csJ2_227 : Cond.constant RJ2 227 (65536 : Int32) ∈ zgt := zgt_in (zt2 (List.mem_of_getElem? (i := 53) rfl)) rfl
end
