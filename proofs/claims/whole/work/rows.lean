section
-- ===== PART A: goes FIRST, ahead of the names: the tables' words, and 'selects' of the private methods out of them =====
/-- a private method of a class that the tables say can be made, by its rows of tables_1 -/
def lw_okq (q : MethodName × Nat) : Prop := (q.1.cls ≠ "java/lang/invoke/MethodHandle" ∧ q.1.cls ≠ "java/lang/invoke/VarHandle") ∧ Cond.instantiable q.1.cls q.2 ∈ tables_1 ∧ Cond.privateMethod q.1 ∈ tables_1 ∧ Cond.instanceMethod q.1 ∈ tables_1
theorem lw_p0 : lw_okq (⟨"CousinsByAgreement", "refuse", "(I)I"⟩, 15) := ⟨⟨by decide +kernel, by decide +kernel⟩, List.mem_of_getElem? (i := 19) (by decide +kernel), List.mem_of_getElem? (i := 218) (by decide +kernel), List.mem_of_getElem? (i := 219) (by decide +kernel)⟩
theorem lw_p1 : lw_okq (⟨"CousinsByAgreement$Letters", "lengthFrom", "(I)I"⟩, 2) := ⟨⟨by decide +kernel, by decide +kernel⟩, List.mem_of_getElem? (i := 68) (by decide +kernel), List.mem_of_getElem? (i := 235) (by decide +kernel), List.mem_of_getElem? (i := 236) (by decide +kernel)⟩
theorem lw_p2 : lw_okq (⟨"CousinsByAgreement$Letters", "at", "(I)I"⟩, 2) := ⟨⟨by decide +kernel, by decide +kernel⟩, List.mem_of_getElem? (i := 68) (by decide +kernel), List.mem_of_getElem? (i := 239) (by decide +kernel), List.mem_of_getElem? (i := 240) (by decide +kernel)⟩
theorem lw_p3 : lw_okq (⟨"CousinsByAgreement$Letters", "badWithin", "(II)I"⟩, 2) := ⟨⟨by decide +kernel, by decide +kernel⟩, List.mem_of_getElem? (i := 68) (by decide +kernel), List.mem_of_getElem? (i := 243) (by decide +kernel), List.mem_of_getElem? (i := 244) (by decide +kernel)⟩
theorem lw_p4 : lw_okq (⟨"CousinsByAgreement$Letters", "kindAt", "(I)I"⟩, 2) := ⟨⟨by decide +kernel, by decide +kernel⟩, List.mem_of_getElem? (i := 68) (by decide +kernel), List.mem_of_getElem? (i := 247) (by decide +kernel), List.mem_of_getElem? (i := 248) (by decide +kernel)⟩
theorem lw_p5 : lw_okq (⟨"CousinsByAgreement$Letters", "tellOne", "(LCousinsByAgreement$County;I)Z"⟩, 2) := ⟨⟨by decide +kernel, by decide +kernel⟩, List.mem_of_getElem? (i := 68) (by decide +kernel), List.mem_of_getElem? (i := 352) (by decide +kernel), List.mem_of_getElem? (i := 353) (by decide +kernel)⟩
theorem lw_p6 : lw_okq (⟨"CousinsByAgreement$Letters", "digitAt", "(I)I"⟩, 2) := ⟨⟨by decide +kernel, by decide +kernel⟩, List.mem_of_getElem? (i := 68) (by decide +kernel), List.mem_of_getElem? (i := 356) (by decide +kernel), List.mem_of_getElem? (i := 357) (by decide +kernel)⟩
theorem lw_p7 : lw_okq (⟨"CousinsByAgreement$Letters", "numberAt", "(I)I"⟩, 2) := ⟨⟨by decide +kernel, by decide +kernel⟩, List.mem_of_getElem? (i := 68) (by decide +kernel), List.mem_of_getElem? (i := 360) (by decide +kernel), List.mem_of_getElem? (i := 361) (by decide +kernel)⟩
theorem lw_p8 : lw_okq (⟨"CousinsByAgreement$County", "pay", "(II)V"⟩, 7) := ⟨⟨by decide +kernel, by decide +kernel⟩, List.mem_of_getElem? (i := 27) (by decide +kernel), List.mem_of_getElem? (i := 430) (by decide +kernel), List.mem_of_getElem? (i := 431) (by decide +kernel)⟩
theorem lw_p9 : lw_okq (⟨"CousinsByAgreement", "nobody", "(I)I"⟩, 15) := ⟨⟨by decide +kernel, by decide +kernel⟩, List.mem_of_getElem? (i := 19) (by decide +kernel), List.mem_of_getElem? (i := 448) (by decide +kernel), List.mem_of_getElem? (i := 449) (by decide +kernel)⟩
theorem lw_p10 : lw_okq (⟨"CousinsByAgreement", "notTwo", "(II)I"⟩, 15) := ⟨⟨by decide +kernel, by decide +kernel⟩, List.mem_of_getElem? (i := 19) (by decide +kernel), List.mem_of_getElem? (i := 467) (by decide +kernel), List.mem_of_getElem? (i := 468) (by decide +kernel)⟩
theorem lw_p11 : lw_okq (⟨"CousinsByAgreement", "thinkAhead", "(I)V"⟩, 15) := ⟨⟨by decide +kernel, by decide +kernel⟩, List.mem_of_getElem? (i := 19) (by decide +kernel), List.mem_of_getElem? (i := 514) (by decide +kernel), List.mem_of_getElem? (i := 515) (by decide +kernel)⟩
theorem lw_p12 : lw_okq (⟨"CousinsByAgreement", "steadyAfter", "()I"⟩, 15) := ⟨⟨by decide +kernel, by decide +kernel⟩, List.mem_of_getElem? (i := 19) (by decide +kernel), List.mem_of_getElem? (i := 535) (by decide +kernel), List.mem_of_getElem? (i := 536) (by decide +kernel)⟩
theorem lw_p13 : lw_okq (⟨"CousinsByAgreement", "firstRuin", "(I)I"⟩, 15) := ⟨⟨by decide +kernel, by decide +kernel⟩, List.mem_of_getElem? (i := 19) (by decide +kernel), List.mem_of_getElem? (i := 543) (by decide +kernel), List.mem_of_getElem? (i := 544) (by decide +kernel)⟩
theorem lw_p14 : lw_okq (⟨"CousinsByAgreement$Ties", "spread", "(I)I"⟩, 2) := ⟨⟨by decide +kernel, by decide +kernel⟩, List.mem_of_getElem? (i := 82) (by decide +kernel), List.mem_of_getElem? (i := 564) (by decide +kernel), List.mem_of_getElem? (i := 565) (by decide +kernel)⟩
theorem lw_p15 : lw_okq (⟨"CousinsByAgreement$Ties", "isClan", "(I)Z"⟩, 2) := ⟨⟨by decide +kernel, by decide +kernel⟩, List.mem_of_getElem? (i := 82) (by decide +kernel), List.mem_of_getElem? (i := 608) (by decide +kernel), List.mem_of_getElem? (i := 609) (by decide +kernel)⟩
def lw_privs_1 : List (MethodName × Nat) := [(⟨"CousinsByAgreement", "refuse", "(I)I"⟩, 15), (⟨"CousinsByAgreement$Letters", "lengthFrom", "(I)I"⟩, 2), (⟨"CousinsByAgreement$Letters", "at", "(I)I"⟩, 2), (⟨"CousinsByAgreement$Letters", "badWithin", "(II)I"⟩, 2), (⟨"CousinsByAgreement$Letters", "kindAt", "(I)I"⟩, 2), (⟨"CousinsByAgreement$Letters", "tellOne", "(LCousinsByAgreement$County;I)Z"⟩, 2), (⟨"CousinsByAgreement$Letters", "digitAt", "(I)I"⟩, 2), (⟨"CousinsByAgreement$Letters", "numberAt", "(I)I"⟩, 2), (⟨"CousinsByAgreement$County", "pay", "(II)V"⟩, 7), (⟨"CousinsByAgreement", "nobody", "(I)I"⟩, 15), (⟨"CousinsByAgreement", "notTwo", "(II)I"⟩, 15), (⟨"CousinsByAgreement", "thinkAhead", "(I)V"⟩, 15), (⟨"CousinsByAgreement", "steadyAfter", "()I"⟩, 15), (⟨"CousinsByAgreement", "firstRuin", "(I)I"⟩, 15), (⟨"CousinsByAgreement$Ties", "spread", "(I)I"⟩, 2), (⟨"CousinsByAgreement$Ties", "isClan", "(I)Z"⟩, 2)]
theorem lw_r1 : ∀ q ∈ lw_privs_1, lw_okq q := List.forall_mem_cons.mpr ⟨lw_p0, List.forall_mem_cons.mpr ⟨lw_p1, List.forall_mem_cons.mpr ⟨lw_p2, List.forall_mem_cons.mpr ⟨lw_p3, List.forall_mem_cons.mpr ⟨lw_p4, List.forall_mem_cons.mpr ⟨lw_p5, List.forall_mem_cons.mpr ⟨lw_p6, List.forall_mem_cons.mpr ⟨lw_p7, List.forall_mem_cons.mpr ⟨lw_p8, List.forall_mem_cons.mpr ⟨lw_p9, List.forall_mem_cons.mpr ⟨lw_p10, List.forall_mem_cons.mpr ⟨lw_p11, List.forall_mem_cons.mpr ⟨lw_p12, List.forall_mem_cons.mpr ⟨lw_p13, List.forall_mem_cons.mpr ⟨lw_p14, List.forall_mem_cons.mpr ⟨lw_p15, fun _ h => absurd h List.not_mem_nil⟩⟩⟩⟩⟩⟩⟩⟩⟩⟩⟩⟩⟩⟩⟩⟩
theorem lw_p16 : lw_okq (⟨"CousinsByAgreement", "bestChange", "(III)I"⟩, 15) := ⟨⟨by decide +kernel, by decide +kernel⟩, List.mem_of_getElem? (i := 19) (by decide +kernel), List.mem_of_getElem? (i := 616) (by decide +kernel), List.mem_of_getElem? (i := 617) (by decide +kernel)⟩
theorem lw_p17 : lw_okq (⟨"CousinsByAgreement", "mayChange", "(III)Z"⟩, 15) := ⟨⟨by decide +kernel, by decide +kernel⟩, List.mem_of_getElem? (i := 19) (by decide +kernel), List.mem_of_getElem? (i := 620) (by decide +kernel), List.mem_of_getElem? (i := 621) (by decide +kernel)⟩
theorem lw_p18 : lw_okq (⟨"CousinsByAgreement", "makeChange", "(III)V"⟩, 15) := ⟨⟨by decide +kernel, by decide +kernel⟩, List.mem_of_getElem? (i := 19) (by decide +kernel), List.mem_of_getElem? (i := 624) (by decide +kernel), List.mem_of_getElem? (i := 625) (by decide +kernel)⟩
theorem lw_p19 : lw_okq (⟨"CousinsByAgreement$County", "changeIn", "([III)V"⟩, 7) := ⟨⟨by decide +kernel, by decide +kernel⟩, List.mem_of_getElem? (i := 27) (by decide +kernel), List.mem_of_getElem? (i := 632) (by decide +kernel), List.mem_of_getElem? (i := 633) (by decide +kernel)⟩
theorem lw_p20 : lw_okq (⟨"CousinsByAgreement", "wealthWithFeud", "(IIZI)I"⟩, 15) := ⟨⟨by decide +kernel, by decide +kernel⟩, List.mem_of_getElem? (i := 19) (by decide +kernel), List.mem_of_getElem? (i := 646) (by decide +kernel), List.mem_of_getElem? (i := 647) (by decide +kernel)⟩
theorem lw_p21 : lw_okq (⟨"CousinsByAgreement$Seats", "seatFrom", "(III)Z"⟩, 3) := ⟨⟨by decide +kernel, by decide +kernel⟩, List.mem_of_getElem? (i := 95) (by decide +kernel), List.mem_of_getElem? (i := 672) (by decide +kernel), List.mem_of_getElem? (i := 673) (by decide +kernel)⟩
theorem lw_p22 : lw_okq (⟨"CousinsByAgreement$Pairs", "mostOf", "(I)I"⟩, 4) := ⟨⟨by decide +kernel, by decide +kernel⟩, List.mem_of_getElem? (i := 111) (by decide +kernel), List.mem_of_getElem? (i := 697) (by decide +kernel), List.mem_of_getElem? (i := 698) (by decide +kernel)⟩
theorem lw_p23 : lw_okq (⟨"CousinsByAgreement$Pairs", "leastIn", "(I)I"⟩, 4) := ⟨⟨by decide +kernel, by decide +kernel⟩, List.mem_of_getElem? (i := 111) (by decide +kernel), List.mem_of_getElem? (i := 701) (by decide +kernel), List.mem_of_getElem? (i := 702) (by decide +kernel)⟩
theorem lw_p24 : lw_okq (⟨"CousinsByAgreement$Pairs", "choose", "(I)V"⟩, 4) := ⟨⟨by decide +kernel, by decide +kernel⟩, List.mem_of_getElem? (i := 111) (by decide +kernel), List.mem_of_getElem? (i := 707) (by decide +kernel), List.mem_of_getElem? (i := 708) (by decide +kernel)⟩
theorem lw_p25 : lw_okq (⟨"CousinsByAgreement$Pairs", "leastPartner", "(II)I"⟩, 4) := ⟨⟨by decide +kernel, by decide +kernel⟩, List.mem_of_getElem? (i := 111) (by decide +kernel), List.mem_of_getElem? (i := 712) (by decide +kernel), List.mem_of_getElem? (i := 713) (by decide +kernel)⟩
theorem lw_p26 : lw_okq (⟨"CousinsByAgreement$Odds", "waysFrom", "(I)J"⟩, 6) := ⟨⟨by decide +kernel, by decide +kernel⟩, List.mem_of_getElem? (i := 130) (by decide +kernel), List.mem_of_getElem? (i := 746) (by decide +kernel), List.mem_of_getElem? (i := 747) (by decide +kernel)⟩
theorem lw_p27 : lw_okq (⟨"CousinsByAgreement", "goesAsTold", "(I)Z"⟩, 15) := ⟨⟨by decide +kernel, by decide +kernel⟩, List.mem_of_getElem? (i := 19) (by decide +kernel), List.mem_of_getElem? (i := 774) (by decide +kernel), List.mem_of_getElem? (i := 775) (by decide +kernel)⟩
theorem lw_p28 : lw_okq (⟨"CousinsByAgreement", "drawSignings", "(I)I"⟩, 15) := ⟨⟨by decide +kernel, by decide +kernel⟩, List.mem_of_getElem? (i := 19) (by decide +kernel), List.mem_of_getElem? (i := 794) (by decide +kernel), List.mem_of_getElem? (i := 795) (by decide +kernel)⟩
theorem lw_p29 : lw_okq (⟨"CousinsByAgreementModel", "no", "(I)I"⟩, 28) := ⟨⟨by decide +kernel, by decide +kernel⟩, List.mem_of_getElem? (i := 821) (by decide +kernel), List.mem_of_getElem? (i := 919) (by decide +kernel), List.mem_of_getElem? (i := 920) (by decide +kernel)⟩
theorem lw_p30 : lw_okq (⟨"CousinsByAgreementModel", "statement", "()Z"⟩, 28) := ⟨⟨by decide +kernel, by decide +kernel⟩, List.mem_of_getElem? (i := 821) (by decide +kernel), List.mem_of_getElem? (i := 927) (by decide +kernel), List.mem_of_getElem? (i := 928) (by decide +kernel)⟩
theorem lw_p31 : lw_okq (⟨"CousinsByAgreementModel", "next", "()I"⟩, 28) := ⟨⟨by decide +kernel, by decide +kernel⟩, List.mem_of_getElem? (i := 821) (by decide +kernel), List.mem_of_getElem? (i := 931) (by decide +kernel), List.mem_of_getElem? (i := 932) (by decide +kernel)⟩
def lw_privs_2 : List (MethodName × Nat) := [(⟨"CousinsByAgreement", "bestChange", "(III)I"⟩, 15), (⟨"CousinsByAgreement", "mayChange", "(III)Z"⟩, 15), (⟨"CousinsByAgreement", "makeChange", "(III)V"⟩, 15), (⟨"CousinsByAgreement$County", "changeIn", "([III)V"⟩, 7), (⟨"CousinsByAgreement", "wealthWithFeud", "(IIZI)I"⟩, 15), (⟨"CousinsByAgreement$Seats", "seatFrom", "(III)Z"⟩, 3), (⟨"CousinsByAgreement$Pairs", "mostOf", "(I)I"⟩, 4), (⟨"CousinsByAgreement$Pairs", "leastIn", "(I)I"⟩, 4), (⟨"CousinsByAgreement$Pairs", "choose", "(I)V"⟩, 4), (⟨"CousinsByAgreement$Pairs", "leastPartner", "(II)I"⟩, 4), (⟨"CousinsByAgreement$Odds", "waysFrom", "(I)J"⟩, 6), (⟨"CousinsByAgreement", "goesAsTold", "(I)Z"⟩, 15), (⟨"CousinsByAgreement", "drawSignings", "(I)I"⟩, 15), (⟨"CousinsByAgreementModel", "no", "(I)I"⟩, 28), (⟨"CousinsByAgreementModel", "statement", "()Z"⟩, 28), (⟨"CousinsByAgreementModel", "next", "()I"⟩, 28)]
theorem lw_r2 : ∀ q ∈ lw_privs_2, lw_okq q := List.forall_mem_cons.mpr ⟨lw_p16, List.forall_mem_cons.mpr ⟨lw_p17, List.forall_mem_cons.mpr ⟨lw_p18, List.forall_mem_cons.mpr ⟨lw_p19, List.forall_mem_cons.mpr ⟨lw_p20, List.forall_mem_cons.mpr ⟨lw_p21, List.forall_mem_cons.mpr ⟨lw_p22, List.forall_mem_cons.mpr ⟨lw_p23, List.forall_mem_cons.mpr ⟨lw_p24, List.forall_mem_cons.mpr ⟨lw_p25, List.forall_mem_cons.mpr ⟨lw_p26, List.forall_mem_cons.mpr ⟨lw_p27, List.forall_mem_cons.mpr ⟨lw_p28, List.forall_mem_cons.mpr ⟨lw_p29, List.forall_mem_cons.mpr ⟨lw_p30, List.forall_mem_cons.mpr ⟨lw_p31, fun _ h => absurd h List.not_mem_nil⟩⟩⟩⟩⟩⟩⟩⟩⟩⟩⟩⟩⟩⟩⟩⟩
theorem lw_p32 : lw_okq (⟨"CousinsByAgreementModel", "readsAll", "(II)Z"⟩, 28) := ⟨⟨by decide +kernel, by decide +kernel⟩, List.mem_of_getElem? (i := 821) (by decide +kernel), List.mem_of_getElem? (i := 935) (by decide +kernel), List.mem_of_getElem? (i := 936) (by decide +kernel)⟩
theorem lw_p33 : lw_okq (⟨"CousinsByAgreementModel", "readsOne", "(I)Z"⟩, 28) := ⟨⟨by decide +kernel, by decide +kernel⟩, List.mem_of_getElem? (i := 821) (by decide +kernel), List.mem_of_getElem? (i := 939) (by decide +kernel), List.mem_of_getElem? (i := 940) (by decide +kernel)⟩
theorem lw_p34 : lw_okq (⟨"CousinsByAgreementModel", "readsDigits", "(II)Z"⟩, 28) := ⟨⟨by decide +kernel, by decide +kernel⟩, List.mem_of_getElem? (i := 821) (by decide +kernel), List.mem_of_getElem? (i := 946) (by decide +kernel), List.mem_of_getElem? (i := 947) (by decide +kernel)⟩
theorem lw_p35 : lw_okq (⟨"CousinsByAgreementModel", "passesAll", "(IZ)V"⟩, 28) := ⟨⟨by decide +kernel, by decide +kernel⟩, List.mem_of_getElem? (i := 821) (by decide +kernel), List.mem_of_getElem? (i := 953) (by decide +kernel), List.mem_of_getElem? (i := 954) (by decide +kernel)⟩
theorem lw_p36 : lw_okq (⟨"CousinsByAgreementModel", "passes", "([I)V"⟩, 28) := ⟨⟨by decide +kernel, by decide +kernel⟩, List.mem_of_getElem? (i := 821) (by decide +kernel), List.mem_of_getElem? (i := 957) (by decide +kernel), List.mem_of_getElem? (i := 958) (by decide +kernel)⟩
theorem lw_p37 : lw_okq (⟨"CousinsByAgreementModel", "passOne", "(I)I"⟩, 28) := ⟨⟨by decide +kernel, by decide +kernel⟩, List.mem_of_getElem? (i := 821) (by decide +kernel), List.mem_of_getElem? (i := 961) (by decide +kernel), List.mem_of_getElem? (i := 962) (by decide +kernel)⟩
theorem lw_p38 : lw_okq (⟨"CousinsByAgreementModel", "comes", "(I)Z"⟩, 28) := ⟨⟨by decide +kernel, by decide +kernel⟩, List.mem_of_getElem? (i := 821) (by decide +kernel), List.mem_of_getElem? (i := 965) (by decide +kernel), List.mem_of_getElem? (i := 966) (by decide +kernel)⟩
theorem lw_p39 : lw_okq (⟨"CousinsByAgreementModel", "adds", "(III)V"⟩, 28) := ⟨⟨by decide +kernel, by decide +kernel⟩, List.mem_of_getElem? (i := 821) (by decide +kernel), List.mem_of_getElem? (i := 969) (by decide +kernel), List.mem_of_getElem? (i := 970) (by decide +kernel)⟩
theorem lw_p40 : lw_okq (⟨"CousinsByAgreementModel", "isOne", "(I)Z"⟩, 28) := ⟨⟨by decide +kernel, by decide +kernel⟩, List.mem_of_getElem? (i := 821) (by decide +kernel), List.mem_of_getElem? (i := 973) (by decide +kernel), List.mem_of_getElem? (i := 974) (by decide +kernel)⟩
theorem lw_p41 : lw_okq (⟨"CousinsByAgreementModel", "comesYears", "(I)Z"⟩, 28) := ⟨⟨by decide +kernel, by decide +kernel⟩, List.mem_of_getElem? (i := 821) (by decide +kernel), List.mem_of_getElem? (i := 977) (by decide +kernel), List.mem_of_getElem? (i := 978) (by decide +kernel)⟩
theorem lw_p42 : lw_okq (⟨"CousinsByAgreementModel", "goes", "(I)V"⟩, 28) := ⟨⟨by decide +kernel, by decide +kernel⟩, List.mem_of_getElem? (i := 821) (by decide +kernel), List.mem_of_getElem? (i := 981) (by decide +kernel), List.mem_of_getElem? (i := 982) (by decide +kernel)⟩
theorem lw_p43 : lw_okq (⟨"CousinsByAgreementModel", "goesYear", "()V"⟩, 28) := ⟨⟨by decide +kernel, by decide +kernel⟩, List.mem_of_getElem? (i := 821) (by decide +kernel), List.mem_of_getElem? (i := 985) (by decide +kernel), List.mem_of_getElem? (i := 986) (by decide +kernel)⟩
theorem lw_p44 : lw_okq (⟨"CousinsByAgreementModel", "isKin", "(II)Z"⟩, 28) := ⟨⟨by decide +kernel, by decide +kernel⟩, List.mem_of_getElem? (i := 821) (by decide +kernel), List.mem_of_getElem? (i := 989) (by decide +kernel), List.mem_of_getElem? (i := 990) (by decide +kernel)⟩
theorem lw_p45 : lw_okq (⟨"CousinsByAgreementModel", "pays", "(II)V"⟩, 28) := ⟨⟨by decide +kernel, by decide +kernel⟩, List.mem_of_getElem? (i := 821) (by decide +kernel), List.mem_of_getElem? (i := 996) (by decide +kernel), List.mem_of_getElem? (i := 997) (by decide +kernel)⟩
theorem lw_p46 : lw_okq (⟨"CousinsByAgreementModel", "paysOf", "(II)I"⟩, 28) := ⟨⟨by decide +kernel, by decide +kernel⟩, List.mem_of_getElem? (i := 821) (by decide +kernel), List.mem_of_getElem? (i := 1000) (by decide +kernel), List.mem_of_getElem? (i := 1001) (by decide +kernel)⟩
theorem lw_p47 : lw_okq (⟨"CousinsByAgreementModel", "comesTie", "(III)Z"⟩, 28) := ⟨⟨by decide +kernel, by decide +kernel⟩, List.mem_of_getElem? (i := 821) (by decide +kernel), List.mem_of_getElem? (i := 1004) (by decide +kernel), List.mem_of_getElem? (i := 1005) (by decide +kernel)⟩
def lw_privs_3 : List (MethodName × Nat) := [(⟨"CousinsByAgreementModel", "readsAll", "(II)Z"⟩, 28), (⟨"CousinsByAgreementModel", "readsOne", "(I)Z"⟩, 28), (⟨"CousinsByAgreementModel", "readsDigits", "(II)Z"⟩, 28), (⟨"CousinsByAgreementModel", "passesAll", "(IZ)V"⟩, 28), (⟨"CousinsByAgreementModel", "passes", "([I)V"⟩, 28), (⟨"CousinsByAgreementModel", "passOne", "(I)I"⟩, 28), (⟨"CousinsByAgreementModel", "comes", "(I)Z"⟩, 28), (⟨"CousinsByAgreementModel", "adds", "(III)V"⟩, 28), (⟨"CousinsByAgreementModel", "isOne", "(I)Z"⟩, 28), (⟨"CousinsByAgreementModel", "comesYears", "(I)Z"⟩, 28), (⟨"CousinsByAgreementModel", "goes", "(I)V"⟩, 28), (⟨"CousinsByAgreementModel", "goesYear", "()V"⟩, 28), (⟨"CousinsByAgreementModel", "isKin", "(II)Z"⟩, 28), (⟨"CousinsByAgreementModel", "pays", "(II)V"⟩, 28), (⟨"CousinsByAgreementModel", "paysOf", "(II)I"⟩, 28), (⟨"CousinsByAgreementModel", "comesTie", "(III)Z"⟩, 28)]
theorem lw_r3 : ∀ q ∈ lw_privs_3, lw_okq q := List.forall_mem_cons.mpr ⟨lw_p32, List.forall_mem_cons.mpr ⟨lw_p33, List.forall_mem_cons.mpr ⟨lw_p34, List.forall_mem_cons.mpr ⟨lw_p35, List.forall_mem_cons.mpr ⟨lw_p36, List.forall_mem_cons.mpr ⟨lw_p37, List.forall_mem_cons.mpr ⟨lw_p38, List.forall_mem_cons.mpr ⟨lw_p39, List.forall_mem_cons.mpr ⟨lw_p40, List.forall_mem_cons.mpr ⟨lw_p41, List.forall_mem_cons.mpr ⟨lw_p42, List.forall_mem_cons.mpr ⟨lw_p43, List.forall_mem_cons.mpr ⟨lw_p44, List.forall_mem_cons.mpr ⟨lw_p45, List.forall_mem_cons.mpr ⟨lw_p46, List.forall_mem_cons.mpr ⟨lw_p47, fun _ h => absurd h List.not_mem_nil⟩⟩⟩⟩⟩⟩⟩⟩⟩⟩⟩⟩⟩⟩⟩⟩
theorem lw_p48 : lw_okq (⟨"CousinsByAgreementModel", "areTwo", "(II)Z"⟩, 28) := ⟨⟨by decide +kernel, by decide +kernel⟩, List.mem_of_getElem? (i := 821) (by decide +kernel), List.mem_of_getElem? (i := 1008) (by decide +kernel), List.mem_of_getElem? (i := 1009) (by decide +kernel)⟩
theorem lw_p49 : lw_okq (⟨"CousinsByAgreementModel", "turnsFeud", "(II)V"⟩, 28) := ⟨⟨by decide +kernel, by decide +kernel⟩, List.mem_of_getElem? (i := 821) (by decide +kernel), List.mem_of_getElem? (i := 1012) (by decide +kernel), List.mem_of_getElem? (i := 1013) (by decide +kernel)⟩
theorem lw_p50 : lw_okq (⟨"CousinsByAgreementModel", "kinOf", "(I)I"⟩, 28) := ⟨⟨by decide +kernel, by decide +kernel⟩, List.mem_of_getElem? (i := 821) (by decide +kernel), List.mem_of_getElem? (i := 1028) (by decide +kernel), List.mem_of_getElem? (i := 1029) (by decide +kernel)⟩
theorem lw_p51 : lw_okq (⟨"CousinsByAgreementModel", "wealth", "()I"⟩, 28) := ⟨⟨by decide +kernel, by decide +kernel⟩, List.mem_of_getElem? (i := 821) (by decide +kernel), List.mem_of_getElem? (i := 1059) (by decide +kernel), List.mem_of_getElem? (i := 1060) (by decide +kernel)⟩
theorem lw_p52 : lw_okq (⟨"CousinsByAgreementModel", "moneyIn", "(II)I"⟩, 28) := ⟨⟨by decide +kernel, by decide +kernel⟩, List.mem_of_getElem? (i := 821) (by decide +kernel), List.mem_of_getElem? (i := 1070) (by decide +kernel), List.mem_of_getElem? (i := 1071) (by decide +kernel)⟩
theorem lw_p53 : lw_okq (⟨"CousinsByAgreementModel", "thinks", "()V"⟩, 28) := ⟨⟨by decide +kernel, by decide +kernel⟩, List.mem_of_getElem? (i := 821) (by decide +kernel), List.mem_of_getElem? (i := 1074) (by decide +kernel), List.mem_of_getElem? (i := 1075) (by decide +kernel)⟩
theorem lw_p54 : lw_okq (⟨"CousinsByAgreementModel", "forgets", "()V"⟩, 28) := ⟨⟨by decide +kernel, by decide +kernel⟩, List.mem_of_getElem? (i := 821) (by decide +kernel), List.mem_of_getElem? (i := 1078) (by decide +kernel), List.mem_of_getElem? (i := 1079) (by decide +kernel)⟩
theorem lw_p55 : lw_okq (⟨"CousinsByAgreementModel", "wealthIn", "(I)I"⟩, 28) := ⟨⟨by decide +kernel, by decide +kernel⟩, List.mem_of_getElem? (i := 821) (by decide +kernel), List.mem_of_getElem? (i := 1090) (by decide +kernel), List.mem_of_getElem? (i := 1091) (by decide +kernel)⟩
theorem lw_p56 : lw_okq (⟨"CousinsByAgreementModel", "ruinOf", "(I)I"⟩, 28) := ⟨⟨by decide +kernel, by decide +kernel⟩, List.mem_of_getElem? (i := 821) (by decide +kernel), List.mem_of_getElem? (i := 1098) (by decide +kernel), List.mem_of_getElem? (i := 1099) (by decide +kernel)⟩
theorem lw_p57 : lw_okq (⟨"CousinsByAgreementModel", "steadyAt", "()I"⟩, 28) := ⟨⟨by decide +kernel, by decide +kernel⟩, List.mem_of_getElem? (i := 821) (by decide +kernel), List.mem_of_getElem? (i := 1106) (by decide +kernel), List.mem_of_getElem? (i := 1107) (by decide +kernel)⟩
theorem lw_p58 : lw_okq (⟨"CousinsByAgreementModel", "isSteady", "()Z"⟩, 28) := ⟨⟨by decide +kernel, by decide +kernel⟩, List.mem_of_getElem? (i := 821) (by decide +kernel), List.mem_of_getElem? (i := 1110) (by decide +kernel), List.mem_of_getElem? (i := 1111) (by decide +kernel)⟩
theorem lw_p59 : lw_okq (⟨"CousinsByAgreementModel", "reached", "(I)I"⟩, 28) := ⟨⟨by decide +kernel, by decide +kernel⟩, List.mem_of_getElem? (i := 821) (by decide +kernel), List.mem_of_getElem? (i := 1122) (by decide +kernel), List.mem_of_getElem? (i := 1123) (by decide +kernel)⟩
theorem lw_p60 : lw_okq (⟨"CousinsByAgreementModel", "findSteps", "(I)V"⟩, 28) := ⟨⟨by decide +kernel, by decide +kernel⟩, List.mem_of_getElem? (i := 821) (by decide +kernel), List.mem_of_getElem? (i := 1126) (by decide +kernel), List.mem_of_getElem? (i := 1127) (by decide +kernel)⟩
theorem lw_p61 : lw_okq (⟨"CousinsByAgreementModel", "threes", "()I"⟩, 28) := ⟨⟨by decide +kernel, by decide +kernel⟩, List.mem_of_getElem? (i := 821) (by decide +kernel), List.mem_of_getElem? (i := 1142) (by decide +kernel), List.mem_of_getElem? (i := 1143) (by decide +kernel)⟩
theorem lw_p62 : lw_okq (⟨"CousinsByAgreementModel", "areAllKin", "(I)Z"⟩, 28) := ⟨⟨by decide +kernel, by decide +kernel⟩, List.mem_of_getElem? (i := 821) (by decide +kernel), List.mem_of_getElem? (i := 1150) (by decide +kernel), List.mem_of_getElem? (i := 1151) (by decide +kernel)⟩
theorem lw_p63 : lw_okq (⟨"CousinsByAgreementModel", "bestTurn", "(IIZ)I"⟩, 28) := ⟨⟨by decide +kernel, by decide +kernel⟩, List.mem_of_getElem? (i := 821) (by decide +kernel), List.mem_of_getElem? (i := 1161) (by decide +kernel), List.mem_of_getElem? (i := 1162) (by decide +kernel)⟩
def lw_privs_4 : List (MethodName × Nat) := [(⟨"CousinsByAgreementModel", "areTwo", "(II)Z"⟩, 28), (⟨"CousinsByAgreementModel", "turnsFeud", "(II)V"⟩, 28), (⟨"CousinsByAgreementModel", "kinOf", "(I)I"⟩, 28), (⟨"CousinsByAgreementModel", "wealth", "()I"⟩, 28), (⟨"CousinsByAgreementModel", "moneyIn", "(II)I"⟩, 28), (⟨"CousinsByAgreementModel", "thinks", "()V"⟩, 28), (⟨"CousinsByAgreementModel", "forgets", "()V"⟩, 28), (⟨"CousinsByAgreementModel", "wealthIn", "(I)I"⟩, 28), (⟨"CousinsByAgreementModel", "ruinOf", "(I)I"⟩, 28), (⟨"CousinsByAgreementModel", "steadyAt", "()I"⟩, 28), (⟨"CousinsByAgreementModel", "isSteady", "()Z"⟩, 28), (⟨"CousinsByAgreementModel", "reached", "(I)I"⟩, 28), (⟨"CousinsByAgreementModel", "findSteps", "(I)V"⟩, 28), (⟨"CousinsByAgreementModel", "threes", "()I"⟩, 28), (⟨"CousinsByAgreementModel", "areAllKin", "(I)Z"⟩, 28), (⟨"CousinsByAgreementModel", "bestTurn", "(IIZ)I"⟩, 28)]
theorem lw_r4 : ∀ q ∈ lw_privs_4, lw_okq q := List.forall_mem_cons.mpr ⟨lw_p48, List.forall_mem_cons.mpr ⟨lw_p49, List.forall_mem_cons.mpr ⟨lw_p50, List.forall_mem_cons.mpr ⟨lw_p51, List.forall_mem_cons.mpr ⟨lw_p52, List.forall_mem_cons.mpr ⟨lw_p53, List.forall_mem_cons.mpr ⟨lw_p54, List.forall_mem_cons.mpr ⟨lw_p55, List.forall_mem_cons.mpr ⟨lw_p56, List.forall_mem_cons.mpr ⟨lw_p57, List.forall_mem_cons.mpr ⟨lw_p58, List.forall_mem_cons.mpr ⟨lw_p59, List.forall_mem_cons.mpr ⟨lw_p60, List.forall_mem_cons.mpr ⟨lw_p61, List.forall_mem_cons.mpr ⟨lw_p62, List.forall_mem_cons.mpr ⟨lw_p63, fun _ h => absurd h List.not_mem_nil⟩⟩⟩⟩⟩⟩⟩⟩⟩⟩⟩⟩⟩⟩⟩⟩
theorem lw_p64 : lw_okq (⟨"CousinsByAgreementModel", "moneySigning", "(III)I"⟩, 28) := ⟨⟨by decide +kernel, by decide +kernel⟩, List.mem_of_getElem? (i := 821) (by decide +kernel), List.mem_of_getElem? (i := 1165) (by decide +kernel), List.mem_of_getElem? (i := 1166) (by decide +kernel)⟩
theorem lw_p65 : lw_okq (⟨"CousinsByAgreementModel", "lower", "(I)I"⟩, 28) := ⟨⟨by decide +kernel, by decide +kernel⟩, List.mem_of_getElem? (i := 821) (by decide +kernel), List.mem_of_getElem? (i := 1177) (by decide +kernel), List.mem_of_getElem? (i := 1178) (by decide +kernel)⟩
theorem lw_p66 : lw_okq (⟨"CousinsByAgreementModel", "findRooms", "(I)Z"⟩, 28) := ⟨⟨by decide +kernel, by decide +kernel⟩, List.mem_of_getElem? (i := 821) (by decide +kernel), List.mem_of_getElem? (i := 1194) (by decide +kernel), List.mem_of_getElem? (i := 1195) (by decide +kernel)⟩
theorem lw_p67 : lw_okq (⟨"CousinsByAgreementModel", "leastRoom", "(II)I"⟩, 28) := ⟨⟨by decide +kernel, by decide +kernel⟩, List.mem_of_getElem? (i := 821) (by decide +kernel), List.mem_of_getElem? (i := 1198) (by decide +kernel), List.mem_of_getElem? (i := 1199) (by decide +kernel)⟩
theorem lw_p68 : lw_okq (⟨"CousinsByAgreementModel", "findCouples", "(I)V"⟩, 28) := ⟨⟨by decide +kernel, by decide +kernel⟩, List.mem_of_getElem? (i := 821) (by decide +kernel), List.mem_of_getElem? (i := 1206) (by decide +kernel), List.mem_of_getElem? (i := 1207) (by decide +kernel)⟩
theorem lw_p69 : lw_okq (⟨"CousinsByAgreementModel", "isCouple", "(III)Z"⟩, 28) := ⟨⟨by decide +kernel, by decide +kernel⟩, List.mem_of_getElem? (i := 821) (by decide +kernel), List.mem_of_getElem? (i := 1213) (by decide +kernel), List.mem_of_getElem? (i := 1214) (by decide +kernel)⟩
theorem lw_p70 : lw_okq (⟨"CousinsByAgreementModel", "partnerOf", "(II)I"⟩, 28) := ⟨⟨by decide +kernel, by decide +kernel⟩, List.mem_of_getElem? (i := 821) (by decide +kernel), List.mem_of_getElem? (i := 1217) (by decide +kernel), List.mem_of_getElem? (i := 1218) (by decide +kernel)⟩
theorem lw_p71 : lw_okq (⟨"CousinsByAgreementModel", "partnerIn", "(III)I"⟩, 28) := ⟨⟨by decide +kernel, by decide +kernel⟩, List.mem_of_getElem? (i := 821) (by decide +kernel), List.mem_of_getElem? (i := 1221) (by decide +kernel), List.mem_of_getElem? (i := 1222) (by decide +kernel)⟩
theorem lw_p72 : lw_okq (⟨"CousinsByAgreementModel", "moneyChanged", "(III)I"⟩, 28) := ⟨⟨by decide +kernel, by decide +kernel⟩, List.mem_of_getElem? (i := 821) (by decide +kernel), List.mem_of_getElem? (i := 1229) (by decide +kernel), List.mem_of_getElem? (i := 1230) (by decide +kernel)⟩
theorem lw_p73 : lw_okq (⟨"CousinsByAgreementModel", "changes", "()V"⟩, 28) := ⟨⟨by decide +kernel, by decide +kernel⟩, List.mem_of_getElem? (i := 821) (by decide +kernel), List.mem_of_getElem? (i := 1233) (by decide +kernel), List.mem_of_getElem? (i := 1234) (by decide +kernel)⟩
theorem lw_p74 : lw_okq (⟨"CousinsByAgreementModel", "exchanges", "([III)V"⟩, 28) := ⟨⟨by decide +kernel, by decide +kernel⟩, List.mem_of_getElem? (i := 821) (by decide +kernel), List.mem_of_getElem? (i := 1237) (by decide +kernel), List.mem_of_getElem? (i := 1238) (by decide +kernel)⟩
theorem lw_p75 : lw_okq (⟨"CousinsByAgreementModel", "changesBack", "()V"⟩, 28) := ⟨⟨by decide +kernel, by decide +kernel⟩, List.mem_of_getElem? (i := 821) (by decide +kernel), List.mem_of_getElem? (i := 1244) (by decide +kernel), List.mem_of_getElem? (i := 1245) (by decide +kernel)⟩
theorem lw_p76 : lw_okq (⟨"CousinsByAgreementModel", "twosOfKin", "()I"⟩, 28) := ⟨⟨by decide +kernel, by decide +kernel⟩, List.mem_of_getElem? (i := 821) (by decide +kernel), List.mem_of_getElem? (i := 1252) (by decide +kernel), List.mem_of_getElem? (i := 1253) (by decide +kernel)⟩
theorem lw_p77 : lw_okq (⟨"CousinsByAgreementModel", "lowestOf", "(I)J"⟩, 28) := ⟨⟨by decide +kernel, by decide +kernel⟩, List.mem_of_getElem? (i := 821) (by decide +kernel), List.mem_of_getElem? (i := 1260) (by decide +kernel), List.mem_of_getElem? (i := 1261) (by decide +kernel)⟩
theorem lw_p78 : lw_okq (⟨"CousinsByAgreementModel", "findTwo", "(III)V"⟩, 28) := ⟨⟨by decide +kernel, by decide +kernel⟩, List.mem_of_getElem? (i := 821) (by decide +kernel), List.mem_of_getElem? (i := 1279) (by decide +kernel), List.mem_of_getElem? (i := 1280) (by decide +kernel)⟩
theorem lw_p79 : lw_okq (⟨"CousinsByAgreementModel", "bitsFor", "([III)I"⟩, 28) := ⟨⟨by decide +kernel, by decide +kernel⟩, List.mem_of_getElem? (i := 821) (by decide +kernel), List.mem_of_getElem? (i := 1290) (by decide +kernel), List.mem_of_getElem? (i := 1291) (by decide +kernel)⟩
def lw_privs_5 : List (MethodName × Nat) := [(⟨"CousinsByAgreementModel", "moneySigning", "(III)I"⟩, 28), (⟨"CousinsByAgreementModel", "lower", "(I)I"⟩, 28), (⟨"CousinsByAgreementModel", "findRooms", "(I)Z"⟩, 28), (⟨"CousinsByAgreementModel", "leastRoom", "(II)I"⟩, 28), (⟨"CousinsByAgreementModel", "findCouples", "(I)V"⟩, 28), (⟨"CousinsByAgreementModel", "isCouple", "(III)Z"⟩, 28), (⟨"CousinsByAgreementModel", "partnerOf", "(II)I"⟩, 28), (⟨"CousinsByAgreementModel", "partnerIn", "(III)I"⟩, 28), (⟨"CousinsByAgreementModel", "moneyChanged", "(III)I"⟩, 28), (⟨"CousinsByAgreementModel", "changes", "()V"⟩, 28), (⟨"CousinsByAgreementModel", "exchanges", "([III)V"⟩, 28), (⟨"CousinsByAgreementModel", "changesBack", "()V"⟩, 28), (⟨"CousinsByAgreementModel", "twosOfKin", "()I"⟩, 28), (⟨"CousinsByAgreementModel", "lowestOf", "(I)J"⟩, 28), (⟨"CousinsByAgreementModel", "findTwo", "(III)V"⟩, 28), (⟨"CousinsByAgreementModel", "bitsFor", "([III)I"⟩, 28)]
theorem lw_r5 : ∀ q ∈ lw_privs_5, lw_okq q := List.forall_mem_cons.mpr ⟨lw_p64, List.forall_mem_cons.mpr ⟨lw_p65, List.forall_mem_cons.mpr ⟨lw_p66, List.forall_mem_cons.mpr ⟨lw_p67, List.forall_mem_cons.mpr ⟨lw_p68, List.forall_mem_cons.mpr ⟨lw_p69, List.forall_mem_cons.mpr ⟨lw_p70, List.forall_mem_cons.mpr ⟨lw_p71, List.forall_mem_cons.mpr ⟨lw_p72, List.forall_mem_cons.mpr ⟨lw_p73, List.forall_mem_cons.mpr ⟨lw_p74, List.forall_mem_cons.mpr ⟨lw_p75, List.forall_mem_cons.mpr ⟨lw_p76, List.forall_mem_cons.mpr ⟨lw_p77, List.forall_mem_cons.mpr ⟨lw_p78, List.forall_mem_cons.mpr ⟨lw_p79, fun _ h => absurd h List.not_mem_nil⟩⟩⟩⟩⟩⟩⟩⟩⟩⟩⟩⟩⟩⟩⟩⟩
theorem lw_p80 : lw_okq (⟨"CousinsByAgreementModel", "isSo", "(I)Z"⟩, 28) := ⟨⟨by decide +kernel, by decide +kernel⟩, List.mem_of_getElem? (i := 821) (by decide +kernel), List.mem_of_getElem? (i := 1294) (by decide +kernel), List.mem_of_getElem? (i := 1295) (by decide +kernel)⟩
theorem lw_p81 : lw_okq (⟨"CousinsByAgreementModel", "draw", "(I)I"⟩, 28) := ⟨⟨by decide +kernel, by decide +kernel⟩, List.mem_of_getElem? (i := 821) (by decide +kernel), List.mem_of_getElem? (i := 1314) (by decide +kernel), List.mem_of_getElem? (i := 1315) (by decide +kernel)⟩
def lw_privs_6 : List (MethodName × Nat) := [(⟨"CousinsByAgreementModel", "isSo", "(I)Z"⟩, 28), (⟨"CousinsByAgreementModel", "draw", "(I)I"⟩, 28)]
theorem lw_r6 : ∀ q ∈ lw_privs_6, lw_okq q := List.forall_mem_cons.mpr ⟨lw_p80, List.forall_mem_cons.mpr ⟨lw_p81, fun _ h => absurd h List.not_mem_nil⟩⟩
def lw_privs : List (MethodName × Nat) := lw_privs_1 ++ (lw_privs_2 ++ (lw_privs_3 ++ (lw_privs_4 ++ (lw_privs_5 ++ (lw_privs_6)))))
def lw_tbl : List Cond := k2_sels lw_privs ++ tables_1
theorem lw_privs_ok : ∀ q ∈ lw_privs, lw_okq q := by
  show ∀ q ∈ lw_privs_1 ++ (lw_privs_2 ++ (lw_privs_3 ++ (lw_privs_4 ++ (lw_privs_5 ++ (lw_privs_6))))), lw_okq q
  exact List.forall_mem_append.mpr ⟨lw_r1, List.forall_mem_append.mpr ⟨lw_r2, List.forall_mem_append.mpr ⟨lw_r3, List.forall_mem_append.mpr ⟨lw_r4, List.forall_mem_append.mpr ⟨lw_r5, lw_r6⟩⟩⟩⟩⟩
end
section
def RX0 : String := "CousinsByAgreement$County"
def TX0 : u_T := fun k => match k with
  | 0 => ("CousinsByAgreement$County", "kinds", "[I", true)
  | 1 => ("CousinsByAgreement$County", "figures", "[I", true)
  | 2 => ("CousinsByAgreement$County", "money", "[I", true)
  | 3 => ("CousinsByAgreement$County", "signed", "[I", true)
  | 4 => ("CousinsByAgreement$County", "foes", "[I", true)
  | 5 => ("CousinsByAgreement$County", "people", "I", false)
  | _ => ("CousinsByAgreement$County", "date", "I", false)
def tyX0 : Nat → FieldType := fun k => match k with
  | 0 => .array .int
  | 1 => .array .int
  | 2 => .array .int
  | 3 => .array .int
  | 4 => .array .int
  | 5 => .int
  | _ => .int
theorem nmX0 : ∀ a, a < 7 → ∀ b, b < 7 → a ≠ b → (TX0 a).2.1 ≠ (TX0 b).2.1 := by decide +kernel
theorem tyX0_ok : ∀ k, k < 7 → parseFieldDescriptor (TX0 k).2.2.1 = some (tyX0 k) := by decide +kernel
abbrev cX0_init : ByteArray := prog_2_method_1_code
def yX0_init : MethodName := ⟨RX0, "<init>", "()V"⟩
abbrev cX0_become : ByteArray := prog_2_method_2_code
def yX0_become : MethodName := ⟨RX0, "become", "(LCousinsByAgreement$County;)V"⟩
abbrev cX0_isAs : ByteArray := prog_2_method_3_code
def yX0_isAs : MethodName := ⟨RX0, "isAs", "(LCousinsByAgreement$County;)Z"⟩
abbrev cX0_has : ByteArray := prog_2_method_4_code
def yX0_has : MethodName := ⟨RX0, "has", "(I)Z"⟩
abbrev cX0_hasTwo : ByteArray := prog_2_method_5_code
def yX0_hasTwo : MethodName := ⟨RX0, "hasTwo", "(II)Z"⟩
abbrev cX0_welcome : ByteArray := prog_2_method_6_code
def yX0_welcome : MethodName := ⟨RX0, "welcome", "(III)Z"⟩
abbrev cX0_enrich : ByteArray := prog_2_method_7_code
def yX0_enrich : MethodName := ⟨RX0, "enrich", "(II)Z"⟩
abbrev cX0_hasSigned : ByteArray := prog_2_method_8_code
def yX0_hasSigned : MethodName := ⟨RX0, "hasSigned", "(II)Z"⟩
abbrev cX0_atFeud : ByteArray := prog_2_method_9_code
def yX0_atFeud : MethodName := ⟨RX0, "atFeud", "(II)Z"⟩
abbrev cX0_isKin : ByteArray := prog_2_method_10_code
def yX0_isKin : MethodName := ⟨RX0, "isKin", "(II)Z"⟩
abbrev cX0_kinOf : ByteArray := prog_2_method_11_code
def yX0_kinOf : MethodName := ⟨RX0, "kinOf", "(I)I"⟩
abbrev cX0_turnSigning : ByteArray := prog_2_method_12_code
def yX0_turnSigning : MethodName := ⟨RX0, "turnSigning", "(II)Z"⟩
abbrev cX0_setSigning : ByteArray := prog_2_method_13_code
def yX0_setSigning : MethodName := ⟨RX0, "setSigning", "(IIZ)Z"⟩
abbrev cX0_signBoth : ByteArray := prog_2_method_14_code
def yX0_signBoth : MethodName := ⟨RX0, "signBoth", "(II)Z"⟩
abbrev cX0_turnFeud : ByteArray := prog_2_method_15_code
def yX0_turnFeud : MethodName := ⟨RX0, "turnFeud", "(II)Z"⟩
abbrev cX0_setFeud : ByteArray := prog_2_method_16_code
def yX0_setFeud : MethodName := ⟨RX0, "setFeud", "(IIZ)Z"⟩
abbrev cX0_withBit : ByteArray := prog_2_method_17_code
def yX0_withBit : MethodName := ⟨RX0, "withBit", "(IIZ)I"⟩
abbrev cX0_changePlaces : ByteArray := prog_2_method_18_code
def yX0_changePlaces : MethodName := ⟨RX0, "changePlaces", "(II)V"⟩
abbrev cX0_changeIn : ByteArray := prog_2_method_19_code
def yX0_changeIn : MethodName := ⟨RX0, "changeIn", "([III)V"⟩
abbrev cX0_dues : ByteArray := prog_2_method_20_code
def yX0_dues : MethodName := ⟨RX0, "dues", "(II)I"⟩
abbrev cX0_mayPass : ByteArray := prog_2_method_21_code
def yX0_mayPass : MethodName := ⟨RX0, "mayPass", "(I)Z"⟩
abbrev cX0_passYears : ByteArray := prog_2_method_22_code
def yX0_passYears : MethodName := ⟨RX0, "passYears", "(I)Z"⟩
abbrev cX0_passYear : ByteArray := prog_2_method_23_code
def yX0_passYear : MethodName := ⟨RX0, "passYear", "(I)V"⟩
abbrev cX0_pay : ByteArray := prog_2_method_24_code
def yX0_pay : MethodName := ⟨RX0, "pay", "(II)V"⟩
abbrev cX0_wealth : ByteArray := prog_2_method_25_code
def yX0_wealth : MethodName := ⟨RX0, "wealth", "()I"⟩
abbrev cX0_signings : ByteArray := prog_2_method_26_code
def yX0_signings : MethodName := ⟨RX0, "signings", "()I"⟩
abbrev cX0_feudTwos : ByteArray := prog_2_method_27_code
def yX0_feudTwos : MethodName := ⟨RX0, "feudTwos", "()I"⟩
abbrev cX0_kinTwos : ByteArray := prog_2_method_28_code
def yX0_kinTwos : MethodName := ⟨RX0, "kinTwos", "()I"⟩
def RX1 : String := "CousinsByAgreement$Letters"
def TX1 : u_T := fun k => match k with
  | 0 => ("CousinsByAgreement$Letters", "marks", "[I", true)
  | _ => ("CousinsByAgreement$Letters", "many", "I", false)
def tyX1 : Nat → FieldType := fun k => match k with
  | 0 => .array .int
  | _ => .int
theorem nmX1 : ∀ a, a < 2 → ∀ b, b < 2 → a ≠ b → (TX1 a).2.1 ≠ (TX1 b).2.1 := by decide +kernel
theorem tyX1_ok : ∀ k, k < 2 → parseFieldDescriptor (TX1 k).2.2.1 = some (tyX1 k) := by decide +kernel
abbrev cX1_init : ByteArray := prog_3_method_1_code
def yX1_init : MethodName := ⟨RX1, "<init>", "()V"⟩
abbrev cX1_isFull : ByteArray := prog_3_method_2_code
def yX1_isFull : MethodName := ⟨RX1, "isFull", "()Z"⟩
abbrev cX1_add : ByteArray := prog_3_method_3_code
def yX1_add : MethodName := ⟨RX1, "add", "(I)V"⟩
abbrev cX1_drop : ByteArray := prog_3_method_4_code
def yX1_drop : MethodName := ⟨RX1, "drop", "()V"⟩
abbrev cX1_at : ByteArray := prog_3_method_5_code
def yX1_at : MethodName := ⟨RX1, "at", "(I)I"⟩
abbrev cX1_badForm : ByteArray := prog_3_method_6_code
def yX1_badForm : MethodName := ⟨RX1, "badForm", "()I"⟩
abbrev cX1_lengthFrom : ByteArray := prog_3_method_7_code
def yX1_lengthFrom : MethodName := ⟨RX1, "lengthFrom", "(I)I"⟩
abbrev cX1_badWithin : ByteArray := prog_3_method_8_code
def yX1_badWithin : MethodName := ⟨RX1, "badWithin", "(II)I"⟩
abbrev cX1_kindAt : ByteArray := prog_3_method_9_code
def yX1_kindAt : MethodName := ⟨RX1, "kindAt", "(I)I"⟩
abbrev cX1_isDigit : ByteArray := prog_3_method_10_code
def yX1_isDigit : MethodName := ⟨RX1, "isDigit", "(I)Z"⟩
abbrev cX1_digitAt : ByteArray := prog_3_method_11_code
def yX1_digitAt : MethodName := ⟨RX1, "digitAt", "(I)I"⟩
abbrev cX1_numberAt : ByteArray := prog_3_method_12_code
def yX1_numberAt : MethodName := ⟨RX1, "numberAt", "(I)I"⟩
abbrev cX1_tellAll : ByteArray := prog_3_method_13_code
def yX1_tellAll : MethodName := ⟨RX1, "tellAll", "(LCousinsByAgreement$County;)I"⟩
abbrev cX1_tellOne : ByteArray := prog_3_method_14_code
def yX1_tellOne : MethodName := ⟨RX1, "tellOne", "(LCousinsByAgreement$County;I)Z"⟩
def RX2 : String := "CousinsByAgreement$Odds"
def TX2 : u_T := fun k => match k with
  | 0 => ("CousinsByAgreement$Odds", "depths", "[LCousinsByAgreement$County;", true)
  | 1 => ("CousinsByAgreement$Odds", "absent", "I", false)
  | 2 => ("CousinsByAgreement$Odds", "watched", "I", false)
  | 3 => ("CousinsByAgreement$Odds", "span", "I", false)
  | 4 => ("CousinsByAgreement$Odds", "against", "I", false)
  | _ => ("CousinsByAgreement$Odds", "least", "I", false)
def tyX2 : Nat → FieldType := fun k => match k with
  | 0 => .array (.object "CousinsByAgreement$County")
  | 1 => .int
  | 2 => .int
  | 3 => .int
  | 4 => .int
  | _ => .int
theorem nmX2 : ∀ a, a < 6 → ∀ b, b < 6 → a ≠ b → (TX2 a).2.1 ≠ (TX2 b).2.1 := by decide +kernel
theorem tyX2_ok : ∀ k, k < 6 → parseFieldDescriptor (TX2 k).2.2.1 = some (tyX2 k) := by decide +kernel
abbrev cX2_init : ByteArray := prog_4_method_1_code
def yX2_init : MethodName := ⟨RX2, "<init>", "()V"⟩
abbrev cX2_goodWays : ByteArray := prog_4_method_2_code
def yX2_goodWays : MethodName := ⟨RX2, "goodWays", "(LCousinsByAgreement$County;IIIII)J"⟩
abbrev cX2_allWays : ByteArray := prog_4_method_3_code
def yX2_allWays : MethodName := ⟨RX2, "allWays", "(II)J"⟩
abbrev cX2_waysFrom : ByteArray := prog_4_method_4_code
def yX2_waysFrom : MethodName := ⟨RX2, "waysFrom", "(I)J"⟩
def RX3 : String := "CousinsByAgreement$Pairs"
def TX3 : u_T := fun k => match k with
  | 0 => ("CousinsByAgreement$Pairs", "most", "[I", true)
  | 1 => ("CousinsByAgreement$Pairs", "may", "[I", true)
  | 2 => ("CousinsByAgreement$Pairs", "partners", "[I", true)
  | _ => ("CousinsByAgreement$Pairs", "people", "I", false)
def tyX3 : Nat → FieldType := fun k => match k with
  | 0 => .array .int
  | 1 => .array .int
  | 2 => .array .int
  | _ => .int
theorem nmX3 : ∀ a, a < 4 → ∀ b, b < 4 → a ≠ b → (TX3 a).2.1 ≠ (TX3 b).2.1 := by decide +kernel
theorem tyX3_ok : ∀ k, k < 4 → parseFieldDescriptor (TX3 k).2.2.1 = some (tyX3 k) := by decide +kernel
abbrev cX3_init : ByteArray := prog_5_method_1_code
def yX3_init : MethodName := ⟨RX3, "<init>", "()V"⟩
abbrev cX3_pairAll : ByteArray := prog_5_method_2_code
def yX3_pairAll : MethodName := ⟨RX3, "pairAll", "(LCousinsByAgreement$County;I)I"⟩
abbrev cX3_fitting : ByteArray := prog_5_method_3_code
def yX3_fitting : MethodName := ⟨RX3, "fitting", "(LCousinsByAgreement$County;II)I"⟩
abbrev cX3_mostOf : ByteArray := prog_5_method_4_code
def yX3_mostOf : MethodName := ⟨RX3, "mostOf", "(I)I"⟩
abbrev cX3_leastIn : ByteArray := prog_5_method_5_code
def yX3_leastIn : MethodName := ⟨RX3, "leastIn", "(I)I"⟩
abbrev cX3_choose : ByteArray := prog_5_method_6_code
def yX3_choose : MethodName := ⟨RX3, "choose", "(I)V"⟩
abbrev cX3_leastPartner : ByteArray := prog_5_method_7_code
def yX3_leastPartner : MethodName := ⟨RX3, "leastPartner", "(II)I"⟩
abbrev cX3_partnerOf : ByteArray := prog_5_method_8_code
def yX3_partnerOf : MethodName := ⟨RX3, "partnerOf", "(I)I"⟩
def RX4 : String := "CousinsByAgreement$Seats"
def TX4 : u_T := fun k => match k with
  | 0 => ("CousinsByAgreement$Seats", "inRoom", "[I", true)
  | 1 => ("CousinsByAgreement$Seats", "foes", "[I", true)
  | _ => ("CousinsByAgreement$Seats", "people", "I", false)
def tyX4 : Nat → FieldType := fun k => match k with
  | 0 => .array .int
  | 1 => .array .int
  | _ => .int
theorem nmX4 : ∀ a, a < 3 → ∀ b, b < 3 → a ≠ b → (TX4 a).2.1 ≠ (TX4 b).2.1 := by decide +kernel
theorem tyX4_ok : ∀ k, k < 3 → parseFieldDescriptor (TX4 k).2.2.1 = some (tyX4 k) := by decide +kernel
abbrev cX4_init : ByteArray := prog_6_method_1_code
def yX4_init : MethodName := ⟨RX4, "<init>", "()V"⟩
abbrev cX4_seatAll : ByteArray := prog_6_method_2_code
def yX4_seatAll : MethodName := ⟨RX4, "seatAll", "(LCousinsByAgreement$County;)I"⟩
abbrev cX4_seatFrom : ByteArray := prog_6_method_3_code
def yX4_seatFrom : MethodName := ⟨RX4, "seatFrom", "(III)Z"⟩
abbrev cX4_roomOf : ByteArray := prog_6_method_4_code
def yX4_roomOf : MethodName := ⟨RX4, "roomOf", "(I)I"⟩
def RX5 : String := "CousinsByAgreement$Ties"
def TX5 : u_T := fun k => match k with
  | 0 => ("CousinsByAgreement$Ties", "rows", "[I", true)
  | _ => ("CousinsByAgreement$Ties", "people", "I", false)
def tyX5 : Nat → FieldType := fun k => match k with
  | 0 => .array .int
  | _ => .int
theorem nmX5 : ∀ a, a < 2 → ∀ b, b < 2 → a ≠ b → (TX5 a).2.1 ≠ (TX5 b).2.1 := by decide +kernel
theorem tyX5_ok : ∀ k, k < 2 → parseFieldDescriptor (TX5 k).2.2.1 = some (tyX5 k) := by decide +kernel
abbrev cX5_init : ByteArray := prog_7_method_1_code
def yX5_init : MethodName := ⟨RX5, "<init>", "()V"⟩
abbrev cX5_read : ByteArray := prog_7_method_2_code
def yX5_read : MethodName := ⟨RX5, "read", "(LCousinsByAgreement$County;)V"⟩
abbrev cX5_spread : ByteArray := prog_7_method_3_code
def yX5_spread : MethodName := ⟨RX5, "spread", "(I)I"⟩
abbrev cX5_steps : ByteArray := prog_7_method_4_code
def yX5_steps : MethodName := ⟨RX5, "steps", "(II)I"⟩
abbrev cX5_reachOf : ByteArray := prog_7_method_5_code
def yX5_reachOf : MethodName := ⟨RX5, "reachOf", "(I)I"⟩
abbrev cX5_howManyGroups : ByteArray := prog_7_method_6_code
def yX5_howManyGroups : MethodName := ⟨RX5, "howManyGroups", "()I"⟩
abbrev cX5_mostInGroup : ByteArray := prog_7_method_7_code
def yX5_mostInGroup : MethodName := ⟨RX5, "mostInGroup", "()I"⟩
abbrev cX5_threes : ByteArray := prog_7_method_8_code
def yX5_threes : MethodName := ⟨RX5, "threes", "()I"⟩
abbrev cX5_greatestClan : ByteArray := prog_7_method_9_code
def yX5_greatestClan : MethodName := ⟨RX5, "greatestClan", "()I"⟩
abbrev cX5_isClan : ByteArray := prog_7_method_10_code
def yX5_isClan : MethodName := ⟨RX5, "isClan", "(I)Z"⟩
def RX6 : String := "CousinsByAgreement"
def TX6 : u_T := fun k => match k with
  | 0 => ("CousinsByAgreement", "now", "LCousinsByAgreement$County;", true)
  | 1 => ("CousinsByAgreement", "kept", "LCousinsByAgreement$County;", true)
  | 2 => ("CousinsByAgreement", "mind", "LCousinsByAgreement$County;", true)
  | 3 => ("CousinsByAgreement", "before", "LCousinsByAgreement$County;", true)
  | 4 => ("CousinsByAgreement", "isKept", "Z", false)
  | 5 => ("CousinsByAgreement", "letters", "LCousinsByAgreement$Letters;", true)
  | 6 => ("CousinsByAgreement", "told", "[I", true)
  | 7 => ("CousinsByAgreement", "toldMany", "I", false)
  | 8 => ("CousinsByAgreement", "refused", "[I", true)
  | 9 => ("CousinsByAgreement", "ties", "LCousinsByAgreement$Ties;", true)
  | 10 => ("CousinsByAgreement", "seats", "LCousinsByAgreement$Seats;", true)
  | 11 => ("CousinsByAgreement", "pairs", "LCousinsByAgreement$Pairs;", true)
  | 12 => ("CousinsByAgreement", "odds", "LCousinsByAgreement$Odds;", true)
  | 13 => ("CousinsByAgreement", "oneWins", "[I", true)
  | _ => ("CousinsByAgreement", "otherWins", "[I", true)
def tyX6 : Nat → FieldType := fun k => match k with
  | 0 => .object "CousinsByAgreement$County"
  | 1 => .object "CousinsByAgreement$County"
  | 2 => .object "CousinsByAgreement$County"
  | 3 => .object "CousinsByAgreement$County"
  | 4 => .boolean
  | 5 => .object "CousinsByAgreement$Letters"
  | 6 => .array .int
  | 7 => .int
  | 8 => .array .int
  | 9 => .object "CousinsByAgreement$Ties"
  | 10 => .object "CousinsByAgreement$Seats"
  | 11 => .object "CousinsByAgreement$Pairs"
  | 12 => .object "CousinsByAgreement$Odds"
  | 13 => .array .int
  | _ => .array .int
theorem nmX6 : ∀ a, a < 15 → ∀ b, b < 15 → a ≠ b → (TX6 a).2.1 ≠ (TX6 b).2.1 := by decide +kernel
theorem tyX6_ok : ∀ k, k < 15 → parseFieldDescriptor (TX6 k).2.2.1 = some (tyX6 k) := by decide +kernel
abbrev cX6_init : ByteArray := prog_1_method_1_code
def yX6_init : MethodName := ⟨RX6, "<init>", "()V"⟩
abbrev cX6_letter : ByteArray := prog_1_method_2_code
def yX6_letter : MethodName := ⟨RX6, "letter", "(I)I"⟩
abbrev cX6_county : ByteArray := prog_1_method_3_code
def yX6_county : MethodName := ⟨RX6, "county", "()I"⟩
abbrev cX6_person : ByteArray := prog_1_method_4_code
def yX6_person : MethodName := ⟨RX6, "person", "(II)I"⟩
abbrev cX6_tie : ByteArray := prog_1_method_5_code
def yX6_tie : MethodName := ⟨RX6, "tie", "(III)I"⟩
abbrev cX6_signs : ByteArray := prog_1_method_6_code
def yX6_signs : MethodName := ⟨RX6, "signs", "(II)I"⟩
abbrev cX6_feuds : ByteArray := prog_1_method_7_code
def yX6_feuds : MethodName := ⟨RX6, "feuds", "(II)I"⟩
abbrev cX6_gets : ByteArray := prog_1_method_8_code
def yX6_gets : MethodName := ⟨RX6, "gets", "(II)I"⟩
abbrev cX6_turn : ByteArray := prog_1_method_9_code
def yX6_turn : MethodName := ⟨RX6, "turn", "(III)I"⟩
abbrev cX6_years : ByteArray := prog_1_method_10_code
def yX6_years : MethodName := ⟨RX6, "years", "(I)I"⟩
abbrev cX6_hasThen : ByteArray := prog_1_method_11_code
def yX6_hasThen : MethodName := ⟨RX6, "hasThen", "(III)I"⟩
abbrev cX6_areKin : ByteArray := prog_1_method_12_code
def yX6_areKin : MethodName := ⟨RX6, "areKin", "(III)I"⟩
abbrev cX6_allMoney : ByteArray := prog_1_method_13_code
def yX6_allMoney : MethodName := ⟨RX6, "allMoney", "(I)I"⟩
abbrev cX6_ruined : ByteArray := prog_1_method_14_code
def yX6_ruined : MethodName := ⟨RX6, "ruined", "(I)I"⟩
abbrev cX6_first : ByteArray := prog_1_method_15_code
def yX6_first : MethodName := ⟨RX6, "first", "(I)I"⟩
abbrev cX6_richest : ByteArray := prog_1_method_16_code
def yX6_richest : MethodName := ⟨RX6, "richest", "(I)I"⟩
abbrev cX6_kin : ByteArray := prog_1_method_17_code
def yX6_kin : MethodName := ⟨RX6, "kin", "(II)I"⟩
abbrev cX6_removed : ByteArray := prog_1_method_18_code
def yX6_removed : MethodName := ⟨RX6, "removed", "(II)I"⟩
abbrev cX6_farthest : ByteArray := prog_1_method_19_code
def yX6_farthest : MethodName := ⟨RX6, "farthest", "(I)I"⟩
abbrev cX6_groups : ByteArray := prog_1_method_20_code
def yX6_groups : MethodName := ⟨RX6, "groups", "(I)I"⟩
abbrev cX6_clan : ByteArray := prog_1_method_21_code
def yX6_clan : MethodName := ⟨RX6, "clan", "(I)I"⟩
abbrev cX6_bestSign : ByteArray := prog_1_method_22_code
def yX6_bestSign : MethodName := ⟨RX6, "bestSign", "(II)I"⟩
abbrev cX6_bestCut : ByteArray := prog_1_method_23_code
def yX6_bestCut : MethodName := ⟨RX6, "bestCut", "(II)I"⟩
abbrev cX6_feudCosts : ByteArray := prog_1_method_24_code
def yX6_feudCosts : MethodName := ⟨RX6, "feudCosts", "(III)I"⟩
abbrev cX6_peace : ByteArray := prog_1_method_25_code
def yX6_peace : MethodName := ⟨RX6, "peace", "()I"⟩
abbrev cX6_will : ByteArray := prog_1_method_26_code
def yX6_will : MethodName := ⟨RX6, "will", "(II)I"⟩
abbrev cX6_rooms : ByteArray := prog_1_method_27_code
def yX6_rooms : MethodName := ⟨RX6, "rooms", "(I)I"⟩
abbrev cX6_couples : ByteArray := prog_1_method_28_code
def yX6_couples : MethodName := ⟨RX6, "couples", "(II)I"⟩
abbrev cX6_buys : ByteArray := prog_1_method_29_code
def yX6_buys : MethodName := ⟨RX6, "buys", "(II)I"⟩
abbrev cX6_matters : ByteArray := prog_1_method_30_code
def yX6_matters : MethodName := ⟨RX6, "matters", "(I)I"⟩
abbrev cX6_deaths : ByteArray := prog_1_method_31_code
def yX6_deaths : MethodName := ⟨RX6, "deaths", "(IIIIII)J"⟩
abbrev cX6_mean : ByteArray := prog_1_method_32_code
def yX6_mean : MethodName := ⟨RX6, "mean", "(I)J"⟩
abbrev cX6_two : ByteArray := prog_1_method_33_code
def yX6_two : MethodName := ⟨RX6, "two", "(III)I"⟩
abbrev cX6_whatIs : ByteArray := prog_1_method_34_code
def yX6_whatIs : MethodName := ⟨RX6, "whatIs", "(II)I"⟩
abbrev cX6_row : ByteArray := prog_1_method_35_code
def yX6_row : MethodName := ⟨RX6, "row", "(I)I"⟩
abbrev cX6_judge : ByteArray := prog_1_method_36_code
def yX6_judge : MethodName := ⟨RX6, "judge", "()I"⟩
abbrev cX6_clear : ByteArray := prog_1_method_37_code
def yX6_clear : MethodName := ⟨RX6, "clear", "()I"⟩
abbrev cX6_lots : ByteArray := prog_1_method_38_code
def yX6_lots : MethodName := ⟨RX6, "lots", "(III)I"⟩
abbrev cX6_image : ByteArray := prog_1_method_39_code
def yX6_image : MethodName := ⟨RX6, "image", "()I"⟩
abbrev cX6_on : ByteArray := prog_1_method_40_code
def yX6_on : MethodName := ⟨RX6, "on", "()I"⟩
abbrev cX6_count : ByteArray := prog_1_method_41_code
def yX6_count : MethodName := ⟨RX6, "count", "(I)I"⟩
abbrev cX6_refuse : ByteArray := prog_1_method_42_code
def yX6_refuse : MethodName := ⟨RX6, "refuse", "(I)I"⟩
abbrev cX6_firstOf : ByteArray := prog_1_method_43_code
def yX6_firstOf : MethodName := ⟨RX6, "firstOf", "(III)I"⟩
abbrev cX6_outside : ByteArray := prog_1_method_44_code
def yX6_outside : MethodName := ⟨RX6, "outside", "(III)I"⟩
abbrev cX6_otherThan : ByteArray := prog_1_method_45_code
def yX6_otherThan : MethodName := ⟨RX6, "otherThan", "(II)I"⟩
abbrev cX6_nobody : ByteArray := prog_1_method_46_code
def yX6_nobody : MethodName := ⟨RX6, "nobody", "(I)I"⟩
abbrev cX6_notTwo : ByteArray := prog_1_method_47_code
def yX6_notTwo : MethodName := ⟨RX6, "notTwo", "(II)I"⟩
abbrev cX6_notOdds : ByteArray := prog_1_method_48_code
def yX6_notOdds : MethodName := ⟨RX6, "notOdds", "(III)I"⟩
abbrev cX6_bit : ByteArray := prog_1_method_49_code
def yX6_bit : MethodName := ⟨RX6, "bit", "(Z)I"⟩
abbrev cX6_isIn : ByteArray := prog_1_method_50_code
def yX6_isIn : MethodName := ⟨RX6, "isIn", "(II)Z"⟩
abbrev cX6_thinkAhead : ByteArray := prog_1_method_51_code
def yX6_thinkAhead : MethodName := ⟨RX6, "thinkAhead", "(I)V"⟩
abbrev cX6_steadyAfter : ByteArray := prog_1_method_52_code
def yX6_steadyAfter : MethodName := ⟨RX6, "steadyAfter", "()I"⟩
abbrev cX6_firstRuin : ByteArray := prog_1_method_53_code
def yX6_firstRuin : MethodName := ⟨RX6, "firstRuin", "(I)I"⟩
abbrev cX6_bestChange : ByteArray := prog_1_method_54_code
def yX6_bestChange : MethodName := ⟨RX6, "bestChange", "(III)I"⟩
abbrev cX6_mayChange : ByteArray := prog_1_method_55_code
def yX6_mayChange : MethodName := ⟨RX6, "mayChange", "(III)Z"⟩
abbrev cX6_makeChange : ByteArray := prog_1_method_56_code
def yX6_makeChange : MethodName := ⟨RX6, "makeChange", "(III)V"⟩
abbrev cX6_wealthWithFeud : ByteArray := prog_1_method_57_code
def yX6_wealthWithFeud : MethodName := ⟨RX6, "wealthWithFeud", "(IIZI)I"⟩
abbrev cX6_goesAsTold : ByteArray := prog_1_method_58_code
def yX6_goesAsTold : MethodName := ⟨RX6, "goesAsTold", "(I)Z"⟩
abbrev cX6_drawSignings : ByteArray := prog_1_method_59_code
def yX6_drawSignings : MethodName := ⟨RX6, "drawSignings", "(I)I"⟩
abbrev cX6_partOf : ByteArray := prog_1_method_60_code
def yX6_partOf : MethodName := ⟨RX6, "partOf", "(JJI)J"⟩
abbrev cX6_commonDivisor : ByteArray := prog_1_method_61_code
def yX6_commonDivisor : MethodName := ⟨RX6, "commonDivisor", "(JJ)J"⟩
def RX7 : String := "CousinsByAgreementModel"
def TX7 : u_T := fun k => match k with
  | 0 => ("CousinsByAgreementModel", "refused", "[I", true)
  | 1 => ("CousinsByAgreementModel", "kind", "[I", true)
  | 2 => ("CousinsByAgreementModel", "figure", "[I", true)
  | 3 => ("CousinsByAgreementModel", "money", "[I", true)
  | 4 => ("CousinsByAgreementModel", "signed", "[I", true)
  | 5 => ("CousinsByAgreementModel", "feud", "[I", true)
  | 6 => ("CousinsByAgreementModel", "people", "I", false)
  | 7 => ("CousinsByAgreementModel", "year", "I", false)
  | 8 => ("CousinsByAgreementModel", "dead", "I", false)
  | 9 => ("CousinsByAgreementModel", "tape", "[I", true)
  | 10 => ("CousinsByAgreementModel", "letter", "[I", true)
  | 11 => ("CousinsByAgreementModel", "letterAt", "[I", true)
  | 12 => ("CousinsByAgreementModel", "told", "[I", true)
  | 13 => ("CousinsByAgreementModel", "taped", "I", false)
  | 14 => ("CousinsByAgreementModel", "at", "I", false)
  | 15 => ("CousinsByAgreementModel", "statements", "I", false)
  | 16 => ("CousinsByAgreementModel", "kept", "[I", true)
  | 17 => ("CousinsByAgreementModel", "hasImage", "Z", false)
  | 18 => ("CousinsByAgreementModel", "isKeeping", "Z", false)
  | 19 => ("CousinsByAgreementModel", "cursor", "I", false)
  | 20 => ("CousinsByAgreementModel", "before", "[I", true)
  | 21 => ("CousinsByAgreementModel", "steps", "[I", true)
  | 22 => ("CousinsByAgreementModel", "room", "[I", true)
  | 23 => ("CousinsByAgreementModel", "couplesOf", "[I", true)
  | 24 => ("CousinsByAgreementModel", "gotBy", "[I", true)
  | 25 => ("CousinsByAgreementModel", "row", "[I", true)
  | 26 => ("CousinsByAgreementModel", "rowMany", "I", false)
  | _ => ("CousinsByAgreementModel", "lots", "I", false)
def tyX7 : Nat → FieldType := fun k => match k with
  | 0 => .array .int
  | 1 => .array .int
  | 2 => .array .int
  | 3 => .array .int
  | 4 => .array .int
  | 5 => .array .int
  | 6 => .int
  | 7 => .int
  | 8 => .int
  | 9 => .array .int
  | 10 => .array .int
  | 11 => .array .int
  | 12 => .array .int
  | 13 => .int
  | 14 => .int
  | 15 => .int
  | 16 => .array .int
  | 17 => .boolean
  | 18 => .boolean
  | 19 => .int
  | 20 => .array .int
  | 21 => .array .int
  | 22 => .array .int
  | 23 => .array .int
  | 24 => .array .int
  | 25 => .array .int
  | 26 => .int
  | _ => .int
theorem nmX7 : ∀ a, a < 28 → ∀ b, b < 28 → a ≠ b → (TX7 a).2.1 ≠ (TX7 b).2.1 := by decide +kernel
theorem tyX7_ok : ∀ k, k < 28 → parseFieldDescriptor (TX7 k).2.2.1 = some (tyX7 k) := by decide +kernel
abbrev cX7_init : ByteArray := prog_9_method_1_code
def yX7_init : MethodName := ⟨RX7, "<init>", "()V"⟩
abbrev cX7_no : ByteArray := prog_9_method_2_code
def yX7_no : MethodName := ⟨RX7, "no", "(I)I"⟩
abbrev cX7_lower : ByteArray := prog_9_method_3_code
def yX7_lower : MethodName := ⟨RX7, "lower", "(I)I"⟩
abbrev cX7_lowestOf : ByteArray := prog_9_method_4_code
def yX7_lowestOf : MethodName := ⟨RX7, "lowestOf", "(I)J"⟩
abbrev cX7_isIn : ByteArray := prog_9_method_5_code
def yX7_isIn : MethodName := ⟨RX7, "isIn", "(III)Z"⟩
abbrev cX7_bound : ByteArray := prog_9_method_6_code
def yX7_bound : MethodName := ⟨RX7, "bound", "(III)I"⟩
abbrev cX7_has : ByteArray := prog_9_method_7_code
def yX7_has : MethodName := ⟨RX7, "has", "(II)Z"⟩
abbrev cX7_bits : ByteArray := prog_9_method_8_code
def yX7_bits : MethodName := ⟨RX7, "bits", "(I)I"⟩
abbrev cX7_isOne : ByteArray := prog_9_method_9_code
def yX7_isOne : MethodName := ⟨RX7, "isOne", "(I)Z"⟩
abbrev cX7_areTwo : ByteArray := prog_9_method_10_code
def yX7_areTwo : MethodName := ⟨RX7, "areTwo", "(II)Z"⟩
abbrev cX7_isKin : ByteArray := prog_9_method_11_code
def yX7_isKin : MethodName := ⟨RX7, "isKin", "(II)Z"⟩
abbrev cX7_kinOf : ByteArray := prog_9_method_12_code
def yX7_kinOf : MethodName := ⟨RX7, "kinOf", "(I)I"⟩
abbrev cX7_letter : ByteArray := prog_9_method_13_code
def yX7_letter : MethodName := ⟨RX7, "letter", "(I)I"⟩
abbrev cX7_next : ByteArray := prog_9_method_14_code
def yX7_next : MethodName := ⟨RX7, "next", "()I"⟩
abbrev cX7_readsDigits : ByteArray := prog_9_method_15_code
def yX7_readsDigits : MethodName := ⟨RX7, "readsDigits", "(II)Z"⟩
abbrev cX7_kindOf : ByteArray := prog_9_method_16_code
def yX7_kindOf : MethodName := ⟨RX7, "kindOf", "(I)I"⟩
abbrev cX7_readsOne : ByteArray := prog_9_method_17_code
def yX7_readsOne : MethodName := ⟨RX7, "readsOne", "(I)Z"⟩
abbrev cX7_readsAll : ByteArray := prog_9_method_18_code
def yX7_readsAll : MethodName := ⟨RX7, "readsAll", "(II)Z"⟩
abbrev cX7_statement : ByteArray := prog_9_method_19_code
def yX7_statement : MethodName := ⟨RX7, "statement", "()Z"⟩
abbrev cX7_comesTie : ByteArray := prog_9_method_20_code
def yX7_comesTie : MethodName := ⟨RX7, "comesTie", "(III)Z"⟩
abbrev cX7_comesYears : ByteArray := prog_9_method_21_code
def yX7_comesYears : MethodName := ⟨RX7, "comesYears", "(I)Z"⟩
abbrev cX7_comes : ByteArray := prog_9_method_22_code
def yX7_comes : MethodName := ⟨RX7, "comes", "(I)Z"⟩
abbrev cX7_county : ByteArray := prog_9_method_23_code
def yX7_county : MethodName := ⟨RX7, "county", "()I"⟩
abbrev cX7_passes : ByteArray := prog_9_method_24_code
def yX7_passes : MethodName := ⟨RX7, "passes", "([I)V"⟩
abbrev cX7_passOne : ByteArray := prog_9_method_25_code
def yX7_passOne : MethodName := ⟨RX7, "passOne", "(I)I"⟩
abbrev cX7_passesAll : ByteArray := prog_9_method_26_code
def yX7_passesAll : MethodName := ⟨RX7, "passesAll", "(IZ)V"⟩
abbrev cX7_thinks : ByteArray := prog_9_method_27_code
def yX7_thinks : MethodName := ⟨RX7, "thinks", "()V"⟩
abbrev cX7_forgets : ByteArray := prog_9_method_28_code
def yX7_forgets : MethodName := ⟨RX7, "forgets", "()V"⟩
abbrev cX7_changes : ByteArray := prog_9_method_29_code
def yX7_changes : MethodName := ⟨RX7, "changes", "()V"⟩
abbrev cX7_changesBack : ByteArray := prog_9_method_30_code
def yX7_changesBack : MethodName := ⟨RX7, "changesBack", "()V"⟩
abbrev cX7_image : ByteArray := prog_9_method_31_code
def yX7_image : MethodName := ⟨RX7, "image", "()I"⟩
abbrev cX7_on : ByteArray := prog_9_method_32_code
def yX7_on : MethodName := ⟨RX7, "on", "()I"⟩
abbrev cX7_adds : ByteArray := prog_9_method_33_code
def yX7_adds : MethodName := ⟨RX7, "adds", "(III)V"⟩
abbrev cX7_turnsFeud : ByteArray := prog_9_method_34_code
def yX7_turnsFeud : MethodName := ⟨RX7, "turnsFeud", "(II)V"⟩
abbrev cX7_paysOf : ByteArray := prog_9_method_35_code
def yX7_paysOf : MethodName := ⟨RX7, "paysOf", "(II)I"⟩
abbrev cX7_pays : ByteArray := prog_9_method_36_code
def yX7_pays : MethodName := ⟨RX7, "pays", "(II)V"⟩
abbrev cX7_goesYear : ByteArray := prog_9_method_37_code
def yX7_goesYear : MethodName := ⟨RX7, "goesYear", "()V"⟩
abbrev cX7_goes : ByteArray := prog_9_method_38_code
def yX7_goes : MethodName := ⟨RX7, "goes", "(I)V"⟩
abbrev cX7_wealth : ByteArray := prog_9_method_39_code
def yX7_wealth : MethodName := ⟨RX7, "wealth", "()I"⟩
abbrev cX7_twosOfKin : ByteArray := prog_9_method_40_code
def yX7_twosOfKin : MethodName := ⟨RX7, "twosOfKin", "()I"⟩
abbrev cX7_person : ByteArray := prog_9_method_41_code
def yX7_person : MethodName := ⟨RX7, "person", "(II)I"⟩
abbrev cX7_tie : ByteArray := prog_9_method_42_code
def yX7_tie : MethodName := ⟨RX7, "tie", "(III)I"⟩
abbrev cX7_signs : ByteArray := prog_9_method_43_code
def yX7_signs : MethodName := ⟨RX7, "signs", "(II)I"⟩
abbrev cX7_feuds : ByteArray := prog_9_method_44_code
def yX7_feuds : MethodName := ⟨RX7, "feuds", "(II)I"⟩
abbrev cX7_gets : ByteArray := prog_9_method_45_code
def yX7_gets : MethodName := ⟨RX7, "gets", "(II)I"⟩
abbrev cX7_turn : ByteArray := prog_9_method_46_code
def yX7_turn : MethodName := ⟨RX7, "turn", "(III)I"⟩
abbrev cX7_years : ByteArray := prog_9_method_47_code
def yX7_years : MethodName := ⟨RX7, "years", "(I)I"⟩
abbrev cX7_notYears : ByteArray := prog_9_method_48_code
def yX7_notYears : MethodName := ⟨RX7, "notYears", "(I)I"⟩
abbrev cX7_moneyIn : ByteArray := prog_9_method_49_code
def yX7_moneyIn : MethodName := ⟨RX7, "moneyIn", "(II)I"⟩
abbrev cX7_wealthIn : ByteArray := prog_9_method_50_code
def yX7_wealthIn : MethodName := ⟨RX7, "wealthIn", "(I)I"⟩
abbrev cX7_hasThen : ByteArray := prog_9_method_51_code
def yX7_hasThen : MethodName := ⟨RX7, "hasThen", "(III)I"⟩
abbrev cX7_areKin : ByteArray := prog_9_method_52_code
def yX7_areKin : MethodName := ⟨RX7, "areKin", "(III)I"⟩
abbrev cX7_allMoney : ByteArray := prog_9_method_53_code
def yX7_allMoney : MethodName := ⟨RX7, "allMoney", "(I)I"⟩
abbrev cX7_ruinOf : ByteArray := prog_9_method_54_code
def yX7_ruinOf : MethodName := ⟨RX7, "ruinOf", "(I)I"⟩
abbrev cX7_ruined : ByteArray := prog_9_method_55_code
def yX7_ruined : MethodName := ⟨RX7, "ruined", "(I)I"⟩
abbrev cX7_isSteady : ByteArray := prog_9_method_56_code
def yX7_isSteady : MethodName := ⟨RX7, "isSteady", "()Z"⟩
abbrev cX7_steadyAt : ByteArray := prog_9_method_57_code
def yX7_steadyAt : MethodName := ⟨RX7, "steadyAt", "()I"⟩
abbrev cX7_first : ByteArray := prog_9_method_58_code
def yX7_first : MethodName := ⟨RX7, "first", "(I)I"⟩
abbrev cX7_richest : ByteArray := prog_9_method_59_code
def yX7_richest : MethodName := ⟨RX7, "richest", "(I)I"⟩
abbrev cX7_findSteps : ByteArray := prog_9_method_60_code
def yX7_findSteps : MethodName := ⟨RX7, "findSteps", "(I)V"⟩
abbrev cX7_reached : ByteArray := prog_9_method_61_code
def yX7_reached : MethodName := ⟨RX7, "reached", "(I)I"⟩
abbrev cX7_kin : ByteArray := prog_9_method_62_code
def yX7_kin : MethodName := ⟨RX7, "kin", "(II)I"⟩
abbrev cX7_removed : ByteArray := prog_9_method_63_code
def yX7_removed : MethodName := ⟨RX7, "removed", "(II)I"⟩
abbrev cX7_farthest : ByteArray := prog_9_method_64_code
def yX7_farthest : MethodName := ⟨RX7, "farthest", "(I)I"⟩
abbrev cX7_threes : ByteArray := prog_9_method_65_code
def yX7_threes : MethodName := ⟨RX7, "threes", "()I"⟩
abbrev cX7_groups : ByteArray := prog_9_method_66_code
def yX7_groups : MethodName := ⟨RX7, "groups", "(I)I"⟩
abbrev cX7_areAllKin : ByteArray := prog_9_method_67_code
def yX7_areAllKin : MethodName := ⟨RX7, "areAllKin", "(I)Z"⟩
abbrev cX7_clan : ByteArray := prog_9_method_68_code
def yX7_clan : MethodName := ⟨RX7, "clan", "(I)I"⟩
abbrev cX7_notShort : ByteArray := prog_9_method_69_code
def yX7_notShort : MethodName := ⟨RX7, "notShort", "(I)I"⟩
abbrev cX7_moneySigning : ByteArray := prog_9_method_70_code
def yX7_moneySigning : MethodName := ⟨RX7, "moneySigning", "(III)I"⟩
abbrev cX7_bestTurn : ByteArray := prog_9_method_71_code
def yX7_bestTurn : MethodName := ⟨RX7, "bestTurn", "(IIZ)I"⟩
abbrev cX7_bestSign : ByteArray := prog_9_method_72_code
def yX7_bestSign : MethodName := ⟨RX7, "bestSign", "(II)I"⟩
abbrev cX7_bestCut : ByteArray := prog_9_method_73_code
def yX7_bestCut : MethodName := ⟨RX7, "bestCut", "(II)I"⟩
abbrev cX7_feudCosts : ByteArray := prog_9_method_74_code
def yX7_feudCosts : MethodName := ⟨RX7, "feudCosts", "(III)I"⟩
abbrev cX7_peace : ByteArray := prog_9_method_75_code
def yX7_peace : MethodName := ⟨RX7, "peace", "()I"⟩
abbrev cX7_will : ByteArray := prog_9_method_76_code
def yX7_will : MethodName := ⟨RX7, "will", "(II)I"⟩
abbrev cX7_leastRoom : ByteArray := prog_9_method_77_code
def yX7_leastRoom : MethodName := ⟨RX7, "leastRoom", "(II)I"⟩
abbrev cX7_findRooms : ByteArray := prog_9_method_78_code
def yX7_findRooms : MethodName := ⟨RX7, "findRooms", "(I)Z"⟩
abbrev cX7_rooms : ByteArray := prog_9_method_79_code
def yX7_rooms : MethodName := ⟨RX7, "rooms", "(I)I"⟩
abbrev cX7_isCouple : ByteArray := prog_9_method_80_code
def yX7_isCouple : MethodName := ⟨RX7, "isCouple", "(III)Z"⟩
abbrev cX7_lowest : ByteArray := prog_9_method_81_code
def yX7_lowest : MethodName := ⟨RX7, "lowest", "(I)I"⟩
abbrev cX7_findCouples : ByteArray := prog_9_method_82_code
def yX7_findCouples : MethodName := ⟨RX7, "findCouples", "(I)V"⟩
abbrev cX7_partnerIn : ByteArray := prog_9_method_83_code
def yX7_partnerIn : MethodName := ⟨RX7, "partnerIn", "(III)I"⟩
abbrev cX7_partnerOf : ByteArray := prog_9_method_84_code
def yX7_partnerOf : MethodName := ⟨RX7, "partnerOf", "(II)I"⟩
abbrev cX7_couples : ByteArray := prog_9_method_85_code
def yX7_couples : MethodName := ⟨RX7, "couples", "(II)I"⟩
abbrev cX7_turned : ByteArray := prog_9_method_86_code
def yX7_turned : MethodName := ⟨RX7, "turned", "(III)I"⟩
abbrev cX7_exchanges : ByteArray := prog_9_method_87_code
def yX7_exchanges : MethodName := ⟨RX7, "exchanges", "([III)V"⟩
abbrev cX7_moneyChanged : ByteArray := prog_9_method_88_code
def yX7_moneyChanged : MethodName := ⟨RX7, "moneyChanged", "(III)I"⟩
abbrev cX7_buys : ByteArray := prog_9_method_89_code
def yX7_buys : MethodName := ⟨RX7, "buys", "(II)I"⟩
abbrev cX7_matters : ByteArray := prog_9_method_90_code
def yX7_matters : MethodName := ⟨RX7, "matters", "(I)I"⟩
abbrev cX7_divisor : ByteArray := prog_9_method_91_code
def yX7_divisor : MethodName := ⟨RX7, "divisor", "(JJ)J"⟩
abbrev cX7_partOf : ByteArray := prog_9_method_92_code
def yX7_partOf : MethodName := ⟨RX7, "partOf", "(JJI)J"⟩
abbrev cX7_deaths : ByteArray := prog_9_method_93_code
def yX7_deaths : MethodName := ⟨RX7, "deaths", "(IIIIII)J"⟩
abbrev cX7_mean : ByteArray := prog_9_method_94_code
def yX7_mean : MethodName := ⟨RX7, "mean", "(I)J"⟩
abbrev cX7_with : ByteArray := prog_9_method_95_code
def yX7_with : MethodName := ⟨RX7, "with", "(III)I"⟩
abbrev cX7_findTwo : ByteArray := prog_9_method_96_code
def yX7_findTwo : MethodName := ⟨RX7, "findTwo", "(III)V"⟩
abbrev cX7_two : ByteArray := prog_9_method_97_code
def yX7_two : MethodName := ⟨RX7, "two", "(III)I"⟩
abbrev cX7_isSo : ByteArray := prog_9_method_98_code
def yX7_isSo : MethodName := ⟨RX7, "isSo", "(I)Z"⟩
abbrev cX7_bitsFor : ByteArray := prog_9_method_99_code
def yX7_bitsFor : MethodName := ⟨RX7, "bitsFor", "([III)I"⟩
abbrev cX7_whatIs : ByteArray := prog_9_method_100_code
def yX7_whatIs : MethodName := ⟨RX7, "whatIs", "(II)I"⟩
abbrev cX7_row : ByteArray := prog_9_method_101_code
def yX7_row : MethodName := ⟨RX7, "row", "(I)I"⟩
abbrev cX7_judge : ByteArray := prog_9_method_102_code
def yX7_judge : MethodName := ⟨RX7, "judge", "()I"⟩
abbrev cX7_clear : ByteArray := prog_9_method_103_code
def yX7_clear : MethodName := ⟨RX7, "clear", "()I"⟩
abbrev cX7_draw : ByteArray := prog_9_method_104_code
def yX7_draw : MethodName := ⟨RX7, "draw", "(I)I"⟩
abbrev cX7_lots : ByteArray := prog_9_method_105_code
def yX7_lots : MethodName := ⟨RX7, "lots", "(III)I"⟩
abbrev cX7_count : ByteArray := prog_9_method_106_code
def yX7_count : MethodName := ⟨RX7, "count", "(I)I"⟩
def RJx145de : String := "java/io/Serializable"
def TJx145de : u_T := fun k => match k with
  | _ => ("", "", "", false)
def tyJx145de : Nat → FieldType := fun k => match k with
  | _ => .int
theorem nmJx145de : ∀ a, a < 0 → ∀ b, b < 0 → a ≠ b → (TJx145de a).2.1 ≠ (TJx145de b).2.1 := by decide +kernel
theorem tyJx145de_ok : ∀ k, k < 0 → parseFieldDescriptor (TJx145de k).2.2.1 = some (tyJx145de k) := by decide +kernel
def RJx9f9b0 : String := "java/lang/CharSequence"
def TJx9f9b0 : u_T := fun k => match k with
  | _ => ("", "", "", false)
def tyJx9f9b0 : Nat → FieldType := fun k => match k with
  | _ => .int
theorem nmJx9f9b0 : ∀ a, a < 0 → ∀ b, b < 0 → a ≠ b → (TJx9f9b0 a).2.1 ≠ (TJx9f9b0 b).2.1 := by decide +kernel
theorem tyJx9f9b0_ok : ∀ k, k < 0 → parseFieldDescriptor (TJx9f9b0 k).2.2.1 = some (tyJx9f9b0 k) := by decide +kernel
def RJ11 : String := "java/lang/Character"
def TJ11 : u_T := fun k => match k with
  | _ => ("", "", "", false)
def tyJ11 : Nat → FieldType := fun k => match k with
  | _ => .int
theorem nmJ11 : ∀ a, a < 0 → ∀ b, b < 0 → a ≠ b → (TJ11 a).2.1 ≠ (TJ11 b).2.1 := by decide +kernel
theorem tyJ11_ok : ∀ k, k < 0 → parseFieldDescriptor (TJ11 k).2.2.1 = some (tyJ11 k) := by decide +kernel
abbrev cJ11_isValidCodePoint_9a6ad : ByteArray := prog_10_method_11_code
def yJ11_isValidCodePoint_9a6ad : MethodName := ⟨RJ11, "isValidCodePoint", "(I)Z"⟩
abbrev cJ11_highSurrogate_5068e : ByteArray := prog_10_method_28_code
def yJ11_highSurrogate_5068e : MethodName := ⟨RJ11, "highSurrogate", "(I)C"⟩
abbrev cJ11_lowSurrogate_5068e : ByteArray := prog_10_method_29_code
def yJ11_lowSurrogate_5068e : MethodName := ⟨RJ11, "lowSurrogate", "(I)C"⟩
def RJxb160c : String := "java/lang/Comparable"
def TJxb160c : u_T := fun k => match k with
  | _ => ("", "", "", false)
def tyJxb160c : Nat → FieldType := fun k => match k with
  | _ => .int
theorem nmJxb160c : ∀ a, a < 0 → ∀ b, b < 0 → a ≠ b → (TJxb160c a).2.1 ≠ (TJxb160c b).2.1 := by decide +kernel
theorem tyJxb160c_ok : ∀ k, k < 0 → parseFieldDescriptor (TJxb160c k).2.2.1 = some (tyJxb160c k) := by decide +kernel
def RJ6 : String := "java/lang/Integer"
def TJ6 : u_T := fun k => match k with
  | _ => ("", "", "", false)
def tyJ6 : Nat → FieldType := fun k => match k with
  | _ => .int
theorem nmJ6 : ∀ a, a < 0 → ∀ b, b < 0 → a ≠ b → (TJ6 a).2.1 ≠ (TJ6 b).2.1 := by decide +kernel
theorem tyJ6_ok : ∀ k, k < 0 → parseFieldDescriptor (TJ6 k).2.2.1 = some (tyJ6 k) := by decide +kernel
abbrev cJ6_bitCount_0f7a4 : ByteArray := prog_11_method_49_code
def yJ6_bitCount_0f7a4 : MethodName := ⟨RJ6, "bitCount", "(I)I"⟩
def RJ9 : String := "java/lang/Math"
def TJ9 : u_T := fun k => match k with
  | _ => ("", "", "", false)
def tyJ9 : Nat → FieldType := fun k => match k with
  | _ => .int
theorem nmJ9 : ∀ a, a < 0 → ∀ b, b < 0 → a ≠ b → (TJ9 a).2.1 ≠ (TJ9 b).2.1 := by decide +kernel
theorem tyJ9_ok : ∀ k, k < 0 → parseFieldDescriptor (TJ9 k).2.2.1 = some (tyJ9 k) := by decide +kernel
abbrev cJ9_abs_0f7a4 : ByteArray := prog_12_method_59_code
def yJ9_abs_0f7a4 : MethodName := ⟨RJ9, "abs", "(I)I"⟩
abbrev cJ9_max_7cf53 : ByteArray := prog_12_method_65_code
def yJ9_max_7cf53 : MethodName := ⟨RJ9, "max", "(II)I"⟩
abbrev cJ9_min_7cf53 : ByteArray := prog_12_method_69_code
def yJ9_min_7cf53 : MethodName := ⟨RJ9, "min", "(II)I"⟩
def RJ0 : String := "java/lang/String"
def TJ0 : u_T := fun k => match k with
  | _ => ("", "", "", false)
def tyJ0 : Nat → FieldType := fun k => match k with
  | _ => .int
theorem nmJ0 : ∀ a, a < 0 → ∀ b, b < 0 → a ≠ b → (TJ0 a).2.1 ≠ (TJ0 b).2.1 := by decide +kernel
theorem tyJ0_ok : ∀ k, k < 0 → parseFieldDescriptor (TJ0 k).2.2.1 = some (tyJ0 k) := by decide +kernel
abbrev cJ0_length_8abf5 : ByteArray := prog_13_method_54_code
def yJ0_length_8abf5 : MethodName := ⟨RJ0, "length", "()I"⟩
abbrev cJ0_indexOf_0f7a4 : ByteArray := prog_13_method_79_code
def yJ0_indexOf_0f7a4 : MethodName := ⟨RJ0, "indexOf", "(I)I"⟩
abbrev cJ0_indexOf_7cf53 : ByteArray := prog_13_method_80_code
def yJ0_indexOf_7cf53 : MethodName := ⟨RJ0, "indexOf", "(II)I"⟩
abbrev cJ0_coder_7d493 : ByteArray := prog_13_method_152_code
def yJ0_coder_7d493 : MethodName := ⟨RJ0, "coder", "()B"⟩
abbrev cJ0_isLatin1_aae02 : ByteArray := prog_13_method_154_code
def yJ0_isLatin1_aae02 : MethodName := ⟨RJ0, "isLatin1", "()Z"⟩
abbrev cJ0_checkBoundsBeginEnd_23922 : ByteArray := prog_13_method_158_code
def yJ0_checkBoundsBeginEnd_23922 : MethodName := ⟨RJ0, "checkBoundsBeginEnd", "(III)V"⟩
def RJ1 : String := "java/lang/StringLatin1"
def TJ1 : u_T := fun k => match k with
  | _ => ("", "", "", false)
def tyJ1 : Nat → FieldType := fun k => match k with
  | _ => .int
theorem nmJ1 : ∀ a, a < 0 → ∀ b, b < 0 → a ≠ b → (TJ1 a).2.1 ≠ (TJ1 b).2.1 := by decide +kernel
theorem tyJ1_ok : ∀ k, k < 0 → parseFieldDescriptor (TJ1 k).2.2.1 = some (tyJ1 k) := by decide +kernel
abbrev cJ1_canEncode_9a6ad : ByteArray := prog_14_method_4_code
def yJ1_canEncode_9a6ad : MethodName := ⟨RJ1, "canEncode", "(I)Z"⟩
abbrev cJ1_indexOf_4cfef : ByteArray := prog_14_method_22_code
def yJ1_indexOf_4cfef : MethodName := ⟨RJ1, "indexOf", "([BIII)I"⟩
abbrev cJ1_indexOfChar_4cfef : ByteArray := prog_14_method_23_code
def yJ1_indexOfChar_4cfef : MethodName := ⟨RJ1, "indexOfChar", "([BIII)I"⟩
def RJ2 : String := "java/lang/StringUTF16"
def TJ2 : u_T := fun k => match k with
  | _ => ("", "", "", false)
def tyJ2 : Nat → FieldType := fun k => match k with
  | _ => .int
theorem nmJ2 : ∀ a, a < 0 → ∀ b, b < 0 → a ≠ b → (TJ2 a).2.1 ≠ (TJ2 b).2.1 := by decide +kernel
theorem tyJ2_ok : ∀ k, k < 0 → parseFieldDescriptor (TJ2 k).2.2.1 = some (tyJ2 k) := by decide +kernel
abbrev cJ2_getChar_3b067 : ByteArray := prog_15_method_5_code
def yJ2_getChar_3b067 : MethodName := ⟨RJ2, "getChar", "([BI)C"⟩
abbrev cJ2_length_9d52b : ByteArray := prog_15_method_6_code
def yJ2_length_9d52b : MethodName := ⟨RJ2, "length", "([B)I"⟩
abbrev cJ2_indexOf_4cfef : ByteArray := prog_15_method_40_code
def yJ2_indexOf_4cfef : MethodName := ⟨RJ2, "indexOf", "([BIII)I"⟩
abbrev cJ2_indexOfChar_4cfef : ByteArray := prog_15_method_47_code
def yJ2_indexOfChar_4cfef : MethodName := ⟨RJ2, "indexOfChar", "([BIII)I"⟩
abbrev cJ2_indexOfCharUnsafe_4cfef : ByteArray := prog_15_method_48_code
def yJ2_indexOfCharUnsafe_4cfef : MethodName := ⟨RJ2, "indexOfCharUnsafe", "([BIII)I"⟩
abbrev cJ2_indexOfSupplementary_4cfef : ByteArray := prog_15_method_49_code
def yJ2_indexOfSupplementary_4cfef : MethodName := ⟨RJ2, "indexOfSupplementary", "([BIII)I"⟩
abbrev cJ2_checkBoundsBeginEnd_d044e : ByteArray := prog_15_method_93_code
def yJ2_checkBoundsBeginEnd_d044e : MethodName := ⟨RJ2, "checkBoundsBeginEnd", "(II[B)V"⟩
def RJ10 : String := "java/lang/System"
def TJ10 : u_T := fun k => match k with
  | _ => ("", "", "", false)
def tyJ10 : Nat → FieldType := fun k => match k with
  | _ => .int
theorem nmJ10 : ∀ a, a < 0 → ∀ b, b < 0 → a ≠ b → (TJ10 a).2.1 ≠ (TJ10 b).2.1 := by decide +kernel
theorem tyJ10_ok : ∀ k, k < 0 → parseFieldDescriptor (TJ10 k).2.2.1 = some (tyJ10 k) := by decide +kernel
def RJxfd54e : String := "java/lang/constant/Constable"
def TJxfd54e : u_T := fun k => match k with
  | _ => ("", "", "", false)
def tyJxfd54e : Nat → FieldType := fun k => match k with
  | _ => .int
theorem nmJxfd54e : ∀ a, a < 0 → ∀ b, b < 0 → a ≠ b → (TJxfd54e a).2.1 ≠ (TJxfd54e b).2.1 := by decide +kernel
theorem tyJxfd54e_ok : ∀ k, k < 0 → parseFieldDescriptor (TJxfd54e k).2.2.1 = some (tyJxfd54e k) := by decide +kernel
def RJx3cf43 : String := "java/lang/constant/ConstantDesc"
def TJx3cf43 : u_T := fun k => match k with
  | _ => ("", "", "", false)
def tyJx3cf43 : Nat → FieldType := fun k => match k with
  | _ => .int
theorem nmJx3cf43 : ∀ a, a < 0 → ∀ b, b < 0 → a ≠ b → (TJx3cf43 a).2.1 ≠ (TJx3cf43 b).2.1 := by decide +kernel
theorem tyJx3cf43_ok : ∀ k, k < 0 → parseFieldDescriptor (TJx3cf43 k).2.2.1 = some (tyJx3cf43 k) := by decide +kernel
def RJ7 : String := "java/util/Arrays"
def TJ7 : u_T := fun k => match k with
  | _ => ("", "", "", false)
def tyJ7 : Nat → FieldType := fun k => match k with
  | _ => .int
theorem nmJ7 : ∀ a, a < 0 → ∀ b, b < 0 → a ≠ b → (TJ7 a).2.1 ≠ (TJ7 b).2.1 := by decide +kernel
theorem tyJ7_ok : ∀ k, k < 0 → parseFieldDescriptor (TJ7 k).2.2.1 = some (tyJ7 k) := by decide +kernel
abbrev cJ7_fill_53178 : ByteArray := prog_17_method_103_code
def yJ7_fill_53178 : MethodName := ⟨RJ7, "fill", "([II)V"⟩
def RJ3 : String := "jdk/internal/util/Preconditions"
def TJ3 : u_T := fun k => match k with
  | _ => ("", "", "", false)
def tyJ3 : Nat → FieldType := fun k => match k with
  | _ => .int
theorem nmJ3 : ∀ a, a < 0 → ∀ b, b < 0 → a ≠ b → (TJ3 a).2.1 ≠ (TJ3 b).2.1 := by decide +kernel
theorem tyJ3_ok : ∀ k, k < 0 → parseFieldDescriptor (TJ3 k).2.2.1 = some (tyJ3 k) := by decide +kernel
abbrev cJ3_checkFromToIndex_8c36e : ByteArray := prog_18_method_12_code
def yJ3_checkFromToIndex_8c36e : MethodName := ⟨RJ3, "checkFromToIndex", "(IIILjava/util/function/BiFunction;)I"⟩
def RL : String := "CousinsByAgreementLaw"
abbrev cL_law : ByteArray := code
def yL_law : MethodName := ⟨RL, "law", "([I)Z"⟩
end
section
/-! the core: an abstract memory of ints over a fixed layout of cells, and a judgement over it -/
abbrev ZMem : Type := Nat → Nat → Int32
abbrev ZLc : Type := List (Option Value)
abbrev ZMD : Type := MethodName × ByteArray × Nat × Option FieldType
/-- an int array of a length; an object of a class with its fields (none: an int; some r: the cell at place r); an array of references -/
abbrev ZSH : Type := Nat ⊕ ((Nat × List (Option Nat)) ⊕ (Nat × (Nat → Option Nat)))
def zgt : List Cond := lw_tbl.filter goodWord
theorem zgt_in {w : Cond} (h : w ∈ lw_tbl) (hg : goodWord w = true) : w ∈ zgt := List.mem_filter.mpr ⟨h, hg⟩
theorem zgt_good {w : Cond} (h : w ∈ zgt) : (w.onTables && w.keeps) = true ∨ ∃ ty, w = .arrayClass ty := good_of_word (List.mem_filter.mp h).2
def zisN : Cond → Bool
  | .methodLinkNest .. => true
  | .fieldLinkNest .. => true
  | _ => false
def zNW : List Cond := lw_tbl.filter zisN
theorem zNW_in {w : Cond} (h : w ∈ lw_tbl) (hg : zisN w = true) : w ∈ zNW := List.mem_filter.mpr ⟨h, hg⟩
theorem zNW_same {w : Cond} (hw : w ∈ zNW) {u U : State} (h : u.vm = U.vm) (hZ : va_Nw w u) : va_Nw w U := by
  have hn := (List.mem_filter.mp hw).2
  cases w <;> first | exact va_Nw.same rfl h hZ | (cases hn)
theorem zNW_warm {w : Cond} (hw : w ∈ zNW) {s U : State} (h : s.WarmedH U.vm) (hZ : va_Nw w s) : va_Nw w U := by
  have hn := (List.mem_filter.mp hw).2
  cases w <;> first | exact va_Nw.warmM h hZ | exact va_Nw.warmF h hZ | (cases hn)
abbrev zcls : List vw_C := [(RX0, TX0, 7), (RX1, TX1, 2), (RX2, TX2, 6), (RX3, TX3, 4), (RX4, TX4, 3), (RX5, TX5, 2), (RX6, TX6, 15), (RX7, TX7, 28)]
def zcy (o : Nat) : List ZSH := [.inr (.inl (0, [some (o + 1), some (o + 2), some (o + 3), some (o + 4), some (o + 5), none, none])), .inl 8, .inl 8, .inl 8, .inl 8, .inl 8]
def zshL : List ZSH :=
  [.inr (.inl (6, [some 1, some 7, some 13, some 19, none, some 25, some 27, none, some 28, some 29, some 31, some 34, some 38, some 88, some 89])),
  .inr (.inl (0, [some 2, some 3, some 4, some 5, some 6, none, none])), .inl 8, .inl 8, .inl 8, .inl 8, .inl 8,
  .inr (.inl (0, [some 8, some 9, some 10, some 11, some 12, none, none])), .inl 8, .inl 8, .inl 8, .inl 8, .inl 8,
  .inr (.inl (0, [some 14, some 15, some 16, some 17, some 18, none, none])), .inl 8, .inl 8, .inl 8, .inl 8, .inl 8,
  .inr (.inl (0, [some 20, some 21, some 22, some 23, some 24, none, none])), .inl 8, .inl 8, .inl 8, .inl 8, .inl 8,
  .inr (.inl (1, [some 26, none])), .inl 96, .inl 16, .inl 7,
  .inr (.inl (5, [some 30, none])), .inl 8,
  .inr (.inl (4, [some 32, some 33, none])), .inl 8, .inl 8,
  .inr (.inl (3, [some 35, some 36, some 37, none])), .inl 256, .inl 8, .inl 8,
  .inr (.inl (2, [some 39, none, none, none, none, none])), .inr (.inr (8, fun j => some (40 + 6 * j))),
  .inr (.inl (0, [some 41, some 42, some 43, some 44, some 45, none, none])), .inl 8, .inl 8, .inl 8, .inl 8, .inl 8,
  .inr (.inl (0, [some 47, some 48, some 49, some 50, some 51, none, none])), .inl 8, .inl 8, .inl 8, .inl 8, .inl 8,
  .inr (.inl (0, [some 53, some 54, some 55, some 56, some 57, none, none])), .inl 8, .inl 8, .inl 8, .inl 8, .inl 8,
  .inr (.inl (0, [some 59, some 60, some 61, some 62, some 63, none, none])), .inl 8, .inl 8, .inl 8, .inl 8, .inl 8,
  .inr (.inl (0, [some 65, some 66, some 67, some 68, some 69, none, none])), .inl 8, .inl 8, .inl 8, .inl 8, .inl 8,
  .inr (.inl (0, [some 71, some 72, some 73, some 74, some 75, none, none])), .inl 8, .inl 8, .inl 8, .inl 8, .inl 8,
  .inr (.inl (0, [some 77, some 78, some 79, some 80, some 81, none, none])), .inl 8, .inl 8, .inl 8, .inl 8, .inl 8,
  .inr (.inl (0, [some 83, some 84, some 85, some 86, some 87, none, none])), .inl 8, .inl 8, .inl 8, .inl 8, .inl 8,
  .inl 4, .inl 4,
  .inr (.inl (7, [some 91, some 92, some 93, some 94, some 95, some 96, none, none, none, some 97, some 98, some 99, some 100, none, none, none, some 101, none, none, none, some 102, some 103, some 104, some 105, some 106, some 107, none, none])),
  .inl 7, .inl 8, .inl 8, .inl 8, .inl 8, .inl 8, .inl 96, .inl 48, .inl 48, .inl 144, .inl 126, .inl 16, .inl 8, .inl 8, .inl 256, .inl 8, .inl 16]
def zsh (k : Nat) : ZSH := zshL.getD k (.inl 0)
theorem zsh_of {k : Nat} {x : ZSH} (h : zshL[k]? = some x) : zsh k = x ∧ k < 108 := by
  obtain ⟨h1, h2⟩ := List.getElem?_eq_some_iff.mp h
  refine ⟨?_, h1⟩
  rw [zsh, List.getD_eq_getElem?_getD, h]
  rfl
def zc (ad : Nat → Nat) : Value → Value
  | .ref k => .ref (ad k)
  | v => v
theorem zc_cat (ad : Nat → Nat) (v : Value) : (zc ad v).category = v.category := by cases v <;> rfl
def zfs (ad : Nat → Nat) (fs : List (Option Nat)) (f : Nat → Int32) : List Value := fs.zipIdx.map (fun q => match q.1 with
  | none => .int (f q.2)
  | some r => .ref (ad r))
theorem zfs_n {ad : Nat → Nat} {fs : List (Option Nat)} {f : Nat → Int32} {k : Nat} (h : fs[k]? = some none) : (zfs ad fs f)[k]? = some (.int (f k)) := by
  simp [zfs, List.getElem?_map, List.getElem?_zipIdx, h]
theorem zfs_s {ad : Nat → Nat} {fs : List (Option Nat)} {f : Nat → Int32} {k r : Nat} (h : fs[k]? = some (some r)) : (zfs ad fs f)[k]? = some (.ref (ad r)) := by
  simp [zfs, List.getElem?_map, List.getElem?_zipIdx, h]
theorem zfs_len {ad : Nat → Nat} {fs : List (Option Nat)} {f : Nat → Int32} : (zfs ad fs f).length = fs.length := by simp [zfs]
theorem zfs_set {ad : Nat → Nat} {fs : List (Option Nat)} {f : Nat → Int32} {k : Nat} {v : Int32} (h : fs[k]? = some none) : (zfs ad fs f).set k (.int v) = zfs ad fs (upd f k v) := by
  have hk := (List.getElem?_eq_some_iff.mp h).1
  apply List.ext_getElem?
  intro j
  rw [List.getElem?_set]
  by_cases hj : k = j
  · subst hj
    rw [if_pos rfl, if_pos (by rw [zfs_len]; exact hk), zfs_n h]
    simp [upd]
  · rw [if_neg hj]
    have hj' : ¬ j = k := fun e => hj e.symm
    simp only [zfs, List.getElem?_map, List.getElem?_zipIdx]
    cases hx : fs[j]? with
    | none => rfl
    | some o => cases o with
      | none => simp [upd, hj']
      | some r => rfl
def zcel (ad : Nat → Nat) (cI cQ : ClassId) (x : ZSH) (f : Nat → Int32) : va_E := match x with
  | .inl n => .inl (cI, n, .inl f)
  | .inr (.inl q) => .inr (q.1, zfs ad q.2 f)
  | .inr (.inr q) => .inl (cQ, q.1, .inr (.inr (.inr (.inr (fun j => (q.2 j).map ad)))))
def zwl (ad : Nat → Nat) (cI cQ : ClassId) (M : ZMem) : va_W := (List.range 108).map (fun k => (ad k, zcel ad cI cQ (zsh k) (M k)))
theorem zwl_at {ad : Nat → Nat} {cI cQ : ClassId} {M : ZMem} {k : Nat} {x : ZSH} (h : zshL[k]? = some x) : (zwl ad cI cQ M)[k]? = some (ad k, zcel ad cI cQ x (M k)) := by
  obtain ⟨h1, h2⟩ := zsh_of h
  simp [zwl, List.getElem?_map, List.getElem?_range h2, h1]
def zupf (M : ZMem) (b : Nat) (f : Nat → Int32) : ZMem := fun b' => if b' = b then f else M b'
def zup (M : ZMem) (b k : Nat) (v : Int32) : ZMem := zupf M b (upd (M b) k v)
theorem zwl_set {ad : Nat → Nat} {cI cQ : ClassId} {M : ZMem} {b : Nat} {x : ZSH} {f : Nat → Int32} (h : zshL[b]? = some x) : (zwl ad cI cQ M).set b (ad b, zcel ad cI cQ x f) = zwl ad cI cQ (zupf M b f) := by
  obtain ⟨h1, h2⟩ := zsh_of h
  apply List.ext_getElem?
  intro j
  rw [List.getElem?_set]
  by_cases hj : b = j
  · subst hj
    rw [if_pos rfl, if_pos (by simp [zwl]; exact h2)]
    simp [zwl, List.getElem?_map, List.getElem?_range h2, h1, zupf]
  · rw [if_neg hj]
    have hj' : ¬ j = b := fun e => hj e.symm
    simp only [zwl, List.getElem?_map]
    cases hx : (List.range 108)[j]? with
    | none => rfl
    | some y =>
      have hy : y = j := by
        obtain ⟨q1, q2⟩ := List.getElem?_eq_some_iff.mp hx
        simpa using q2.symm
      subst hy
      simp [zupf, hj']
/-- what is frozen: the tables' words, the String constant and a static of String -/
def ZK (G : va_G) (cI cQ : ClassId) (ad : Nat → Nat) (A : Nat → Prop) (U : State) (H : Heap) : Prop :=
  va_K G zcls [(cI, .int), (cQ, .object RX0)] U ∧ (∀ w ∈ zNW, va_Nw w U) ∧ vk_R RX1 41 "pltwda" (ad 1000) U ∧ vk_S 1 [6] [[112, 108, 116, 119, 100, 97]] (fun _ => ad 1000) (fun _ => ad 1001) A U H ∧ va_Z "java/lang/String" "COMPACT_STRINGS" "Z" (.int 1) A U H
theorem ZK.go {G : va_G} {cI cQ : ClassId} {ad : Nat → Nat} {A : Nat → Prop} {s U : State} {H : Heap} {locs : List Loc} (h : ZK G cI cQ ad A s s.heap) (hS : va_S A s.heap H locs) (hU : U.heap = H) (hW : s.WarmedH U.vm) : ZK G cI cQ ad A U U.heap := by
  obtain ⟨h1, h2, h3, h4, h5⟩ := h
  rw [hU]
  exact ⟨va_K.moved hW.alike h1, fun w hw => zNW_warm hw hW (h2 w hw), vk_R.warm hW h3, vk_S.moved hW.alike (vk_S.kept h4 hS.2.1), va_Z.moved hW.alike (va_Z.kept h5 hS.2.1)⟩
theorem ZK.blind {G : va_G} {cI cQ : ClassId} {ad : Nat → Nat} {A : Nat → Prop} {U : State} {g : JFrame} {mk : MethodId} {a : Array Value} (h : ZK G cI cQ ad A U U.heap) : ZK G cI cQ ad A (U.calling g mk a) (U.calling g mk a).heap := by
  obtain ⟨h1, h2, h3, h4, h5⟩ := h
  exact ⟨va_K.moved (u := U) (U := U.calling g mk a) (Vm.Alike.refl U.vm) h1, fun w hw => zNW_same (u := U) (U := U.calling g mk a) hw rfl (h2 w hw), vk_R.same (u := U) (U := U.calling g mk a) rfl h3, vk_S.moved (u := U) (U := U.calling g mk a) (Vm.Alike.refl U.vm) h4, va_Z.moved (u := U) (U := U.calling g mk a) (Vm.Alike.refl U.vm) h5⟩
def ZW (G : va_G) (cI cQ : ClassId) (ad : Nat → Nat) (A : Nat → Prop) (M : ZMem) (H : Heap) : Prop := va_P G zcls (zwl ad cI cQ M) H ∧ va_D A (zwl ad cI cQ M)
def zLH (ls : Array Slot) (nL : Nat) (L : ZLc) : Prop := ls.size = nL ∧ lv_wf ls ∧ ∀ (i : Nat) (v : Value), L[i]? = some (some v) → ls[i]? = some (.val v)
def zlist (L : ZLc) : List (Nat × Value) := L.zipIdx.filterMap (fun q => q.1.map (fun v => (q.2, v)))
theorem zlist_mem {L : ZLc} {q : Nat × Value} : q ∈ zlist L ↔ L[q.1]? = some (some q.2) := by
  constructor
  · intro h
    obtain ⟨x, hx, hq⟩ := List.mem_filterMap.mp h
    have hx' := List.mem_zipIdx_iff_getElem?.mp hx
    cases hx1 : x.1 with
    | none => rw [hx1] at hq; cases hq
    | some v =>
      rw [hx1] at hq
      have e := Option.some.inj hq
      rw [← e]
      show L[x.2]? = some (some v)
      rw [hx', hx1]
  · intro h
    refine List.mem_filterMap.mpr ⟨(some q.2, q.1), List.mem_zipIdx_iff_getElem?.mpr h, rfl⟩
theorem zLH.has {ls : Array Slot} {nL : Nat} {L : ZLc} (h : zLH ls nL L) : lv_has ls nL (zlist L) := ⟨h.1, h.2.1, fun q hq => h.2.2 q.1 q.2 (zlist_mem.mp hq)⟩
def zkill (L : ZLc) : Nat → ZLc
  | 0 => L
  | j + 1 => match L[j]? with
    | some (some v) => match v with
      | .long _ => L.set j none
      | .double _ => L.set j none
      | _ => L
    | _ => L
def zst1 (L : ZLc) (i : Nat) (v : Value) : ZLc := (zkill L i).set i (some v)
def zst2 (L : ZLc) (i : Nat) (v : Value) : ZLc := ((zkill L i).set (i + 1) none).set i (some v)
theorem zset_some {L : ZLc} {i j : Nat} {w : Value} (h : (L.set j none)[i]? = some (some w)) : L[i]? = some (some w) ∧ i ≠ j := by
  rw [List.getElem?_set] at h
  by_cases e : j = i
  · rw [if_pos e] at h
    split at h <;> simp at h
  · rw [if_neg e] at h
    exact ⟨h, fun q => e q.symm⟩
theorem zkill_some {L : ZLc} {i j : Nat} {w : Value} (h : (zkill L i)[j]? = some (some w)) : L[j]? = some (some w) ∧ ¬ (j + 1 = i ∧ w.category = 2) := by
  cases i with
  | zero => exact ⟨h, fun q => by omega⟩
  | succ i =>
    cases hi : L[i]? with
    | none =>
      simp only [zkill, hi] at h
      refine ⟨h, fun q => ?_⟩
      have : j = i := by omega
      subst this
      rw [hi] at h
      cases h
    | some o => cases o with
      | none =>
        simp only [zkill, hi] at h
        refine ⟨h, fun q => ?_⟩
        have : j = i := by omega
        subst this
        rw [hi] at h
        cases h
      | some v =>
        have key : (L.set i none)[j]? = some (some w) → L[j]? = some (some w) ∧ ¬ (j + 1 = i + 1 ∧ w.category = 2) := fun q => ⟨(zset_some q).1, fun z => (zset_some q).2 (by omega)⟩
        have key2 : v.category = 1 → L[j]? = some (some w) → L[j]? = some (some w) ∧ ¬ (j + 1 = i + 1 ∧ w.category = 2) := fun hv q => ⟨q, fun z => by
          have : j = i := by omega
          subst this
          rw [hi] at q
          have e : v = w := Option.some.inj (Option.some.inj q)
          rw [← e] at z
          omega⟩
        cases v <;> simp only [zkill, hi] at h <;> first | exact key h | exact key2 rfl h
theorem zst1_of {ls : Array Slot} {nL i : Nat} {L : ZLc} {v : Value} (h : lv_has ls nL ((i, v) :: (zlist L).filter (fun q => !(q.1 == i) && !(q.1 + 1 == i && q.2.category == 2)))) : zLH ls nL (zst1 L i v) := by
  refine ⟨h.1, h.2.1, fun j w hj => ?_⟩
  rw [zst1, List.getElem?_set] at hj
  by_cases e : i = j
  · subst e
    rw [if_pos rfl] at hj
    split at hj
    · have e2 : v = w := Option.some.inj (Option.some.inj hj)
      subst e2
      exact h.2.2 (i, v) List.mem_cons_self
    · cases hj
  · rw [if_neg e] at hj
    obtain ⟨h1, h2⟩ := zkill_some hj
    refine h.2.2 (j, w) (List.mem_cons_of_mem _ (List.mem_filter.mpr ⟨zlist_mem.mpr h1, ?_⟩))
    have e' : ¬ j = i := fun q => e q.symm
    by_cases q : j + 1 = i
    · have : ¬ w.category = 2 := fun z => h2 ⟨q, z⟩
      simp [e', this]
    · simp [e', q]
theorem zst2_of {ls : Array Slot} {nL i : Nat} {L : ZLc} {v : Value} (h : lv_has ls nL ((i, v) :: (zlist L).filter (fun q => !(q.1 == i) && (!(q.1 == i + 1) && !(q.1 + 1 == i && q.2.category == 2))))) : zLH ls nL (zst2 L i v) := by
  refine ⟨h.1, h.2.1, fun j w hj => ?_⟩
  rw [zst2, List.getElem?_set] at hj
  by_cases e : i = j
  · subst e
    rw [if_pos rfl] at hj
    split at hj
    · have e2 : v = w := Option.some.inj (Option.some.inj hj)
      subst e2
      exact h.2.2 (i, v) List.mem_cons_self
    · cases hj
  · rw [if_neg e] at hj
    obtain ⟨h0, h3⟩ := zset_some hj
    obtain ⟨h1, h2⟩ := zkill_some h0
    refine h.2.2 (j, w) (List.mem_cons_of_mem _ (List.mem_filter.mpr ⟨zlist_mem.mpr h1, ?_⟩))
    have e' : ¬ j = i := fun q => e q.symm
    by_cases q : j + 1 = i
    · have : ¬ w.category = 2 := fun z => h2 ⟨q, z⟩
      simp [e', h3, this]
    · simp [e', h3, q]
def zmL (ad : Nat → Nat) (L : ZLc) : ZLc := L.map (Option.map (zc ad))
theorem zmL_at {ad : Nat → Nat} {L : ZLc} {i : Nat} {v : Value} (h : L[i]? = some (some v)) : (zmL ad L)[i]? = some (some (zc ad v)) := by
  simp [zmL, h]
theorem zmL_set (ad : Nat → Nat) (L : ZLc) (i : Nat) (o : Option Value) : zmL ad (L.set i o) = (zmL ad L).set i (o.map (zc ad)) := by
  simp [zmL, List.map_set]
theorem zmL_kill (ad : Nat → Nat) (L : ZLc) (i : Nat) : zmL ad (zkill L i) = zkill (zmL ad L) i := by
  cases i with
  | zero => rfl
  | succ i =>
    cases hi : L[i]? with
    | none => simp [zkill, hi, zmL]
    | some o => cases o with
      | none => simp [zkill, hi, zmL]
      | some v => cases v <;> simp [zkill, hi, zmL, zc, List.map_set]
theorem zmL_st1 (ad : Nat → Nat) (L : ZLc) (i : Nat) (v : Value) : zmL ad (zst1 L i v) = zst1 (zmL ad L) i (zc ad v) := by
  rw [zst1, zst1, zmL_set, zmL_kill]; rfl
theorem zmL_st2 (ad : Nat → Nat) (L : ZLc) (i : Nat) (v : Value) : zmL ad (zst2 L i v) = zst2 (zmL ad L) i (zc ad v) := by
  rw [zst2, zst2, zmL_set, zmL_set, zmL_kill]; rfl
def zrm (d : Nat) : Room := { frames := d, cells := 0, slots := 0, locals := 40 * d }
def ZQ (G : va_G) (cI cQ : ClassId) (ad : Nat → Nat) (A : Nat → Prop) (Q : Option Value → ZMem → Prop) : Array Value → State → Outcome → State → Prop := fun _ st oc t => (∃ (v : Option Value) (M : ZMem), oc = .returned (v.map (zc ad)) ∧ Q v M ∧ ZW G cI cQ ad A M t.heap) ∧ va_F A st t
/-- the judgement: from pc, with these locals, this stack, this memory, the method returns with Q -/
def ZV (m : ZMD) (d : Nat) (Q : Option Value → ZMem → Prop) (pc : Nat) (L : ZLc) (st : List Value) (M : ZMem) : Prop :=
  ∀ (G : va_G) (cI cQ : ClassId) (ad : Nat → Nat) (A : Nat → Prop) (p : Program) (l : Launch) (e : Env) (s : State) (mi : MethodId) (args : Array Value) (below : List Frame) (meth : Method) (c : Code) (H : Heap) (locs : List Loc) (ls : Array Slot),
    CallFix p mi c m.2.1 m.2.2.1 s args zgt m.1.cls → meth.sig.returnType = m.2.2.2 → meth.locks = false → ZK G cI cQ ad A s s.heap → ZW G cI cQ ad A M H → va_S A s.heap H locs → zLH ls m.2.2.1 (zmL ad L) →
    W p l e (zrm d) s mi args below meth c H locs 0 0 (MQ below (ZQ G cI cQ ad A Q) args s 0 0 A) (F0 mi pc ls (st.map (zc ad)))
/-- a method's contract at given arguments and memory -/
def ZEx (m : ZMD) (d : Nat) (as : List Value) (M : ZMem) (Q : Option Value → ZMem → Prop) : Prop :=
  ∀ (l : Launch) (G : va_G) (cI cQ : ClassId) (ad : Nat → Nat) (A : Nat → Prop), Met l m.1 (Cond.code m.1 m.2.1 m.2.2.1 m.2.2.2 :: zgt) (zrm d) (va_Pc (as.map (zc ad)) (fun U => ZK G cI cQ ad A U U.heap ∧ ZW G cI cQ ad A M U.heap)) (ZQ G cI cQ ad A Q) 0 0 A
theorem ZQ.mono {G : va_G} {cI cQ : ClassId} {ad : Nat → Nat} {A : Nat → Prop} {Q Q' : Option Value → ZMem → Prop} (h : ∀ v M, Q v M → Q' v M) {a : Array Value} {st t : State} {oc : Outcome} (hq : ZQ G cI cQ ad A Q a st oc t) : ZQ G cI cQ ad A Q' a st oc t := by
  obtain ⟨⟨v, M, h1, h2, h3⟩, h4⟩ := hq
  exact ⟨⟨v, M, h1, h v M h2, h3⟩, h4⟩
theorem zv_mono {m : ZMD} {d : Nat} {Q Q' : Option Value → ZMem → Prop} {pc : Nat} {L : ZLc} {st : List Value} {M : ZMem} (h : ∀ v M, Q v M → Q' v M) (k : ZV m d Q pc L st M) : ZV m d Q' pc L st M := by
  intro G cI cQ ad A p l e s mi args below meth c H locs ls S hr hlk hK hW hS hL T hT X
  obtain ⟨t, a1, o, b1, b2, b3, b4⟩ := k G cI cQ ad A p l e s mi args below meth c H locs ls S hr hlk hK hW hS hL T hT X
  exact ⟨t, a1, o, b1, b2, ZQ.mono h b3, b4⟩
def zenl : List Value → ZLc
  | [] => []
  | v :: vs => if v.category = 2 then some v :: none :: zenl vs else some v :: zenl vs
def zent (as : List Value) (n : Nat) : ZLc := zenl as ++ List.replicate (n - (zenl as).length) none
theorem zenl_args {ad : Nat → Nat} : ∀ (as : List Value) (i0 i : Nat) (v : Value), (zenl as)[i]? = some (some v) → (i0 + i, zc ad v) ∈ lv_args i0 (as.map (zc ad)) := by
  intro as
  induction as with
  | nil => intro i0 i v h; simp [zenl] at h
  | cons a as ih =>
    intro i0 i v h
    by_cases hc : a.category = 2
    · simp only [zenl, hc, if_true] at h
      simp only [List.map_cons, lv_args, zc_cat, hc, if_true]
      match i, h with
      | 0, h => simp at h; subst h; exact List.mem_cons_self
      | 1, h => simp at h
      | j + 2, h =>
        simp at h
        have := ih (i0 + 2) j v h
        rw [show i0 + 2 + j = i0 + (j + 2) by omega] at this
        exact List.mem_cons_of_mem _ this
    · simp only [zenl, hc, if_false] at h
      simp only [List.map_cons, lv_args, zc_cat, hc, if_false]
      match i, h with
      | 0, h => simp at h; subst h; exact List.mem_cons_self
      | j + 1, h =>
        simp at h
        have := ih (i0 + 1) j v h
        rw [show i0 + 1 + j = i0 + (j + 1) by omega] at this
        exact List.mem_cons_of_mem _ this
theorem zent_LH {ad : Nat → Nat} {as : List Value} {n : Nat} (h : (zenl as).length ≤ n) : zLH ((lg_sl (as.map (zc ad)) ++ List.replicate (n - (lg_sl (as.map (zc ad))).length) Slot.unset).toArray) n (zmL ad (zent as n)) := by
  have hlen : (lg_sl (as.map (zc ad))).length = (zenl as).length := by
    clear h
    induction as with
    | nil => rfl
    | cons a as ih =>
      have e : lg_sl ((a :: as).map (zc ad)) = (if (zc ad a).category = 2 then [.val (zc ad a), .second] else [.val (zc ad a)]) ++ lg_sl (as.map (zc ad)) := by simp [lg_sl]
      rw [e, List.length_append, ih]
      by_cases hc : a.category = 2
      · simp [zenl, zc_cat, hc]; omega
      · simp [zenl, zc_cat, hc]; omega
  have h0 := lv_entry (as.map (zc ad)) (n := n) (by omega)
  refine ⟨h0.1, h0.2.1, fun i v hi => ?_⟩
  simp only [zmL, List.getElem?_map] at hi
  cases hx : (zent as n)[i]? with
  | none => rw [hx] at hi; simp at hi
  | some o => cases o with
    | none => rw [hx] at hi; simp at hi
    | some w =>
      rw [hx] at hi
      have e : zc ad w = v := Option.some.inj (Option.some.inj hi)
      rw [zent, List.getElem?_append] at hx
      split at hx
      · have := zenl_args (ad := ad) as 0 i w hx
        rw [Nat.zero_add, e] at this
        exact h0.2.2 (i, v) this
      · rw [List.getElem?_replicate] at hx
        split at hx <;> simp at hx
theorem zex_intro {m : ZMD} {d : Nat} {as : List Value} {M : ZMem} {Q : Option Value → ZMem → Prop} {L : ZLc} (hpl : plainName m.1.cls = true) (hlen : (zenl as).length ≤ m.2.2.1) (hL : zent as m.2.2.1 = L) (h : ZV m d Q 0 L [] M) : ZEx m d as M Q := by
  intro l G cI cQ ad A
  refine Met.ofW (cc := m.2.1) (maxL := m.2.2.1) (ret := m.2.2.2) hpl rfl ?_
  intro p e s mi args below meth c s₁ B hml hv
  obtain ⟨rfl, hK, hW⟩ := hv
  subst hL
  have hts := atoms_spec (ws := Cond.code m.1 m.2.1 m.2.2.1 m.2.2.2 :: zgt) B.pre
  rw [lg_entry_eq]
  exact h G cI cQ ad A p l e s mi _ below meth c s.heap [] _ ⟨B.exec, B.bytes, hml, findClass_of_methodNamed B.named, fun w hw => hts w (List.mem_cons_of_mem _ hw)⟩ B.returns B.notSynchronized hK hW va_S.rf (zent_LH hlen)
theorem zex_mono {m : ZMD} {d : Nat} {as : List Value} {M : ZMem} {Q Q' : Option Value → ZMem → Prop} (h : ∀ v M, Q v M → Q' v M) (k : ZEx m d as M Q) : ZEx m d as M Q' := by
  intro l G cI cQ ad A p e ha hc hk s mi args below hf happ hP hT
  obtain ⟨t, o, a1, b1, b2, b3, b4⟩ := k l G cI cQ ad A p e ha hc hk s mi args below hf happ hP hT
  exact ⟨t, o, a1, b1, b2, ZQ.mono h b3, b4⟩
end
